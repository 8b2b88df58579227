/-! the cells of each kind -/
abbrev wT (τ : SX) (a : Nat → Nat) (lw : Nat → Int32) (kd : Nat → Int32) (bt : Nat → Int32) (ph : Nat → Int32) (cn : Nat → Int32) (no : Nat → Int32) (ct : Int32) (sc : Int32) (rn : Int32) (lg : Int32) (dn : Int32) (zz : Int32) : va_W := [(a 0, .inr (4, [.ref (a 1), .ref (a 2), .ref (a 3), .ref (a 4), .ref (a 5), .ref (a 6), .int ct, .int sc, .int rn, .int lg, .int dn, .int zz])), (a 1, .inl (τ.2.2.1 0, 4, .inl lw)), (a 2, .inl (τ.2.2.1 0, 8, .inl kd)), (a 3, .inl (τ.2.2.1 0, 8, .inl bt)), (a 4, .inl (τ.2.2.1 0, 8, .inl ph)), (a 5, .inl (τ.2.2.1 0, 8, .inl cn)), (a 6, .inl (τ.2.2.1 0, 8, .inl no))]
abbrev wP (τ : SX) (a : Nat → Nat) (bs : Nat → Int32) (tz : Int32) (so : Int32) (fr : Int32) (tt : Int32) (ft : Int32) : va_W := [(a 0, .inr (3, [.ref (a 1), .int tz, .int so, .int fr, .int tt, .int ft])), (a 1, .inl (τ.2.2.1 0, 200, .inl bs))]
abbrev wS (τ : SX) (a : Nat → Nat) (it : Nat → Int64) (sr : Int32) (si : Int32) : va_W := [(a 0, .inr (1, [.ref (a 1), .int sr, .int si])), (a 1, .inl (τ.2.2.1 1, 40, .inr (.inl it)))]
abbrev wH (τ : SX) (a : Nat → Nat) (hw : Int32) (hn : Int32) (hs : Int32) (hz : Int32) : va_W := [(a 0, .inr (2, [.int hw, .int hn, .int hs, .int hz]))]
abbrev wA (τ : SX) (a : Nat → Nat) (bo : Nat → Int32) (bg : Int32) (ak : Int32) (an : Int32) (aa : Int32) (ip : Int32) : va_W := [(a 0, .inr (0, [.ref (a 1), .int bg, .int ak, .int an, .int aa, .int ip])), (a 1, .inl (τ.2.2.1 0, 30, .inl bo))]
abbrev wM (τ : SX) (a : Nat → Nat) (ss : Nat → Int32) (hd : Nat → Int32) (as_ : Nat → Int32) (bf : Nat → Int32) (ih : Int32) (tp : Nat → Int32) (tn : Int32) (tk : Int32) (fr : Int32) (tt : Int32) (vl : Int32) (iw : Int32) (ld : Nat → Int32) (rw : Nat → Int32) (rn : Int32) (so : Nat → Int32) (sz_ : Nat → Int32) (nu : Nat → Int32) (hw : Nat → Int32) (hh : Nat → Int32) (hm : Nat → Int32) (bo : Nat → Int32) (rr : Int32) (ak : Int32) (an : Int32) (aa : Int32) (ip : Int32) : va_W := [(a 0, .inr (6, [.ref (a 1), .ref (a 2), .ref (a 3), .ref (a 4), .int ih, .ref (a 5), .int tn, .int tk, .int fr, .int tt, .int vl, .int iw, .ref (a 6), .ref (a 7), .int rn, .ref (a 8), .ref (a 9), .ref (a 10), .ref (a 11), .ref (a 12), .ref (a 13), .ref (a 14), .int rr, .int ak, .int an, .int aa, .int ip])), (a 1, .inl (τ.2.2.1 0, 50, .inl ss)), (a 2, .inl (τ.2.2.1 0, 50, .inl hd)), (a 3, .inl (τ.2.2.1 0, 50, .inl as_)), (a 4, .inl (τ.2.2.1 0, 50, .inl bf)), (a 5, .inl (τ.2.2.1 0, 200, .inl tp)), (a 6, .inl (τ.2.2.1 0, 12, .inl ld)), (a 7, .inl (τ.2.2.1 0, 30, .inl rw)), (a 8, .inl (τ.2.2.1 0, 4, .inl so)), (a 9, .inl (τ.2.2.1 0, 4, .inl sz_)), (a 10, .inl (τ.2.2.1 0, 160, .inl nu)), (a 11, .inl (τ.2.2.1 0, 4, .inl hw)), (a 12, .inl (τ.2.2.1 0, 4, .inl hh)), (a 13, .inl (τ.2.2.1 0, 4, .inl hm)), (a 14, .inl (τ.2.2.1 0, 30, .inl bo))]
-- X5_isIn
def f_X5_isIn (x0 : Int32) (x1 : Int32) (x2 : Int32) : Int32 := if (x0 < x1) then (0 : Int32) else (if (x2 < x0) then (0 : Int32) else (1 : Int32))
theorem qd_X5_isIn : yX5_isIn.cls ≠ "java/lang/invoke/MethodHandle" ∧ yX5_isIn.cls ≠ "java/lang/invoke/VarHandle" ∧ (parseMethodDescriptor yX5_isIn.desc).map (fun d => d.parameters.length) = some 3 := by decide +kernel
abbrev rmX5_isIn : Room := { frames := 0, cells := 0, slots := 0, locals := 0 }
set_option maxHeartbeats 4000000 in
set_option maxRecDepth 100000 in
theorem c_X5_isIn (τ : SX) (x0 : Int32) (x1 : Int32) (x2 : Int32) (sz : Nat) : McI τ yX5_isIn wsX5_isIn rmX5_isIn .boolean [.int x0, .int x1, .int x2] [] (fun _ : Unit => []) (f_X5_isIn x0 x1 x2, ()) sz := by
  refine mc_I (cc := cX5_isIn) (own := RX5) [(0, .int x0), (1, .int x1), (2, .int x2)] rfl (by decide) rfl rfl (Nat.le_of_ble_eq_true rfl) (fun κ C hR => ?_)
  unfold f_X5_isIn at hR
  refine j_iload_n C dX5_isIn_0 1 rfl rfl 0 rfl ?_
  refine j_iload_n C dX5_isIn_1 2 rfl rfl 1 rfl ?_
  refine j_icmp_lt C dX5_isIn_2 14 rfl 5 rfl (fun c1 => ?_) (fun c1 => ?_)
  · rw [if_pos c1] at hR
    refine j_iconst (v := 0) C dX5_isIn_14 15 rfl (by decide) ?_
    exact hR rfl _ _ dX5_isIn_15
  · rw [if_neg c1] at hR
    refine j_iload_n C dX5_isIn_5 6 rfl rfl 0 rfl ?_
    refine j_iload_n C dX5_isIn_6 7 rfl rfl 2 rfl ?_
    refine j_icmp_gt C dX5_isIn_7 14 rfl 10 rfl (fun c2 => ?_) (fun c2 => ?_)
    · rw [if_pos c2] at hR
      refine j_iconst (v := 0) C dX5_isIn_14 15 rfl (by decide) ?_
      exact hR rfl _ _ dX5_isIn_15
    · rw [if_neg c2] at hR
      refine j_iconst (v := 1) C dX5_isIn_10 11 rfl (by decide) ?_
      refine j_goto C dX5_isIn_11 15 rfl ?_
      exact hR rfl _ _ dX5_isIn_15

-- J6_bitCount_0f7a4
def f_J6_bitCount_0f7a4 (x0 : Int32) : Int32 := let zn1 := (x0 - (((x0.toUInt32 >>> ((1 : Int32).toUInt32 &&& Int32.toUInt32 31)).toInt32) &&& 1431655765)); let zn2 := ((zn1 &&& 858993459) + (((zn1.toUInt32 >>> ((2 : Int32).toUInt32 &&& Int32.toUInt32 31)).toInt32) &&& 858993459)); let zn3 := ((zn2 + ((zn2.toUInt32 >>> ((4 : Int32).toUInt32 &&& Int32.toUInt32 31)).toInt32)) &&& 252645135); let zn4 := ((zn3 + ((zn3.toUInt32 >>> ((8 : Int32).toUInt32 &&& Int32.toUInt32 31)).toInt32)) + (((zn3 + ((zn3.toUInt32 >>> ((8 : Int32).toUInt32 &&& Int32.toUInt32 31)).toInt32)).toUInt32 >>> ((16 : Int32).toUInt32 &&& Int32.toUInt32 31)).toInt32)); (zn4 &&& 63)
theorem kJ6_bitCount_0f7a4_c265 : Cond.constant RJ6 265 1431655765 ∈ wsJ6_bitCount_0f7a4 := by decide +kernel
theorem kJ6_bitCount_0f7a4_c266 : Cond.constant RJ6 266 858993459 ∈ wsJ6_bitCount_0f7a4 := by decide +kernel
theorem kJ6_bitCount_0f7a4_c267 : Cond.constant RJ6 267 252645135 ∈ wsJ6_bitCount_0f7a4 := by decide +kernel
theorem qd_J6_bitCount_0f7a4 : yJ6_bitCount_0f7a4.cls ≠ "java/lang/invoke/MethodHandle" ∧ yJ6_bitCount_0f7a4.cls ≠ "java/lang/invoke/VarHandle" ∧ (parseMethodDescriptor yJ6_bitCount_0f7a4.desc).map (fun d => d.parameters.length) = some 1 := by decide +kernel
abbrev rmJ6_bitCount_0f7a4 : Room := { frames := 0, cells := 0, slots := 0, locals := 0 }
set_option maxHeartbeats 4000000 in
set_option maxRecDepth 100000 in
theorem c_J6_bitCount_0f7a4 (τ : SX) (x0 : Int32) (sz : Nat) : McI τ yJ6_bitCount_0f7a4 wsJ6_bitCount_0f7a4 rmJ6_bitCount_0f7a4 .int [.int x0] [] (fun _ : Unit => []) (f_J6_bitCount_0f7a4 x0, ()) sz := by
  refine mc_I (cc := cJ6_bitCount_0f7a4) (own := RJ6) [(0, .int x0)] rfl (by decide) rfl rfl (Nat.le_of_ble_eq_true rfl) (fun κ C hR => ?_)
  unfold f_J6_bitCount_0f7a4 at hR
  refine j_iload_n C dJ6_bitCount_0f7a4_0 1 rfl rfl 0 rfl ?_
  refine j_iload_n C dJ6_bitCount_0f7a4_1 2 rfl rfl 0 rfl ?_
  refine j_iconst (v := 1) C dJ6_bitCount_0f7a4_2 3 rfl (by decide) ?_
  refine j_iushr C dJ6_bitCount_0f7a4_3 4 rfl ?_
  refine j_ldcw C dJ6_bitCount_0f7a4_4 7 rfl kJ6_bitCount_0f7a4_c265 ?_
  refine j_iand C dJ6_bitCount_0f7a4_7 8 rfl ?_
  refine j_isub C dJ6_bitCount_0f7a4_8 9 rfl ?_
  refine j_nmi (fun n1 en1 => ?_)
  rw [← en1] at hR
  try dsimp only at hR
  refine j_istore_n C dJ6_bitCount_0f7a4_9 10 rfl rfl (by decide) [(0, .int n1)] rfl ?_
  refine j_iload_n C dJ6_bitCount_0f7a4_10 11 rfl rfl 0 rfl ?_
  refine j_ldcw C dJ6_bitCount_0f7a4_11 14 rfl kJ6_bitCount_0f7a4_c266 ?_
  refine j_iand C dJ6_bitCount_0f7a4_14 15 rfl ?_
  refine j_iload_n C dJ6_bitCount_0f7a4_15 16 rfl rfl 0 rfl ?_
  refine j_iconst (v := 2) C dJ6_bitCount_0f7a4_16 17 rfl (by decide) ?_
  refine j_iushr C dJ6_bitCount_0f7a4_17 18 rfl ?_
  refine j_ldcw C dJ6_bitCount_0f7a4_18 21 rfl kJ6_bitCount_0f7a4_c266 ?_
  refine j_iand C dJ6_bitCount_0f7a4_21 22 rfl ?_
  refine j_iadd C dJ6_bitCount_0f7a4_22 23 rfl ?_
  refine j_nmi (fun n2 en2 => ?_)
  rw [← en2] at hR
  try dsimp only at hR
  refine j_istore_n C dJ6_bitCount_0f7a4_23 24 rfl rfl (by decide) [(0, .int n2)] rfl ?_
  refine j_iload_n C dJ6_bitCount_0f7a4_24 25 rfl rfl 0 rfl ?_
  refine j_iload_n C dJ6_bitCount_0f7a4_25 26 rfl rfl 0 rfl ?_
  refine j_iconst (v := 4) C dJ6_bitCount_0f7a4_26 27 rfl (by decide) ?_
  refine j_iushr C dJ6_bitCount_0f7a4_27 28 rfl ?_
  refine j_iadd C dJ6_bitCount_0f7a4_28 29 rfl ?_
  refine j_ldcw C dJ6_bitCount_0f7a4_29 32 rfl kJ6_bitCount_0f7a4_c267 ?_
  refine j_iand C dJ6_bitCount_0f7a4_32 33 rfl ?_
  refine j_nmi (fun n3 en3 => ?_)
  rw [← en3] at hR
  try dsimp only at hR
  refine j_istore_n C dJ6_bitCount_0f7a4_33 34 rfl rfl (by decide) [(0, .int n3)] rfl ?_
  refine j_iload_n C dJ6_bitCount_0f7a4_34 35 rfl rfl 0 rfl ?_
  refine j_iload_n C dJ6_bitCount_0f7a4_35 36 rfl rfl 0 rfl ?_
  refine j_bipush (v := 8) C dJ6_bitCount_0f7a4_36 38 rfl (by decide) ?_
  refine j_iushr C dJ6_bitCount_0f7a4_38 39 rfl ?_
  refine j_iadd C dJ6_bitCount_0f7a4_39 40 rfl ?_
  refine j_istore_n C dJ6_bitCount_0f7a4_40 41 rfl rfl (by decide) [(0, .int (n3 + ((n3.toUInt32 >>> ((8 : Int32).toUInt32 &&& Int32.toUInt32 31)).toInt32)))] rfl ?_
  refine j_iload_n C dJ6_bitCount_0f7a4_41 42 rfl rfl 0 rfl ?_
  refine j_iload_n C dJ6_bitCount_0f7a4_42 43 rfl rfl 0 rfl ?_
  refine j_bipush (v := 16) C dJ6_bitCount_0f7a4_43 45 rfl (by decide) ?_
  refine j_iushr C dJ6_bitCount_0f7a4_45 46 rfl ?_
  refine j_iadd C dJ6_bitCount_0f7a4_46 47 rfl ?_
  refine j_nmi (fun n4 en4 => ?_)
  rw [← en4] at hR
  try dsimp only at hR
  refine j_istore_n C dJ6_bitCount_0f7a4_47 48 rfl rfl (by decide) [(0, .int n4)] rfl ?_
  refine j_iload_n C dJ6_bitCount_0f7a4_48 49 rfl rfl 0 rfl ?_
  refine j_bipush (v := 63) C dJ6_bitCount_0f7a4_49 51 rfl (by decide) ?_
  refine j_iand C dJ6_bitCount_0f7a4_51 52 rfl ?_
  exact hR rfl _ _ dJ6_bitCount_0f7a4_52

-- X4_forget
def l_X4_forget_17  : Nat → Int32 → (Nat → Int32) → Int32 × (Nat → Int32)
  | 0, x1, no => (x1, no)
  | N + 1, x1, no => if (8 ≤ x1) then (x1, no) else (l_X4_forget_17 N (x1 + 1) (upd no (x1).toNatClampNeg 0))
def f_X4_forget (no : Nat → Int32) : (Nat → Int32) × Int32 × Int32 × Int32 := let z1 := l_X4_forget_17 300 (0 : Int32) no; (z1.2, (0 : Int32), (0 : Int32), (0 : Int32))
theorem kX4_forget_f55 : Cond.fieldLink RX4 55 "TwoMinutes$Town" "run" "I" ∈ wsX4_forget := by decide +kernel
theorem kX4_forget_f58 : Cond.fieldLink RX4 58 "TwoMinutes$Town" "longest" "I" ∈ wsX4_forget := by decide +kernel
theorem kX4_forget_f61 : Cond.fieldLink RX4 61 "TwoMinutes$Town" "done" "I" ∈ wsX4_forget := by decide +kernel
theorem kX4_forget_f27 : Cond.fieldLink RX4 27 "TwoMinutes$Town" "noises" "[I" ∈ wsX4_forget := by decide +kernel
theorem qd_X4_forget : yX4_forget.cls = RX4 ∧ yX4_forget.cls ≠ "java/lang/invoke/MethodHandle" ∧ yX4_forget.cls ≠ "java/lang/invoke/VarHandle" ∧ (parseMethodDescriptor yX4_forget.desc).map (fun d => d.parameters.length) = some 0 := by decide +kernel
abbrev rmX4_forget : Room := { frames := 0, cells := 0, slots := 0, locals := 0 }
set_option maxHeartbeats 4000000 in
set_option maxRecDepth 100000 in
theorem L_X4_forget_17 {τ : SX} {κ : KX} (C : Cx τ κ cX4_forget RX4 wsX4_forget rmX4_forget 2) (a : Nat → Nat) (lw : Nat → Int32) (kd : Nat → Int32) (bt : Nat → Int32) (ph : Nat → Int32) (cn : Nat → Int32) (ct : Int32) (sc : Int32) (rn : Int32) (lg : Int32) (dn : Int32) (zz : Int32) (Φ : Int32 × (Nat → Int32) → Prop) (hE : ∀ (x1 : Int32) (no : Nat → Int32), Φ (x1, no) → J τ κ 0 0 (wT τ a lw kd bt ph cn no ct sc rn lg dn zz) [(0, .ref (a 0)), (1, .int x1)] 36 []) : ∀ (N : Nat) (x1 : Int32) (no : Nat → Int32), ((8 : Int) - x1.toInt).toNat < N → (0 ≤ x1.toInt) → (x1.toInt ≤ 8) → Φ (l_X4_forget_17 N x1 no) → J τ κ 0 0 (wT τ a lw kd bt ph cn no ct sc rn lg dn zz) [(0, .ref (a 0)), (1, .int x1)] 17 [] := by
  have hiX4 : ∀ w ∈ wsX40, w ∈ wsX4_forget := fun w h => List.mem_cons_of_mem _ (List.mem_append_right _ h)
  intro N
  induction N with
  | zero => intro x1 no hm; exact absurd hm (Nat.not_lt_zero _)
  | succ N ih =>
    intro x1 no hm h0 h1 hR
    rw [l_X4_forget_17] at hR
    refine j_iload_n C dX4_forget_17 18 rfl rfl 1 rfl ?_
    refine j_bipush (v := 8) C dX4_forget_18 20 rfl (by decide) ?_
    refine j_icmp_ge C dX4_forget_20 36 rfl 23 rfl (fun c2 => ?_) (fun c2 => ?_)
    · rw [if_pos c2] at hR
      exact j_lv [0, 1] [(0, .ref (a 0)), (1, .int x1)] rfl (hE _ _  hR)
    · rw [if_neg c2] at hR
      have hs := cnt_step (B := 8) h0 (by decide) (by decide) c2
      refine j_aload_n C dX4_forget_23 24 rfl rfl 0 rfl ?_
      refine j_get C dX4_forget_24 27 rfl hiX4 0 rfl rfl 5 (by decide) rfl kX4_forget_f27 rfl ?_
      refine j_iload_n C dX4_forget_27 28 rfl rfl 1 rfl ?_
      refine j_iconst (v := 0) C dX4_forget_28 29 rfl (by decide) ?_
      refine j_iast C dX4_forget_29 30 rfl 6 rfl (by first | assumption | exact vp_in_iff.mpr ⟨by omega, by omega⟩ | exact nz_nle (by assumption) | exact nz_lt (by assumption) | omega) (x1).toNatClampNeg rfl (wT τ a lw kd bt ph cn (upd no (x1).toNatClampNeg 0) ct sc rn lg dn zz) rfl ?_
      refine j_iinc (v := (x1 + 1)) C dX4_forget_30 33 rfl 1 rfl rfl (by decide) [(1, .int (x1 + 1)), (0, .ref (a 0))] rfl ?_
      refine j_goto C dX4_forget_33 17 rfl ?_
      exact j_lv [1, 0] [(0, .ref (a 0)), (1, .int (x1 + 1))] rfl (ih _ _ (by have := hs.2.2.1; omega) hs.1 hs.2.1 hR)
set_option maxHeartbeats 4000000 in
set_option maxRecDepth 100000 in
theorem c_X4_forget (τ : SX) (a : Nat → Nat) (lw : Nat → Int32) (kd : Nat → Int32) (bt : Nat → Int32) (ph : Nat → Int32) (cn : Nat → Int32) (no : Nat → Int32) (ct : Int32) (sc : Int32) (rn : Int32) (lg : Int32) (dn : Int32) (zz : Int32) (sz : Nat) : McV τ yX4_forget wsX4_forget rmX4_forget [.ref (a 0)] (wT τ a lw kd bt ph cn no ct sc rn lg dn zz) (fun u : (Nat → Int32) × Int32 × Int32 × Int32 => (wT τ a lw kd bt ph cn u.1 ct sc u.2.1 u.2.2.1 u.2.2.2 zz)) (f_X4_forget no) 0 0 sz := by
  refine mc_V (cc := cX4_forget) (own := RX4) [(0, .ref (a 0))] rfl (by decide) rfl rfl (Nat.le_of_ble_eq_true rfl) (fun κ C _ hR => ?_)
  have hiX4 : ∀ w ∈ wsX40, w ∈ wsX4_forget := fun w h => List.mem_cons_of_mem _ (List.mem_append_right _ h)
  unfold f_X4_forget at hR
  refine j_aload_n C dX4_forget_0 1 rfl rfl 0 rfl ?_
  refine j_iconst (v := 0) C dX4_forget_1 2 rfl (by decide) ?_
  refine j_put C dX4_forget_2 5 rfl hiX4 tyX4_ok nmX4 0 rfl rfl 8 (by decide) rfl kX4_forget_f55 rfl rfl rfl (Nat.le_of_ble_eq_true rfl) (wT τ a lw kd bt ph cn no ct sc 0 lg dn zz) rfl ?_
  refine j_aload_n C dX4_forget_5 6 rfl rfl 0 rfl ?_
  refine j_iconst (v := 0) C dX4_forget_6 7 rfl (by decide) ?_
  refine j_put C dX4_forget_7 10 rfl hiX4 tyX4_ok nmX4 0 rfl rfl 9 (by decide) rfl kX4_forget_f58 rfl rfl rfl (Nat.le_of_ble_eq_true rfl) (wT τ a lw kd bt ph cn no ct sc 0 0 dn zz) rfl ?_
  refine j_aload_n C dX4_forget_10 11 rfl rfl 0 rfl ?_
  refine j_iconst (v := 0) C dX4_forget_11 12 rfl (by decide) ?_
  refine j_put C dX4_forget_12 15 rfl hiX4 tyX4_ok nmX4 0 rfl rfl 10 (by decide) rfl kX4_forget_f61 rfl rfl rfl (Nat.le_of_ble_eq_true rfl) (wT τ a lw kd bt ph cn no ct sc 0 0 0 zz) rfl ?_
  refine j_iconst (v := 0) C dX4_forget_15 16 rfl (by decide) ?_
  refine j_istore_n C dX4_forget_16 17 rfl rfl (by decide) [(1, .int 0), (0, .ref (a 0))] rfl ?_
  refine j_lv [1, 0] [(0, .ref (a 0)), (1, .int 0)] rfl (L_X4_forget_17 C a lw kd bt ph cn ct sc 0 0 0 zz   (fun (o : Int32 × (Nat → Int32)) => RtV τ κ cX4_forget 0 0 (fun u : (Nat → Int32) × Int32 × Int32 × Int32 => (wT τ a lw kd bt ph cn u.1 ct sc u.2.1 u.2.2.1 u.2.2.2 zz)) ((o.2, (0 : Int32), (0 : Int32), (0 : Int32)))) (fun x1_1 no_1  hR => ?_) 300 (0 : Int32) no (by decide) (by decide) (by decide) hR)
  try dsimp only at hR
  exact hR _ _ dX4_forget_36

-- X4_clear
def f_X4_clear (lw : Nat → Int32) (no : Nat → Int32) : (Nat → Int32) × (Nat → Int32) × Int32 × Int32 × Int32 × Int32 × Int32 := let z1 := (f_X4_forget no); ((va_cpy (saG 0) lw 0 0 4), z1.1, (0 : Int32), (0 : Int32), z1.2.1, z1.2.2.1, z1.2.2.2)
theorem kX4_clear_f9 : Cond.fieldLink RX4 9 "TwoMinutes$Town" "laws" "[I" ∈ wsX4_clear := by decide +kernel
theorem kX4_clear_m40 : Cond.methodLink RX4 40 arraycopyName ∈ wsX4_clear := by decide +kernel
theorem kX4_clear_nac : Cond.native arraycopyName ∈ wsX4_clear := by decide +kernel
theorem kX4_clear_sac : Cond.static arraycopyName ∈ wsX4_clear := by decide +kernel
theorem kX4_clear_iSystem : Cond.initialized "java/lang/System" ∈ wsX4_clear := by decide +kernel
theorem kX4_clear_f46 : Cond.fieldLink RX4 46 "TwoMinutes$Town" "count" "I" ∈ wsX4_clear := by decide +kernel
theorem kX4_clear_f49 : Cond.fieldLink RX4 49 "TwoMinutes$Town" "second" "I" ∈ wsX4_clear := by decide +kernel
theorem qd_X4_clear : yX4_clear.cls = RX4 ∧ yX4_clear.cls ≠ "java/lang/invoke/MethodHandle" ∧ yX4_clear.cls ≠ "java/lang/invoke/VarHandle" ∧ (parseMethodDescriptor yX4_clear.desc).map (fun d => d.parameters.length) = some 0 := by decide +kernel
abbrev rmX4_clear : Room := { frames := 1, cells := 0, slots := 0, locals := 26 }
set_option maxHeartbeats 4000000 in
set_option maxRecDepth 100000 in
theorem c_X4_clear (τ : SX) (a : Nat → Nat) (lw : Nat → Int32) (kd : Nat → Int32) (bt : Nat → Int32) (ph : Nat → Int32) (cn : Nat → Int32) (no : Nat → Int32) (ct : Int32) (sc : Int32) (rn : Int32) (lg : Int32) (dn : Int32) (zz : Int32) (sz : Nat) : McV τ yX4_clear wsX4_clear rmX4_clear [.ref (a 0)] (wT τ a lw kd bt ph cn no ct sc rn lg dn zz) (fun u : (Nat → Int32) × (Nat → Int32) × Int32 × Int32 × Int32 × Int32 × Int32 => (wT τ a u.1 kd bt ph cn u.2.1 u.2.2.1 u.2.2.2.1 u.2.2.2.2.1 u.2.2.2.2.2.1 u.2.2.2.2.2.2 zz)) (f_X4_clear lw no) 0 0 sz := by
  refine mc_V (cc := cX4_clear) (own := RX4) [(0, .ref (a 0))] rfl (by decide) rfl rfl (Nat.le_of_ble_eq_true rfl) (fun κ C _ hR => ?_)
  have hiX4 : ∀ w ∈ wsX40, w ∈ wsX4_clear := fun w h => List.mem_cons_of_mem _ (List.mem_append_right _ h)
  unfold f_X4_clear at hR
  refine j_getsN (host := RX5) C dX4_clear_0 3 rfl 0 rfl rfl rfl rfl (by decide +kernel) ?_
  refine j_iconst (v := 0) C dX4_clear_3 4 rfl (by decide) ?_
  refine j_aload_n C dX4_clear_4 5 rfl rfl 0 rfl ?_
  refine j_get C dX4_clear_5 8 rfl hiX4 0 rfl rfl 0 (by decide) rfl kX4_clear_f9 rfl ?_
  refine j_iconst (v := 0) C dX4_clear_8 9 rfl (by decide) ?_
  refine j_iconst (v := 4) C dX4_clear_9 10 rfl (by decide) ?_
  refine j_copyS C dX4_clear_10 13 rfl kX4_clear_m40 kX4_clear_nac kX4_clear_sac kX4_clear_iSystem 0 rfl 1 rfl (by decide) (by decide) (by decide) (by decide) (Nat.le_of_ble_eq_true rfl) 4 rfl (wT τ a (va_cpy (saG 0) lw 0 0 4) kd bt ph cn no ct sc rn lg dn zz) rfl ?_
  refine j_aload_n C dX4_clear_13 14 rfl rfl 0 rfl ?_
  refine j_iconst (v := 0) C dX4_clear_14 15 rfl (by decide) ?_
  refine j_put C dX4_clear_15 18 rfl hiX4 tyX4_ok nmX4 0 rfl rfl 6 (by decide) rfl kX4_clear_f46 rfl rfl rfl (Nat.le_of_ble_eq_true rfl) (wT τ a (va_cpy (saG 0) lw 0 0 4) kd bt ph cn no 0 sc rn lg dn zz) rfl ?_
  refine j_aload_n C dX4_clear_18 19 rfl rfl 0 rfl ?_
  refine j_iconst (v := 0) C dX4_clear_19 20 rfl (by decide) ?_
  refine j_put C dX4_clear_20 23 rfl hiX4 tyX4_ok nmX4 0 rfl rfl 7 (by decide) rfl kX4_clear_f49 rfl rfl rfl (Nat.le_of_ble_eq_true rfl) (wT τ a (va_cpy (saG 0) lw 0 0 4) kd bt ph cn no 0 0 rn lg dn zz) rfl ?_
  refine j_aload_n C dX4_clear_23 24 rfl rfl 0 rfl ?_
  refine j_cv0V (na := 0) C dX4_clear_24 27 rfl (c_X4_forget τ a (va_cpy (saG 0) lw 0 0 4) kd bt ph cn no 0 0 rn lg dn zz ) gX4_clear_X4_forget rfl rfl rfl qd_X4_forget rfl ⟨by decide, by decide⟩ ⟨by decide, by decide⟩ rfl (Nat.le_of_ble_eq_true rfl) rfl 4 0 rfl rfl (fun u1 hX1 => ?_)
  obtain ⟨no_1, rn_1, lg_1, dn_1⟩ := u1
  rw [hX1] at hR
  try dsimp only at hR
  exact hR _ _ dX4_clear_27

-- X4_isOnBeat
def f_X4_isOnBeat (bt : Nat → Int32) (ph : Nat → Int32) (sc : Int32) (x1 : Int32) : Int32 := if ((bt (x1).toNatClampNeg) ≤ 0) then (0 : Int32) else (if (((sc + (ph (x1).toNatClampNeg)) - (sc + (ph (x1).toNatClampNeg)) / (bt (x1).toNatClampNeg) * (bt (x1).toNatClampNeg)) = 0) then (1 : Int32) else (0 : Int32))
theorem kX4_isOnBeat_f18 : Cond.fieldLink RX4 18 "TwoMinutes$Town" "beats" "[I" ∈ wsX4_isOnBeat := by decide +kernel
theorem kX4_isOnBeat_f49 : Cond.fieldLink RX4 49 "TwoMinutes$Town" "second" "I" ∈ wsX4_isOnBeat := by decide +kernel
theorem kX4_isOnBeat_f21 : Cond.fieldLink RX4 21 "TwoMinutes$Town" "phases" "[I" ∈ wsX4_isOnBeat := by decide +kernel
theorem qd_X4_isOnBeat : yX4_isOnBeat.cls = RX4 ∧ yX4_isOnBeat.cls ≠ "java/lang/invoke/MethodHandle" ∧ yX4_isOnBeat.cls ≠ "java/lang/invoke/VarHandle" ∧ (parseMethodDescriptor yX4_isOnBeat.desc).map (fun d => d.parameters.length) = some 1 := by decide +kernel
abbrev rmX4_isOnBeat : Room := { frames := 0, cells := 0, slots := 0, locals := 0 }
set_option maxHeartbeats 4000000 in
set_option maxRecDepth 100000 in
theorem c_X4_isOnBeat (τ : SX) (a : Nat → Nat) (lw : Nat → Int32) (kd : Nat → Int32) (bt : Nat → Int32) (ph : Nat → Int32) (cn : Nat → Int32) (no : Nat → Int32) (ct : Int32) (sc : Int32) (rn : Int32) (lg : Int32) (dn : Int32) (zz : Int32) (x1 : Int32) (hv : vp_in x1 8) (sz : Nat) : McI τ yX4_isOnBeat wsX4_isOnBeat rmX4_isOnBeat .boolean [.ref (a 0), .int x1] (wT τ a lw kd bt ph cn no ct sc rn lg dn zz) (fun _ : Unit => (wT τ a lw kd bt ph cn no ct sc rn lg dn zz)) (f_X4_isOnBeat bt ph sc x1, ()) sz := by
  refine mc_I (cc := cX4_isOnBeat) (own := RX4) [(0, .ref (a 0)), (1, .int x1)] rfl (by decide) rfl rfl (Nat.le_of_ble_eq_true rfl) (fun κ C hR => ?_)
  have hiX4 : ∀ w ∈ wsX40, w ∈ wsX4_isOnBeat := fun w h => List.mem_cons_of_mem _ (List.mem_append_right _ h)
  unfold f_X4_isOnBeat at hR
  refine j_aload_n C dX4_isOnBeat_0 1 rfl rfl 0 rfl ?_
  refine j_get C dX4_isOnBeat_1 4 rfl hiX4 0 rfl rfl 2 (by decide) rfl kX4_isOnBeat_f18 rfl ?_
  refine j_iload_n C dX4_isOnBeat_4 5 rfl rfl 1 rfl ?_
  refine j_iald C dX4_isOnBeat_5 6 rfl 3 rfl (by first | assumption | exact vp_in_iff.mpr ⟨by omega, by omega⟩ | exact nz_nle (by assumption) | exact nz_lt (by assumption) | omega) (x1).toNatClampNeg rfl ?_
  refine j_istore_n C dX4_isOnBeat_6 7 rfl rfl (by decide) [(2, .int (bt (x1).toNatClampNeg)), (0, .ref (a 0)), (1, .int x1)] rfl ?_
  refine j_iload_n C dX4_isOnBeat_7 8 rfl rfl 0 rfl ?_
  refine j_if_le C dX4_isOnBeat_8 31 rfl 11 rfl (fun c1 => ?_) (fun c1 => ?_)
  · rw [if_pos c1] at hR
    refine j_iconst (v := 0) C dX4_isOnBeat_31 32 rfl (by decide) ?_
    exact hR rfl _ _ dX4_isOnBeat_32
  · rw [if_neg c1] at hR
    refine j_aload_n C dX4_isOnBeat_11 12 rfl rfl 1 rfl ?_
    refine j_get C dX4_isOnBeat_12 15 rfl hiX4 0 rfl rfl 7 (by decide) rfl kX4_isOnBeat_f49 rfl ?_
    refine j_aload_n C dX4_isOnBeat_15 16 rfl rfl 1 rfl ?_
    refine j_get C dX4_isOnBeat_16 19 rfl hiX4 0 rfl rfl 3 (by decide) rfl kX4_isOnBeat_f21 rfl ?_
    refine j_iload_n C dX4_isOnBeat_19 20 rfl rfl 2 rfl ?_
    refine j_iald C dX4_isOnBeat_20 21 rfl 4 rfl (by first | assumption | exact vp_in_iff.mpr ⟨by omega, by omega⟩ | exact nz_nle (by assumption) | exact nz_lt (by assumption) | omega) (x1).toNatClampNeg rfl ?_
    refine j_iadd C dX4_isOnBeat_21 22 rfl ?_
    refine j_iload_n C dX4_isOnBeat_22 23 rfl rfl 0 rfl ?_
    refine j_irem C dX4_isOnBeat_23 24 rfl (by first | assumption | exact vp_in_iff.mpr ⟨by omega, by omega⟩ | exact nz_nle (by assumption) | exact nz_lt (by assumption) | omega) ?_
    refine j_if_ne C dX4_isOnBeat_24 31 rfl 27 rfl (fun c2 => ?_) (fun c2 => ?_)
    · rw [if_neg c2] at hR
      refine j_iconst (v := 0) C dX4_isOnBeat_31 32 rfl (by decide) ?_
      exact hR rfl _ _ dX4_isOnBeat_32
    · rw [if_pos c2] at hR
      refine j_iconst (v := 1) C dX4_isOnBeat_27 28 rfl (by decide) ?_
      refine j_goto C dX4_isOnBeat_28 32 rfl ?_
      exact hR rfl _ _ dX4_isOnBeat_32

-- X4_isCooking
def f_X4_isCooking (lw : Nat → Int32) (bt : Nat → Int32) (ph : Nat → Int32) (sc : Int32) (rn : Int32) (x1 : Int32) : Int32 := if (rn < (lw 1)) then (0 : Int32) else (if ((f_X4_isOnBeat bt ph sc x1) = 0) then (0 : Int32) else (1 : Int32))
theorem kX4_isCooking_f55 : Cond.fieldLink RX4 55 "TwoMinutes$Town" "run" "I" ∈ wsX4_isCooking := by decide +kernel
theorem kX4_isCooking_f9 : Cond.fieldLink RX4 9 "TwoMinutes$Town" "laws" "[I" ∈ wsX4_isCooking := by decide +kernel
theorem qd_X4_isCooking : yX4_isCooking.cls = RX4 ∧ yX4_isCooking.cls ≠ "java/lang/invoke/MethodHandle" ∧ yX4_isCooking.cls ≠ "java/lang/invoke/VarHandle" ∧ (parseMethodDescriptor yX4_isCooking.desc).map (fun d => d.parameters.length) = some 1 := by decide +kernel
abbrev rmX4_isCooking : Room := { frames := 1, cells := 0, slots := 0, locals := 22 }
set_option maxHeartbeats 4000000 in
set_option maxRecDepth 100000 in
theorem c_X4_isCooking (τ : SX) (a : Nat → Nat) (lw : Nat → Int32) (kd : Nat → Int32) (bt : Nat → Int32) (ph : Nat → Int32) (cn : Nat → Int32) (no : Nat → Int32) (ct : Int32) (sc : Int32) (rn : Int32) (lg : Int32) (dn : Int32) (zz : Int32) (x1 : Int32) (hv : vp_in x1 8) (sz : Nat) : McI τ yX4_isCooking wsX4_isCooking rmX4_isCooking .boolean [.ref (a 0), .int x1] (wT τ a lw kd bt ph cn no ct sc rn lg dn zz) (fun _ : Unit => (wT τ a lw kd bt ph cn no ct sc rn lg dn zz)) (f_X4_isCooking lw bt ph sc rn x1, ()) sz := by
  refine mc_I (cc := cX4_isCooking) (own := RX4) [(0, .ref (a 0)), (1, .int x1)] rfl (by decide) rfl rfl (Nat.le_of_ble_eq_true rfl) (fun κ C hR => ?_)
  have hiX4 : ∀ w ∈ wsX40, w ∈ wsX4_isCooking := fun w h => List.mem_cons_of_mem _ (List.mem_append_right _ h)
  unfold f_X4_isCooking at hR
  refine j_aload_n C dX4_isCooking_0 1 rfl rfl 0 rfl ?_
  refine j_get C dX4_isCooking_1 4 rfl hiX4 0 rfl rfl 8 (by decide) rfl kX4_isCooking_f55 rfl ?_
  refine j_aload_n C dX4_isCooking_4 5 rfl rfl 0 rfl ?_
  refine j_get C dX4_isCooking_5 8 rfl hiX4 0 rfl rfl 0 (by decide) rfl kX4_isCooking_f9 rfl ?_
  refine j_iconst (v := 1) C dX4_isCooking_8 9 rfl (by decide) ?_
  refine j_iald C dX4_isCooking_9 10 rfl 1 rfl (by unfold vp_in; decide) 1 rfl ?_
  refine j_icmp_lt C dX4_isCooking_10 25 rfl 13 rfl (fun c1 => ?_) (fun c1 => ?_)
  · rw [if_pos c1] at hR
    refine j_iconst (v := 0) C dX4_isCooking_25 26 rfl (by decide) ?_
    exact hR rfl _ _ dX4_isCooking_26
  · rw [if_neg c1] at hR
    refine j_aload_n C dX4_isCooking_13 14 rfl rfl 0 rfl ?_
    refine j_iload_n C dX4_isCooking_14 15 rfl rfl 1 rfl ?_
    refine j_cv0I (na := 1) C dX4_isCooking_15 18 rfl (c_X4_isOnBeat τ a lw kd bt ph cn no ct sc rn lg dn zz x1 (by first | assumption | exact vp_in_iff.mpr ⟨by omega, by omega⟩ | exact nz_nle (by assumption) | exact nz_lt (by assumption) | omega)) gX4_isCooking_X4_isOnBeat rfl rfl rfl qd_X4_isOnBeat rfl ⟨by decide, by decide⟩ ⟨by decide, by decide⟩ rfl (Nat.le_of_ble_eq_true rfl) rfl 4 0 rfl rfl (fun r2 u2 hX2 hn2 => ?_)
    obtain rfl := (Prod.mk.inj hX2).1
    refine j_if_eq C dX4_isCooking_18 25 rfl 21 rfl (fun c3 => ?_) (fun c3 => ?_)
    · rw [if_pos c3] at hR
      refine j_iconst (v := 0) C dX4_isCooking_25 26 rfl (by decide) ?_
      exact hR rfl _ _ dX4_isCooking_26
    · rw [if_neg c3] at hR
      refine j_iconst (v := 1) C dX4_isCooking_21 22 rfl (by decide) ?_
      refine j_goto C dX4_isCooking_22 26 rfl ?_
      exact hR rfl _ _ dX4_isCooking_26

-- X4_isMarching
def f_X4_isMarching (bt : Nat → Int32) (ph : Nat → Int32) (sc : Int32) (x1 : Int32) : Int32 := if ((sc - sc / 2 * 2) = 0) then (if ((f_X4_isOnBeat bt ph sc x1) = 0) then (0 : Int32) else (1 : Int32)) else (0 : Int32)
theorem kX4_isMarching_f49 : Cond.fieldLink RX4 49 "TwoMinutes$Town" "second" "I" ∈ wsX4_isMarching := by decide +kernel
theorem qd_X4_isMarching : yX4_isMarching.cls = RX4 ∧ yX4_isMarching.cls ≠ "java/lang/invoke/MethodHandle" ∧ yX4_isMarching.cls ≠ "java/lang/invoke/VarHandle" ∧ (parseMethodDescriptor yX4_isMarching.desc).map (fun d => d.parameters.length) = some 1 := by decide +kernel
abbrev rmX4_isMarching : Room := { frames := 1, cells := 0, slots := 0, locals := 22 }
set_option maxHeartbeats 4000000 in
set_option maxRecDepth 100000 in
theorem c_X4_isMarching (τ : SX) (a : Nat → Nat) (lw : Nat → Int32) (kd : Nat → Int32) (bt : Nat → Int32) (ph : Nat → Int32) (cn : Nat → Int32) (no : Nat → Int32) (ct : Int32) (sc : Int32) (rn : Int32) (lg : Int32) (dn : Int32) (zz : Int32) (x1 : Int32) (hv : vp_in x1 8) (sz : Nat) : McI τ yX4_isMarching wsX4_isMarching rmX4_isMarching .boolean [.ref (a 0), .int x1] (wT τ a lw kd bt ph cn no ct sc rn lg dn zz) (fun _ : Unit => (wT τ a lw kd bt ph cn no ct sc rn lg dn zz)) (f_X4_isMarching bt ph sc x1, ()) sz := by
  refine mc_I (cc := cX4_isMarching) (own := RX4) [(0, .ref (a 0)), (1, .int x1)] rfl (by decide) rfl rfl (Nat.le_of_ble_eq_true rfl) (fun κ C hR => ?_)
  have hiX4 : ∀ w ∈ wsX40, w ∈ wsX4_isMarching := fun w h => List.mem_cons_of_mem _ (List.mem_append_right _ h)
  unfold f_X4_isMarching at hR
  refine j_aload_n C dX4_isMarching_0 1 rfl rfl 0 rfl ?_
  refine j_get C dX4_isMarching_1 4 rfl hiX4 0 rfl rfl 7 (by decide) rfl kX4_isMarching_f49 rfl ?_
  refine j_iconst (v := 2) C dX4_isMarching_4 5 rfl (by decide) ?_
  refine j_irem C dX4_isMarching_5 6 rfl (by decide) ?_
  refine j_if_ne C dX4_isMarching_6 21 rfl 9 rfl (fun c1 => ?_) (fun c1 => ?_)
  · rw [if_neg c1] at hR
    refine j_iconst (v := 0) C dX4_isMarching_21 22 rfl (by decide) ?_
    exact hR rfl _ _ dX4_isMarching_22
  · rw [if_pos c1] at hR
    refine j_aload_n C dX4_isMarching_9 10 rfl rfl 0 rfl ?_
    refine j_iload_n C dX4_isMarching_10 11 rfl rfl 1 rfl ?_
    refine j_cv0I (na := 1) C dX4_isMarching_11 14 rfl (c_X4_isOnBeat τ a lw kd bt ph cn no ct sc rn lg dn zz x1 (by first | assumption | exact vp_in_iff.mpr ⟨by omega, by omega⟩ | exact nz_nle (by assumption) | exact nz_lt (by assumption) | omega)) gX4_isMarching_X4_isOnBeat rfl rfl rfl qd_X4_isOnBeat rfl ⟨by decide, by decide⟩ ⟨by decide, by decide⟩ rfl (Nat.le_of_ble_eq_true rfl) rfl 4 0 rfl rfl (fun r2 u2 hX2 hn2 => ?_)
    obtain rfl := (Prod.mk.inj hX2).1
    refine j_if_eq C dX4_isMarching_14 21 rfl 17 rfl (fun c3 => ?_) (fun c3 => ?_)
    · rw [if_pos c3] at hR
      refine j_iconst (v := 0) C dX4_isMarching_21 22 rfl (by decide) ?_
      exact hR rfl _ _ dX4_isMarching_22
    · rw [if_neg c3] at hR
      refine j_iconst (v := 1) C dX4_isMarching_17 18 rfl (by decide) ?_
      refine j_goto C dX4_isMarching_18 22 rfl ?_
      exact hR rfl _ _ dX4_isMarching_22

-- X4_isSounding
def f_X4_isSounding (lw : Nat → Int32) (kd : Nat → Int32) (bt : Nat → Int32) (ph : Nat → Int32) (sc : Int32) (rn : Int32) (x1 : Int32) : Int32 := (if (kd (x1).toNatClampNeg) = 1 then (f_X4_isCooking lw bt ph sc rn x1) else (if (kd (x1).toNatClampNeg) = 2 then (f_X4_isMarching bt ph sc x1) else (if (kd (x1).toNatClampNeg) = 3 then (if ((f_X4_isCooking lw bt ph sc rn x1) = 0) then (if ((sc - sc / 7 * 7) = 0) then (1 : Int32) else (0 : Int32)) else (1 : Int32)) else (if (kd (x1).toNatClampNeg) = 4 then (if ((f_X4_isMarching bt ph sc x1) = 0) then (if (rn = ((2 : Int32) * (bt (x1).toNatClampNeg))) then (1 : Int32) else (0 : Int32)) else (1 : Int32)) else (if (kd (x1).toNatClampNeg) = 5 then (if (rn < (lw 2)) then (0 : Int32) else (1 : Int32)) else (f_X4_isOnBeat bt ph sc x1))))))
theorem kX4_isSounding_f15 : Cond.fieldLink RX4 15 "TwoMinutes$Town" "kinds" "[I" ∈ wsX4_isSounding := by decide +kernel
theorem kX4_isSounding_f49 : Cond.fieldLink RX4 49 "TwoMinutes$Town" "second" "I" ∈ wsX4_isSounding := by decide +kernel
theorem kX4_isSounding_f55 : Cond.fieldLink RX4 55 "TwoMinutes$Town" "run" "I" ∈ wsX4_isSounding := by decide +kernel
theorem kX4_isSounding_f18 : Cond.fieldLink RX4 18 "TwoMinutes$Town" "beats" "[I" ∈ wsX4_isSounding := by decide +kernel
theorem kX4_isSounding_f9 : Cond.fieldLink RX4 9 "TwoMinutes$Town" "laws" "[I" ∈ wsX4_isSounding := by decide +kernel
theorem qd_X4_isSounding : yX4_isSounding.cls = RX4 ∧ yX4_isSounding.cls ≠ "java/lang/invoke/MethodHandle" ∧ yX4_isSounding.cls ≠ "java/lang/invoke/VarHandle" ∧ (parseMethodDescriptor yX4_isSounding.desc).map (fun d => d.parameters.length) = some 1 := by decide +kernel
abbrev rmX4_isSounding : Room := { frames := 2, cells := 0, slots := 0, locals := 43 }
set_option maxHeartbeats 4000000 in
set_option maxRecDepth 100000 in
theorem c_X4_isSounding (τ : SX) (a : Nat → Nat) (lw : Nat → Int32) (kd : Nat → Int32) (bt : Nat → Int32) (ph : Nat → Int32) (cn : Nat → Int32) (no : Nat → Int32) (ct : Int32) (sc : Int32) (rn : Int32) (lg : Int32) (dn : Int32) (zz : Int32) (x1 : Int32) (hv : vp_in x1 8) (sz : Nat) : McI τ yX4_isSounding wsX4_isSounding rmX4_isSounding .boolean [.ref (a 0), .int x1] (wT τ a lw kd bt ph cn no ct sc rn lg dn zz) (fun _ : Unit => (wT τ a lw kd bt ph cn no ct sc rn lg dn zz)) (f_X4_isSounding lw kd bt ph sc rn x1, ()) sz := by
  refine mc_I (cc := cX4_isSounding) (own := RX4) [(0, .ref (a 0)), (1, .int x1)] rfl (by decide) rfl rfl (Nat.le_of_ble_eq_true rfl) (fun κ C hR => ?_)
  have hiX4 : ∀ w ∈ wsX40, w ∈ wsX4_isSounding := fun w h => List.mem_cons_of_mem _ (List.mem_append_right _ h)
  unfold f_X4_isSounding at hR
  refine j_aload_n C dX4_isSounding_0 1 rfl rfl 0 rfl ?_
  refine j_get C dX4_isSounding_1 4 rfl hiX4 0 rfl rfl 1 (by decide) rfl kX4_isSounding_f15 rfl ?_
  refine j_iload_n C dX4_isSounding_4 5 rfl rfl 1 rfl ?_
  refine j_iald C dX4_isSounding_5 6 rfl 2 rfl (by first | assumption | exact vp_in_iff.mpr ⟨by omega, by omega⟩ | exact nz_nle (by assumption) | exact nz_lt (by assumption) | omega) (x1).toNatClampNeg rfl ?_
  by_cases c2 : (kd (x1).toNatClampNeg) = 1
  · rw [if_pos c2] at hR
    refine j_tabIn C dX4_isSounding_6 (by rw [c2]; decide) (by rw [c2]; decide) (by rw [c2]; rfl) 40 rfl ?_
    refine j_aload_n C dX4_isSounding_40 41 rfl rfl 0 rfl ?_
    refine j_iload_n C dX4_isSounding_41 42 rfl rfl 1 rfl ?_
    refine j_cv0I (na := 1) C dX4_isSounding_42 45 rfl (c_X4_isCooking τ a lw kd bt ph cn no ct sc rn lg dn zz x1 (by first | assumption | exact vp_in_iff.mpr ⟨by omega, by omega⟩ | exact nz_nle (by assumption) | exact nz_lt (by assumption) | omega)) gX4_isSounding_X4_isCooking rfl rfl rfl qd_X4_isCooking rfl ⟨by decide, by decide⟩ ⟨by decide, by decide⟩ rfl (Nat.le_of_ble_eq_true rfl) rfl 4 0 rfl rfl (fun r1 u1 hX1 hn1 => ?_)
    obtain rfl := (Prod.mk.inj hX1).1
    exact hR (by assumption) _ _ dX4_isSounding_45
  rw [if_neg c2] at hR
  by_cases c4 : (kd (x1).toNatClampNeg) = 2
  · rw [if_pos c4] at hR
    refine j_tabIn C dX4_isSounding_6 (by rw [c4]; decide) (by rw [c4]; decide) (by rw [c4]; rfl) 70 rfl ?_
    refine j_aload_n C dX4_isSounding_70 71 rfl rfl 0 rfl ?_
    refine j_iload_n C dX4_isSounding_71 72 rfl rfl 1 rfl ?_
    refine j_cv0I (na := 1) C dX4_isSounding_72 75 rfl (c_X4_isMarching τ a lw kd bt ph cn no ct sc rn lg dn zz x1 (by first | assumption | exact vp_in_iff.mpr ⟨by omega, by omega⟩ | exact nz_nle (by assumption) | exact nz_lt (by assumption) | omega)) gX4_isSounding_X4_isMarching rfl rfl rfl qd_X4_isMarching rfl ⟨by decide, by decide⟩ ⟨by decide, by decide⟩ rfl (Nat.le_of_ble_eq_true rfl) rfl 4 0 rfl rfl (fun r3 u3 hX3 hn3 => ?_)
    obtain rfl := (Prod.mk.inj hX3).1
    exact hR (by assumption) _ _ dX4_isSounding_75
  rw [if_neg c4] at hR
  by_cases c8 : (kd (x1).toNatClampNeg) = 3
  · rw [if_pos c8] at hR
    refine j_tabIn C dX4_isSounding_6 (by rw [c8]; decide) (by rw [c8]; decide) (by rw [c8]; rfl) 46 rfl ?_
    refine j_aload_n C dX4_isSounding_46 47 rfl rfl 0 rfl ?_
    refine j_iload_n C dX4_isSounding_47 48 rfl rfl 1 rfl ?_
    refine j_cv0I (na := 1) C dX4_isSounding_48 51 rfl (c_X4_isCooking τ a lw kd bt ph cn no ct sc rn lg dn zz x1 (by first | assumption | exact vp_in_iff.mpr ⟨by omega, by omega⟩ | exact nz_nle (by assumption) | exact nz_lt (by assumption) | omega)) gX4_isSounding_X4_isCooking rfl rfl rfl qd_X4_isCooking rfl ⟨by decide, by decide⟩ ⟨by decide, by decide⟩ rfl (Nat.le_of_ble_eq_true rfl) rfl 4 0 rfl rfl (fun r5 u5 hX5 hn5 => ?_)
    obtain rfl := (Prod.mk.inj hX5).1
    refine j_if_ne C dX4_isSounding_51 64 rfl 54 rfl (fun c6 => ?_) (fun c6 => ?_)
    · rw [if_neg c6] at hR
      refine j_iconst (v := 1) C dX4_isSounding_64 65 rfl (by decide) ?_
      refine j_goto C dX4_isSounding_65 69 rfl ?_
      exact hR rfl _ _ dX4_isSounding_69
    · rw [if_pos c6] at hR
      refine j_aload_n C dX4_isSounding_54 55 rfl rfl 0 rfl ?_
      refine j_get C dX4_isSounding_55 58 rfl hiX4 0 rfl rfl 7 (by decide) rfl kX4_isSounding_f49 rfl ?_
      refine j_bipush (v := 7) C dX4_isSounding_58 60 rfl (by decide) ?_
      refine j_irem C dX4_isSounding_60 61 rfl (by decide) ?_
      refine j_if_ne C dX4_isSounding_61 68 rfl 64 rfl (fun c7 => ?_) (fun c7 => ?_)
      · rw [if_neg c7] at hR
        refine j_iconst (v := 0) C dX4_isSounding_68 69 rfl (by decide) ?_
        exact hR rfl _ _ dX4_isSounding_69
      · rw [if_pos c7] at hR
        refine j_iconst (v := 1) C dX4_isSounding_64 65 rfl (by decide) ?_
        refine j_goto C dX4_isSounding_65 69 rfl ?_
        exact hR rfl _ _ dX4_isSounding_69
  rw [if_neg c8] at hR
  by_cases c12 : (kd (x1).toNatClampNeg) = 4
  · rw [if_pos c12] at hR
    refine j_tabIn C dX4_isSounding_6 (by rw [c12]; decide) (by rw [c12]; decide) (by rw [c12]; rfl) 76 rfl ?_
    refine j_aload_n C dX4_isSounding_76 77 rfl rfl 0 rfl ?_
    refine j_iload_n C dX4_isSounding_77 78 rfl rfl 1 rfl ?_
    refine j_cv0I (na := 1) C dX4_isSounding_78 81 rfl (c_X4_isMarching τ a lw kd bt ph cn no ct sc rn lg dn zz x1 (by first | assumption | exact vp_in_iff.mpr ⟨by omega, by omega⟩ | exact nz_nle (by assumption) | exact nz_lt (by assumption) | omega)) gX4_isSounding_X4_isMarching rfl rfl rfl qd_X4_isMarching rfl ⟨by decide, by decide⟩ ⟨by decide, by decide⟩ rfl (Nat.le_of_ble_eq_true rfl) rfl 4 0 rfl rfl (fun r9 u9 hX9 hn9 => ?_)
    obtain rfl := (Prod.mk.inj hX9).1
    refine j_if_ne C dX4_isSounding_81 99 rfl 84 rfl (fun c10 => ?_) (fun c10 => ?_)
    · rw [if_neg c10] at hR
      refine j_iconst (v := 1) C dX4_isSounding_99 100 rfl (by decide) ?_
      refine j_goto C dX4_isSounding_100 104 rfl ?_
      exact hR rfl _ _ dX4_isSounding_104
    · rw [if_pos c10] at hR
      refine j_aload_n C dX4_isSounding_84 85 rfl rfl 0 rfl ?_
      refine j_get C dX4_isSounding_85 88 rfl hiX4 0 rfl rfl 8 (by decide) rfl kX4_isSounding_f55 rfl ?_
      refine j_iconst (v := 2) C dX4_isSounding_88 89 rfl (by decide) ?_
      refine j_aload_n C dX4_isSounding_89 90 rfl rfl 0 rfl ?_
      refine j_get C dX4_isSounding_90 93 rfl hiX4 0 rfl rfl 2 (by decide) rfl kX4_isSounding_f18 rfl ?_
      refine j_iload_n C dX4_isSounding_93 94 rfl rfl 1 rfl ?_
      refine j_iald C dX4_isSounding_94 95 rfl 3 rfl (by first | assumption | exact vp_in_iff.mpr ⟨by omega, by omega⟩ | exact nz_nle (by assumption) | exact nz_lt (by assumption) | omega) (x1).toNatClampNeg rfl ?_
      refine j_imul C dX4_isSounding_95 96 rfl ?_
      refine j_icmp_ne C dX4_isSounding_96 103 rfl 99 rfl (fun c11 => ?_) (fun c11 => ?_)
      · rw [if_neg c11] at hR
        refine j_iconst (v := 0) C dX4_isSounding_103 104 rfl (by decide) ?_
        exact hR rfl _ _ dX4_isSounding_104
      · rw [if_pos c11] at hR
        refine j_iconst (v := 1) C dX4_isSounding_99 100 rfl (by decide) ?_
        refine j_goto C dX4_isSounding_100 104 rfl ?_
        exact hR rfl _ _ dX4_isSounding_104
  rw [if_neg c12] at hR
  by_cases c14 : (kd (x1).toNatClampNeg) = 5
  · rw [if_pos c14] at hR
    refine j_tabIn C dX4_isSounding_6 (by rw [c14]; decide) (by rw [c14]; decide) (by rw [c14]; rfl) 105 rfl ?_
    refine j_aload_n C dX4_isSounding_105 106 rfl rfl 0 rfl ?_
    refine j_get C dX4_isSounding_106 109 rfl hiX4 0 rfl rfl 8 (by decide) rfl kX4_isSounding_f55 rfl ?_
    refine j_aload_n C dX4_isSounding_109 110 rfl rfl 0 rfl ?_
    refine j_get C dX4_isSounding_110 113 rfl hiX4 0 rfl rfl 0 (by decide) rfl kX4_isSounding_f9 rfl ?_
    refine j_iconst (v := 2) C dX4_isSounding_113 114 rfl (by decide) ?_
    refine j_iald C dX4_isSounding_114 115 rfl 1 rfl (by unfold vp_in; decide) 2 rfl ?_
    refine j_icmp_lt C dX4_isSounding_115 122 rfl 118 rfl (fun c13 => ?_) (fun c13 => ?_)
    · rw [if_pos c13] at hR
      refine j_iconst (v := 0) C dX4_isSounding_122 123 rfl (by decide) ?_
      exact hR rfl _ _ dX4_isSounding_123
    · rw [if_neg c13] at hR
      refine j_iconst (v := 1) C dX4_isSounding_118 119 rfl (by decide) ?_
      refine j_goto C dX4_isSounding_119 123 rfl ?_
      exact hR rfl _ _ dX4_isSounding_123
  rw [if_neg c14] at hR
  refine j_tabOut C dX4_isSounding_6 (by have n2 := lv_neT (a := 1) c2 (by decide); have n4 := lv_neT (a := 2) c4 (by decide); have n8 := lv_neT (a := 3) c8 (by decide); have n12 := lv_neT (a := 4) c12 (by decide); have n14 := lv_neT (a := 5) c14 (by decide); omega) 124 rfl ?_
  refine j_aload_n C dX4_isSounding_124 125 rfl rfl 0 rfl ?_
  refine j_iload_n C dX4_isSounding_125 126 rfl rfl 1 rfl ?_
  refine j_cv0I (na := 1) C dX4_isSounding_126 129 rfl (c_X4_isOnBeat τ a lw kd bt ph cn no ct sc rn lg dn zz x1 (by first | assumption | exact vp_in_iff.mpr ⟨by omega, by omega⟩ | exact nz_nle (by assumption) | exact nz_lt (by assumption) | omega)) gX4_isSounding_X4_isOnBeat rfl rfl rfl qd_X4_isOnBeat rfl ⟨by decide, by decide⟩ ⟨by decide, by decide⟩ rfl (Nat.le_of_ble_eq_true rfl) rfl 4 0 rfl rfl (fun r15 u15 hX15 hn15 => ?_)
  obtain rfl := (Prod.mk.inj hX15).1
  exact hR (by assumption) _ _ dX4_isSounding_129

-- X4_reachOf
def f_X4_reachOf (lw : Nat → Int32) (kd : Nat → Int32) (ph : Nat → Int32) (x1 : Int32) : Int32 := (if (kd (x1).toNatClampNeg) = 1 then ((2 : Int32) + (lw 1)) else (if (kd (x1).toNatClampNeg) = 2 then (1 : Int32) else (if (kd (x1).toNatClampNeg) = 3 then (((2 : Int32) + (lw 1)) * 2) else (if (kd (x1).toNatClampNeg) = 4 then ((1 : Int32) + ((ph (x1).toNatClampNeg) / 3)) else (if (kd (x1).toNatClampNeg) = 5 then (6 : Int32) else (2 : Int32))))))
theorem kX4_reachOf_f15 : Cond.fieldLink RX4 15 "TwoMinutes$Town" "kinds" "[I" ∈ wsX4_reachOf := by decide +kernel
theorem kX4_reachOf_f9 : Cond.fieldLink RX4 9 "TwoMinutes$Town" "laws" "[I" ∈ wsX4_reachOf := by decide +kernel
theorem kX4_reachOf_f21 : Cond.fieldLink RX4 21 "TwoMinutes$Town" "phases" "[I" ∈ wsX4_reachOf := by decide +kernel
theorem qd_X4_reachOf : yX4_reachOf.cls = RX4 ∧ yX4_reachOf.cls ≠ "java/lang/invoke/MethodHandle" ∧ yX4_reachOf.cls ≠ "java/lang/invoke/VarHandle" ∧ (parseMethodDescriptor yX4_reachOf.desc).map (fun d => d.parameters.length) = some 1 := by decide +kernel
abbrev rmX4_reachOf : Room := { frames := 0, cells := 0, slots := 0, locals := 0 }
set_option maxHeartbeats 4000000 in
set_option maxRecDepth 100000 in
theorem c_X4_reachOf (τ : SX) (a : Nat → Nat) (lw : Nat → Int32) (kd : Nat → Int32) (bt : Nat → Int32) (ph : Nat → Int32) (cn : Nat → Int32) (no : Nat → Int32) (ct : Int32) (sc : Int32) (rn : Int32) (lg : Int32) (dn : Int32) (zz : Int32) (x1 : Int32) (hv : vp_in x1 8) (sz : Nat) : McI τ yX4_reachOf wsX4_reachOf rmX4_reachOf .int [.ref (a 0), .int x1] (wT τ a lw kd bt ph cn no ct sc rn lg dn zz) (fun _ : Unit => (wT τ a lw kd bt ph cn no ct sc rn lg dn zz)) (f_X4_reachOf lw kd ph x1, ()) sz := by
  refine mc_I (cc := cX4_reachOf) (own := RX4) [(0, .ref (a 0)), (1, .int x1)] rfl (by decide) rfl rfl (Nat.le_of_ble_eq_true rfl) (fun κ C hR => ?_)
  have hiX4 : ∀ w ∈ wsX40, w ∈ wsX4_reachOf := fun w h => List.mem_cons_of_mem _ (List.mem_append_right _ h)
  unfold f_X4_reachOf at hR
  refine j_aload_n C dX4_reachOf_0 1 rfl rfl 0 rfl ?_
  refine j_get C dX4_reachOf_1 4 rfl hiX4 0 rfl rfl 1 (by decide) rfl kX4_reachOf_f15 rfl ?_
  refine j_iload_n C dX4_reachOf_4 5 rfl rfl 1 rfl ?_
  refine j_iald C dX4_reachOf_5 6 rfl 2 rfl (by first | assumption | exact vp_in_iff.mpr ⟨by omega, by omega⟩ | exact nz_nle (by assumption) | exact nz_lt (by assumption) | omega) (x1).toNatClampNeg rfl ?_
  by_cases c1 : (kd (x1).toNatClampNeg) = 1
  · rw [if_pos c1] at hR
    refine j_tabIn C dX4_reachOf_6 (by rw [c1]; decide) (by rw [c1]; decide) (by rw [c1]; rfl) 40 rfl ?_
    refine j_iconst (v := 2) C dX4_reachOf_40 41 rfl (by decide) ?_
    refine j_aload_n C dX4_reachOf_41 42 rfl rfl 0 rfl ?_
    refine j_get C dX4_reachOf_42 45 rfl hiX4 0 rfl rfl 0 (by decide) rfl kX4_reachOf_f9 rfl ?_
    refine j_iconst (v := 1) C dX4_reachOf_45 46 rfl (by decide) ?_
    refine j_iald C dX4_reachOf_46 47 rfl 1 rfl (by unfold vp_in; decide) 1 rfl ?_
    refine j_iadd C dX4_reachOf_47 48 rfl ?_
    exact hR rfl _ _ dX4_reachOf_48
  rw [if_neg c1] at hR
  by_cases c2 : (kd (x1).toNatClampNeg) = 2
  · rw [if_pos c2] at hR
    refine j_tabIn C dX4_reachOf_6 (by rw [c2]; decide) (by rw [c2]; decide) (by rw [c2]; rfl) 60 rfl ?_
    refine j_iconst (v := 1) C dX4_reachOf_60 61 rfl (by decide) ?_
    exact hR rfl _ _ dX4_reachOf_61
  rw [if_neg c2] at hR
  by_cases c3 : (kd (x1).toNatClampNeg) = 3
  · rw [if_pos c3] at hR
    refine j_tabIn C dX4_reachOf_6 (by rw [c3]; decide) (by rw [c3]; decide) (by rw [c3]; rfl) 49 rfl ?_
    refine j_iconst (v := 2) C dX4_reachOf_49 50 rfl (by decide) ?_
    refine j_aload_n C dX4_reachOf_50 51 rfl rfl 0 rfl ?_
    refine j_get C dX4_reachOf_51 54 rfl hiX4 0 rfl rfl 0 (by decide) rfl kX4_reachOf_f9 rfl ?_
    refine j_iconst (v := 1) C dX4_reachOf_54 55 rfl (by decide) ?_
    refine j_iald C dX4_reachOf_55 56 rfl 1 rfl (by unfold vp_in; decide) 1 rfl ?_
    refine j_iadd C dX4_reachOf_56 57 rfl ?_
    refine j_iconst (v := 2) C dX4_reachOf_57 58 rfl (by decide) ?_
    refine j_imul C dX4_reachOf_58 59 rfl ?_
    exact hR rfl _ _ dX4_reachOf_59
  rw [if_neg c3] at hR
  by_cases c4 : (kd (x1).toNatClampNeg) = 4
  · rw [if_pos c4] at hR
    refine j_tabIn C dX4_reachOf_6 (by rw [c4]; decide) (by rw [c4]; decide) (by rw [c4]; rfl) 62 rfl ?_
    refine j_iconst (v := 1) C dX4_reachOf_62 63 rfl (by decide) ?_
    refine j_aload_n C dX4_reachOf_63 64 rfl rfl 0 rfl ?_
    refine j_get C dX4_reachOf_64 67 rfl hiX4 0 rfl rfl 3 (by decide) rfl kX4_reachOf_f21 rfl ?_
    refine j_iload_n C dX4_reachOf_67 68 rfl rfl 1 rfl ?_
    refine j_iald C dX4_reachOf_68 69 rfl 4 rfl (by first | assumption | exact vp_in_iff.mpr ⟨by omega, by omega⟩ | exact nz_nle (by assumption) | exact nz_lt (by assumption) | omega) (x1).toNatClampNeg rfl ?_
    refine j_iconst (v := 3) C dX4_reachOf_69 70 rfl (by decide) ?_
    refine j_idiv C dX4_reachOf_70 71 rfl (by decide) ?_
    refine j_iadd C dX4_reachOf_71 72 rfl ?_
    exact hR rfl _ _ dX4_reachOf_72
  rw [if_neg c4] at hR
  by_cases c5 : (kd (x1).toNatClampNeg) = 5
  · rw [if_pos c5] at hR
    refine j_tabIn C dX4_reachOf_6 (by rw [c5]; decide) (by rw [c5]; decide) (by rw [c5]; rfl) 73 rfl ?_
    refine j_bipush (v := 6) C dX4_reachOf_73 75 rfl (by decide) ?_
    exact hR rfl _ _ dX4_reachOf_75
  rw [if_neg c5] at hR
  refine j_tabOut C dX4_reachOf_6 (by have n1 := lv_neT (a := 1) c1 (by decide); have n2 := lv_neT (a := 2) c2 (by decide); have n3 := lv_neT (a := 3) c3 (by decide); have n4 := lv_neT (a := 4) c4 (by decide); have n5 := lv_neT (a := 5) c5 (by decide); omega) 76 rfl ?_
  refine j_iconst (v := 2) C dX4_reachOf_76 77 rfl (by decide) ?_
  exact hR rfl _ _ dX4_reachOf_77

