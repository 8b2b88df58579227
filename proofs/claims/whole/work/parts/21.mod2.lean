theorem lt_fuel (x : Int32) : x.toBitVec.toNat < 4294967297 := by have := x.toBitVec.isLt; omega
theorem size_dec {x : Int32} {N : Nat} (hm : x.toBitVec.toNat < N + 1) (c : ¬ x = 0) : (x &&& (x - 1)).toBitVec.toNat < N := by
  have h1 : (x &&& (x - 1)).toBitVec = x.toBitVec &&& (x.toBitVec - 1#32) := by simp
  have h0 : x.toBitVec ≠ 0#32 := fun e => c (Int32.toBitVec_inj.mp (by rw [e]; rfl))
  have h2 : x.toBitVec.toNat ≠ 0 := fun e => h0 (BitVec.eq_of_toNat_eq (by rw [e]; rfl))
  have h3 : (x.toBitVec &&& (x.toBitVec - 1#32)).toNat ≤ (x.toBitVec - 1#32).toNat := by rw [BitVec.toNat_and]; exact Nat.and_le_right
  have h4 : (x.toBitVec - 1#32).toNat = x.toBitVec.toNat - 1 := by
    rw [BitVec.toNat_sub]
    have := x.toBitVec.isLt
    simp
    omega
  rw [h1]
  omega

-- X6_size
def l_X6_size_4  : Nat → Int32 → Int32 → Int32 × Int32
  | 0, x1, x2 => (x1, x2)
  | N + 1, x1, x2 => if (x2 = 0) then (x1, x2) else (l_X6_size_4 N (x1 + 1) (x2 &&& (x2 - 1)))
def f_X6_size (x0 : Int32) : Int32 := pr2 (l_X6_size_4 4294967297 (0 : Int32) x0) (fun x1_1 x2_1 => x1_1)
theorem qd_X6_size : yX6_size.cls ≠ "java/lang/invoke/MethodHandle" ∧ yX6_size.cls ≠ "java/lang/invoke/VarHandle" ∧ (parseMethodDescriptor yX6_size.desc).map (fun d => d.parameters.length) = some 1 := by decide +kernel
abbrev rmX6_size : Room := { frames := 0, cells := 0, slots := 0, locals := 0 }
set_option maxHeartbeats 4000000 in
set_option maxRecDepth 100000 in
theorem L_X6_size_4 {τ : SX} {κ : KX} (C : Cx τ κ cX6_size RX6 wsX6_size rmX6_size 3) (x0 : Int32) (Φ : Int32 × Int32 → Prop) (hE : ∀ (x1 : Int32) (x2 : Int32), Φ (x1, x2) → J τ κ 0 0 [] [(0, .int x0), (1, .int x1), (2, .int x2)] 20 []) : ∀ (N : Nat) (x1 : Int32) (x2 : Int32), x2.toBitVec.toNat < N → Φ (l_X6_size_4 N x1 x2) → J τ κ 0 0 [] [(0, .int x0), (1, .int x1), (2, .int x2)] 4 [] := by
  intro N
  induction N with
  | zero => intro x1 x2 hm; exact absurd hm (Nat.not_lt_zero _)
  | succ N ih =>
    intro x1 x2 hm  hR
    rw [l_X6_size_4] at hR
    refine j_iload_n C dX6_size_4 5 rfl rfl 2 rfl ?_
    refine j_if_eq C dX6_size_5 20 rfl 8 rfl (fun c2 => ?_) (fun c2 => ?_)
    · rw [if_pos c2] at hR
      exact j_lv [0, 1, 2] [(0, .int x0), (1, .int x1), (2, .int x2)] rfl (hE _ _  hR)
    · rw [if_neg c2] at hR
      refine j_iinc (v := (x1 + 1)) C dX6_size_8 11 rfl 1 rfl rfl (by decide) [(1, .int (x1 + 1)), (0, .int x0), (2, .int x2)] rfl ?_
      refine j_iload_n C dX6_size_11 12 rfl rfl 2 rfl ?_
      refine j_iload_n C dX6_size_12 13 rfl rfl 2 rfl ?_
      refine j_iconst (v := 1) C dX6_size_13 14 rfl (by decide) ?_
      refine j_isub C dX6_size_14 15 rfl ?_
      refine j_iand C dX6_size_15 16 rfl ?_
      refine j_istore_n C dX6_size_16 17 rfl rfl (by decide) [(2, .int (x2 &&& (x2 - 1))), (1, .int (x1 + 1)), (0, .int x0)] rfl ?_
      refine j_goto C dX6_size_17 4 rfl ?_
      exact j_lv [2, 1, 0] [(0, .int x0), (1, .int (x1 + 1)), (2, .int (x2 &&& (x2 - 1)))] rfl (ih _ _ (size_dec (by assumption) (by assumption))  hR)
set_option maxHeartbeats 4000000 in
set_option maxRecDepth 100000 in
theorem c_X6_size (τ : SX) (x0 : Int32) (sz : Nat) : McI τ yX6_size wsX6_size rmX6_size .int [.int x0] [] (fun _ : Unit => []) (f_X6_size x0, ()) sz := by
  refine mc_I (cc := cX6_size) (own := RX6) [(0, .int x0)] rfl (by decide) rfl rfl (Nat.le_of_ble_eq_true rfl) (fun κ C hR => ?_)
  unfold f_X6_size at hR
  refine j_iconst (v := 0) C dX6_size_0 1 rfl (by decide) ?_
  refine j_istore_n C dX6_size_1 2 rfl rfl (by decide) [(1, .int 0), (0, .int x0)] rfl ?_
  refine j_iload_n C dX6_size_2 3 rfl rfl 1 rfl ?_
  refine j_istore_n C dX6_size_3 4 rfl rfl (by decide) [(2, .int x0), (1, .int 0), (0, .int x0)] rfl ?_
  refine j_lv [2, 1, 0] [(0, .int x0), (1, .int 0), (2, .int x0)] rfl (L_X6_size_4 C   x0  (fun (o : Int32 × Int32) => Rt τ κ cX6_size .int (fun _ : Unit => []) ((pr2 o (fun x1_1 x2_1 => x1_1), ()))) (fun x1_1 x2_1  hR => ?_) 4294967297 (0 : Int32) x0 (lt_fuel _)  hR)
  rw [pr2_mk x1_1 x2_1] at hR
  refine j_iload_n C dX6_size_20 21 rfl rfl 1 rfl ?_
  exact Rt.ret (hR) rfl dX6_size_21

theorem okS_upd {ss : Nat → Int32} {i : Nat} {v : Int32} (h : okS ss) (h0 : i ≠ 0) (h1 : ∀ k : Nat, k < 8 → i ≠ 10 + 5 * k + 1) : okS (upd ss i v) := by
  have e0 : upd ss i v 0 = ss 0 := pk_un (Ne.symm h0)
  refine ⟨by rw [e0]; exact h.1, by rw [e0]; exact h.2.1, fun k hk => ?_⟩
  rw [e0] at hk
  have h8 := h.2.1
  rw [pk_un (Ne.symm (h1 k (by omega)))]
  exact h.2.2 k hk
theorem ok_noise {ss : Nat → Int32} {o v : Int32} (h : okS ss) (h0 : 0 ≤ o.toInt) (h8 : o.toInt < 8) : okS (upd ss (((10 : Int32) + ((5 : Int32) * o)) + 4).toNatClampNeg v) := by
  rw [its_ix h0 h8 (by decide) (by decide)]
  have e4 : (4 : Int32).toNatClampNeg = 4 := rfl
  exact okS_upd h (by omega) (fun k _ => by omega)

-- X6_goesBy
def l_X6_goesBy_2 (x1 : Int32) : Nat → Int32 → (Nat → Int32) → Int32 × (Nat → Int32)
  | 0, x2, ss => (x2, ss)
  | N + 1, x2, ss => if ((ss 0) ≤ x2) then (x2, ss) else (pr1 (f_X6_size ((f_X6_heardOf ss x1 (f_X6_its ss x2 (3 : Int32))) &&& (((1 : Int32) <<< (x2 &&& 31)) ^^^ (-1)))) (fun n6 => l_X6_goesBy_2 x1 N (x2 + 1) (upd ss ((((10 : Int32) + ((5 : Int32) * x2)) + 4)).toNatClampNeg (f_X6_least (9999 : Int32) ((f_X6_its ss x2 (4 : Int32)) + n6)))))
def f_X6_goesBy (ss : Nat → Int32) (x1 : Int32) : (Nat → Int32) := pr2 (l_X6_goesBy_2 x1 300 (0 : Int32) ss) (fun x2_1 ss_1 => pr1 (if (x1 = 0) then (f_X6_least (9999 : Int32) ((ss_1 3) + 1)) else (0 : Int32)) (fun j72_0 => pr1 (if (j72_0 < (ss_1 6)) then (ss_1 5) else (1 : Int32)) (fun j133_0 => ((upd (upd (upd (upd ss_1 3 j72_0) 4 (f_X6_greatest (ss_1 4) j72_0)) 5 j133_0) 1 ((ss_1 1) + 1))))))
theorem kX6_goesBy_f7 : Cond.fieldLink RX6 7 "TwoMinutesModel" "s" "[I" ∈ wsX6_goesBy := by decide +kernel
theorem kX6_goesBy_iRX6 : Cond.initialized yX6_greatest.cls ∈ wsX6_goesBy := by decide +kernel
theorem kX6_goesBy_sX6_size : Cond.static yX6_size ∈ wsX6_goesBy := by decide +kernel
theorem kX6_goesBy_m192 : Cond.methodLink RX6 192 yX6_size ∈ wsX6_goesBy := by decide +kernel
theorem kX6_goesBy_sX6_least : Cond.static yX6_least ∈ wsX6_goesBy := by decide +kernel
theorem kX6_goesBy_m177 : Cond.methodLink RX6 177 yX6_least ∈ wsX6_goesBy := by decide +kernel
theorem kX6_goesBy_sX6_greatest : Cond.static yX6_greatest ∈ wsX6_goesBy := by decide +kernel
theorem kX6_goesBy_m195 : Cond.methodLink RX6 195 yX6_greatest ∈ wsX6_goesBy := by decide +kernel
theorem qd_X6_goesBy : yX6_goesBy.cls = RX6 ∧ yX6_goesBy.cls ≠ "java/lang/invoke/MethodHandle" ∧ yX6_goesBy.cls ≠ "java/lang/invoke/VarHandle" ∧ (parseMethodDescriptor yX6_goesBy.desc).map (fun d => d.parameters.length) = some 1 := by decide +kernel
abbrev rmX6_goesBy : Room := { frames := 3, cells := 0, slots := 0, locals := 67 }
set_option maxHeartbeats 4000000 in
set_option maxRecDepth 100000 in
theorem L_X6_goesBy_2 {τ : SX} {κ : KX} (C : Cx τ κ cX6_goesBy RX6 wsX6_goesBy rmX6_goesBy 4) (a : Nat → Nat) (mhd : Nat → Int32) (mas : Nat → Int32) (mbf : Nat → Int32) (mih : Int32) (mtp : Nat → Int32) (mtn : Int32) (mtk : Int32) (mfr : Int32) (mtt : Int32) (mvl : Int32) (miw : Int32) (mld : Nat → Int32) (mrw : Nat → Int32) (mrn : Int32) (mso : Nat → Int32) (msz : Nat → Int32) (mnu : Nat → Int32) (mhw : Nat → Int32) (mhh : Nat → Int32) (mhm : Nat → Int32) (mbo : Nat → Int32) (mrr : Int32) (mak : Int32) (man : Int32) (maa : Int32) (mip : Int32) (x1 : Int32) (Φ : Int32 × (Nat → Int32) → Prop) (hE : ∀ (x2 : Int32) (ss : Nat → Int32), Φ (x2, ss) → J τ κ 0 0 (wM τ a ss mhd mas mbf mih mtp mtn mtk mfr mtt mvl miw mld mrw mrn mso msz mnu mhw mhh mhm mbo mrr mak man maa mip) [(0, .ref (a 0)), (1, .int x1), (2, .int x2)] 66 []) : ∀ (N : Nat) (x2 : Int32) (ss : Nat → Int32), ((8 : Int) - x2.toInt).toNat < N → (0 ≤ x2.toInt) → (x2.toInt ≤ 8) → (okS ss) → Φ (l_X6_goesBy_2 x1 N x2 ss) → J τ κ 0 0 (wM τ a ss mhd mas mbf mih mtp mtn mtk mfr mtt mvl miw mld mrw mrn mso msz mnu mhw mhh mhm mbo mrr mak man maa mip) [(0, .ref (a 0)), (1, .int x1), (2, .int x2)] 2 [] := by
  have hiX6 : ∀ w ∈ wsX60, w ∈ wsX6_goesBy := fun w h => List.mem_cons_of_mem _ (List.mem_append_right _ h)
  intro N
  induction N with
  | zero => intro x2 ss hm; exact absurd hm (Nat.not_lt_zero _)
  | succ N ih =>
    intro x2 ss hm h0 h1 hok hR
    rw [l_X6_goesBy_2] at hR
    refine j_iload_n C dX6_goesBy_2 3 rfl rfl 2 rfl ?_
    refine j_aload_n C dX6_goesBy_3 4 rfl rfl 0 rfl ?_
    refine j_get C dX6_goesBy_4 7 rfl hiX6 0 rfl rfl 0 (by decide) rfl kX6_goesBy_f7 rfl ?_
    refine j_iconst (v := 0) C dX6_goesBy_7 8 rfl (by decide) ?_
    refine j_iald C dX6_goesBy_8 9 rfl 1 rfl (by unfold vp_in; decide) 0 rfl ?_
    refine j_icmp_ge C dX6_goesBy_9 66 rfl 12 rfl (fun c2 => ?_) (fun c2 => ?_)
    · rw [if_pos c2] at hR
      exact j_lv [0, 1, 2] [(0, .ref (a 0)), (1, .int x1), (2, .int x2)] rfl (hE _ _  hR)
    · rw [if_neg c2] at hR
      have hs := cnt_step (B := 8) h0 (hok.2.1) (by decide) c2
      refine j_aload_n C dX6_goesBy_12 13 rfl rfl 0 rfl ?_
      refine j_iload_n C dX6_goesBy_13 14 rfl rfl 1 rfl ?_
      refine j_aload_n C dX6_goesBy_14 15 rfl rfl 0 rfl ?_
      refine j_iload_n C dX6_goesBy_15 16 rfl rfl 2 rfl ?_
      refine j_iconst (v := 3) C dX6_goesBy_16 17 rfl (by decide) ?_
      refine j_cv0I (na := 2) C dX6_goesBy_17 20 rfl (c_X6_its τ a ss mhd mas mbf mih mtp mtn mtk mfr mtt mvl miw mld mrw mrn mso msz mnu mhw mhh mhm mbo mrr mak man maa mip x2 (3 : Int32) (its_in (o := x2) (w := 3) (by first | assumption | exact m_one (by assumption) (by assumption) | exact vp_in_iff.mpr ⟨by omega, by omega⟩) (by decide))) gX6_goesBy_X6_its rfl rfl rfl qd_X6_its rfl ⟨by decide, by decide⟩ ⟨by decide, by decide⟩ rfl (Nat.le_of_ble_eq_true rfl) rfl 6 0 rfl rfl (fun r3 u3 hX3 hn3 => ?_)
      obtain rfl := (Prod.mk.inj hX3).1
      refine j_cv0I (na := 2) C dX6_goesBy_20 23 rfl (c_X6_heardOf τ a ss mhd mas mbf mih mtp mtn mtk mfr mtt mvl miw mld mrw mrn mso msz mnu mhw mhh mhm mbo mrr mak man maa mip x1 (f_X6_its ss x2 (3 : Int32)) (by first | assumption | decide | (unfold vp_in; decide) | exact ok_bt (by assumption) (by first | assumption | omega) (by omega) | exact m_one (by assumption) (by assumption) | exact m_x60 (by assumption) | exact m_x30 (by assumption) | exact vp_in_iff.mpr ⟨by omega, by omega⟩ | omega)) gX6_goesBy_X6_heardOf rfl rfl rfl qd_X6_heardOf rfl ⟨by decide, by decide⟩ ⟨by decide, by decide⟩ rfl (Nat.le_of_ble_eq_true rfl) rfl 6 0 rfl rfl (fun r4 u4 hX4 hn4 => ?_)
      obtain rfl := (Prod.mk.inj hX4).1
      refine j_iconst (v := 1) C dX6_goesBy_23 24 rfl (by decide) ?_
      refine j_iload_n C dX6_goesBy_24 25 rfl rfl 2 rfl ?_
      refine j_ishl C dX6_goesBy_25 26 rfl ?_
      refine j_iconst (v := (-1)) C dX6_goesBy_26 27 rfl (by decide) ?_
      refine j_ixor C dX6_goesBy_27 28 rfl ?_
      refine j_iand C dX6_goesBy_28 29 rfl ?_
      refine j_cs0I (na := 1) C dX6_goesBy_29 32 rfl (c_X6_size τ  ((f_X6_heardOf ss x1 (f_X6_its ss x2 (3 : Int32))) &&& (((1 : Int32) <<< (x2 &&& 31)) ^^^ (-1))) ) rfl ggX6_goesBy_X6_size rfl rfl rfl kX6_goesBy_iRX6 kX6_goesBy_m192 kX6_goesBy_sX6_size qd_X6_size rfl ⟨by decide, by decide⟩ ⟨by decide, by decide⟩ rfl (Nat.le_of_ble_eq_true rfl) (fun r5 u5 hX5 hn5 => ?_)
      obtain rfl := (Prod.mk.inj hX5).1
      refine j_nmi (fun n6 en6 => ?_)
      rw [← en6] at hR; rw [pr1_mk n6] at hR
      refine j_istore_n C dX6_goesBy_32 33 rfl rfl (by decide) [(3, .int n6), (0, .ref (a 0)), (1, .int x1), (2, .int x2)] rfl ?_
      refine j_aload_n C dX6_goesBy_33 34 rfl rfl 1 rfl ?_
      refine j_get C dX6_goesBy_34 37 rfl hiX6 0 rfl rfl 0 (by decide) rfl kX6_goesBy_f7 rfl ?_
      refine j_bipush (v := 10) C dX6_goesBy_37 39 rfl (by decide) ?_
      refine j_iconst (v := 5) C dX6_goesBy_39 40 rfl (by decide) ?_
      refine j_iload_n C dX6_goesBy_40 41 rfl rfl 3 rfl ?_
      refine j_imul C dX6_goesBy_41 42 rfl ?_
      refine j_iadd C dX6_goesBy_42 43 rfl ?_
      refine j_iconst (v := 4) C dX6_goesBy_43 44 rfl (by decide) ?_
      refine j_iadd C dX6_goesBy_44 45 rfl ?_
      refine j_sipush (v := 9999) C dX6_goesBy_45 48 rfl (by decide) ?_
      refine j_aload_n C dX6_goesBy_48 49 rfl rfl 1 rfl ?_
      refine j_iload_n C dX6_goesBy_49 50 rfl rfl 3 rfl ?_
      refine j_iconst (v := 4) C dX6_goesBy_50 51 rfl (by decide) ?_
      refine j_cv0I (na := 2) C dX6_goesBy_51 54 rfl (c_X6_its τ a ss mhd mas mbf mih mtp mtn mtk mfr mtt mvl miw mld mrw mrn mso msz mnu mhw mhh mhm mbo mrr mak man maa mip x2 (4 : Int32) (its_in (o := x2) (w := 4) (by first | assumption | exact m_one (by assumption) (by assumption) | exact vp_in_iff.mpr ⟨by omega, by omega⟩) (by decide))) gX6_goesBy_X6_its rfl rfl rfl qd_X6_its rfl ⟨by decide, by decide⟩ ⟨by decide, by decide⟩ rfl (Nat.le_of_ble_eq_true rfl) rfl 6 0 rfl rfl (fun r7 u7 hX7 hn7 => ?_)
      obtain rfl := (Prod.mk.inj hX7).1
      refine j_iload_n C dX6_goesBy_54 55 rfl rfl 0 rfl ?_
      refine j_iadd C dX6_goesBy_55 56 rfl ?_
      refine j_cs0I (na := 2) C dX6_goesBy_56 59 rfl (c_X6_least τ  (9999 : Int32) ((f_X6_its ss x2 (4 : Int32)) + n6) ) rfl ggX6_goesBy_X6_least rfl rfl rfl kX6_goesBy_iRX6 kX6_goesBy_m177 kX6_goesBy_sX6_least qd_X6_least rfl ⟨by decide, by decide⟩ ⟨by decide, by decide⟩ rfl (Nat.le_of_ble_eq_true rfl) (fun r8 u8 hX8 hn8 => ?_)
      obtain rfl := (Prod.mk.inj hX8).1
      refine j_iast C dX6_goesBy_59 60 rfl 1 rfl (its_in (o := x2) (w := 4) (vp_in_iff.mpr ⟨by omega, by omega⟩) (by decide)) ((((10 : Int32) + ((5 : Int32) * x2)) + 4)).toNatClampNeg rfl (wM τ a (upd ss ((((10 : Int32) + ((5 : Int32) * x2)) + 4)).toNatClampNeg (f_X6_least (9999 : Int32) ((f_X6_its ss x2 (4 : Int32)) + n6))) mhd mas mbf mih mtp mtn mtk mfr mtt mvl miw mld mrw mrn mso msz mnu mhw mhh mhm mbo mrr mak man maa mip) rfl ?_
      refine j_iinc (v := (x2 + 1)) C dX6_goesBy_60 63 rfl 3 rfl rfl (by decide) [(2, .int (x2 + 1)), (3, .int n6), (0, .ref (a 0)), (1, .int x1)] rfl ?_
      refine j_goto C dX6_goesBy_63 2 rfl ?_
      exact j_lv [2, 3, 0] [(0, .ref (a 0)), (1, .int x1), (2, .int (x2 + 1))] rfl (ih _ _ (by have := hs.2.2.1; omega) hs.1 hs.2.1 (ok_noise (by assumption) h0 (by omega)) hR)
set_option maxHeartbeats 4000000 in
set_option maxRecDepth 100000 in
theorem c_X6_goesBy (τ : SX) (a : Nat → Nat) (ss : Nat → Int32) (mhd : Nat → Int32) (mas : Nat → Int32) (mbf : Nat → Int32) (mih : Int32) (mtp : Nat → Int32) (mtn : Int32) (mtk : Int32) (mfr : Int32) (mtt : Int32) (mvl : Int32) (miw : Int32) (mld : Nat → Int32) (mrw : Nat → Int32) (mrn : Int32) (mso : Nat → Int32) (msz : Nat → Int32) (mnu : Nat → Int32) (mhw : Nat → Int32) (mhh : Nat → Int32) (mhm : Nat → Int32) (mbo : Nat → Int32) (mrr : Int32) (mak : Int32) (man : Int32) (maa : Int32) (mip : Int32) (x1 : Int32) (hok : okS ss) (sz : Nat) : McV τ yX6_goesBy wsX6_goesBy rmX6_goesBy [.ref (a 0), .int x1] (wM τ a ss mhd mas mbf mih mtp mtn mtk mfr mtt mvl miw mld mrw mrn mso msz mnu mhw mhh mhm mbo mrr mak man maa mip) (fun u : (Nat → Int32) => (wM τ a u mhd mas mbf mih mtp mtn mtk mfr mtt mvl miw mld mrw mrn mso msz mnu mhw mhh mhm mbo mrr mak man maa mip)) (f_X6_goesBy ss x1) 0 0 sz := by
  refine mc_V (cc := cX6_goesBy) (own := RX6) [(0, .ref (a 0)), (1, .int x1)] rfl (by decide) rfl rfl (Nat.le_of_ble_eq_true rfl) (fun κ C _ hR => ?_)
  have hiX6 : ∀ w ∈ wsX60, w ∈ wsX6_goesBy := fun w h => List.mem_cons_of_mem _ (List.mem_append_right _ h)
  unfold f_X6_goesBy at hR
  refine j_iconst (v := 0) C dX6_goesBy_0 1 rfl (by decide) ?_
  refine j_istore_n C dX6_goesBy_1 2 rfl rfl (by decide) [(2, .int 0), (0, .ref (a 0)), (1, .int x1)] rfl ?_
  refine j_lv [1, 2, 0] [(0, .ref (a 0)), (1, .int x1), (2, .int 0)] rfl (L_X6_goesBy_2 C a mhd mas mbf mih mtp mtn mtk mfr mtt mvl miw mld mrw mrn mso msz mnu mhw mhh mhm mbo mrr mak man maa mip x1  (fun (o : Int32 × (Nat → Int32)) => RtV τ κ cX6_goesBy 0 0 (fun u : (Nat → Int32) => (wM τ a u mhd mas mbf mih mtp mtn mtk mfr mtt mvl miw mld mrw mrn mso msz mnu mhw mhh mhm mbo mrr mak man maa mip)) (pr2 o (fun x2_1 ss_1 => pr1 (if (x1 = 0) then (f_X6_least (9999 : Int32) ((ss_1 3) + 1)) else (0 : Int32)) (fun j72_0 => pr1 (if (j72_0 < (ss_1 6)) then (ss_1 5) else (1 : Int32)) (fun j133_0 => ((upd (upd (upd (upd ss_1 3 j72_0) 4 (f_X6_greatest (ss_1 4) j72_0)) 5 j133_0) 1 ((ss_1 1) + 1)))))))) (fun x2_1 ss_1  hR => ?_) 300 (0 : Int32) ss (by decide) (by decide) (by decide) (by assumption) hR)
  rw [pr2_mk x2_1 ss_1] at hR
  refine j_aload_n C dX6_goesBy_66 67 rfl rfl 0 rfl ?_
  refine j_get C dX6_goesBy_67 70 rfl hiX6 0 rfl rfl 0 (by decide) rfl kX6_goesBy_f7 rfl ?_
  refine j_iconst (v := 3) C dX6_goesBy_70 71 rfl (by decide) ?_
  refine j_iload_n C dX6_goesBy_71 72 rfl rfl 1 rfl ?_
  have J72 : ∀ (j72_0 : Int32), RtV τ κ cX6_goesBy 0 0 (fun u : (Nat → Int32) => (wM τ a u mhd mas mbf mih mtp mtn mtk mfr mtt mvl miw mld mrw mrn mso msz mnu mhw mhh mhm mbo mrr mak man maa mip)) (pr1 (if (j72_0 < (ss_1 6)) then (ss_1 5) else (1 : Int32)) (fun j133_0 => ((upd (upd (upd (upd ss_1 3 j72_0) 4 (f_X6_greatest (ss_1 4) j72_0)) 5 j133_0) 1 ((ss_1 1) + 1))))) → J τ κ 0 0 (wM τ a ss_1 mhd mas mbf mih mtp mtn mtk mfr mtt mvl miw mld mrw mrn mso msz mnu mhw mhh mhm mbo mrr mak man maa mip) [(0, .ref (a 0)), (1, .int x1), (2, .int x2_1)] 93 [.int j72_0, .int 3, .ref (a 1)] := by
    intro j72_0  hR
    refine j_iast C dX6_goesBy_93 94 rfl 1 rfl (by unfold vp_in; decide) 3 rfl (wM τ a (upd ss_1 3 j72_0) mhd mas mbf mih mtp mtn mtk mfr mtt mvl miw mld mrw mrn mso msz mnu mhw mhh mhm mbo mrr mak man maa mip) rfl ?_
    refine j_aload_n C dX6_goesBy_94 95 rfl rfl 0 rfl ?_
    refine j_get C dX6_goesBy_95 98 rfl hiX6 0 rfl rfl 0 (by decide) rfl kX6_goesBy_f7 rfl ?_
    refine j_iconst (v := 4) C dX6_goesBy_98 99 rfl (by decide) ?_
    refine j_aload_n C dX6_goesBy_99 100 rfl rfl 0 rfl ?_
    refine j_get C dX6_goesBy_100 103 rfl hiX6 0 rfl rfl 0 (by decide) rfl kX6_goesBy_f7 rfl ?_
    refine j_iconst (v := 4) C dX6_goesBy_103 104 rfl (by decide) ?_
    refine j_ialdv C dX6_goesBy_104 105 rfl 1 rfl (by unfold vp_in; decide) 4 rfl (ss_1 4) (by rfl) ?_
    refine j_aload_n C dX6_goesBy_105 106 rfl rfl 0 rfl ?_
    refine j_get C dX6_goesBy_106 109 rfl hiX6 0 rfl rfl 0 (by decide) rfl kX6_goesBy_f7 rfl ?_
    refine j_iconst (v := 3) C dX6_goesBy_109 110 rfl (by decide) ?_
    refine j_ialdv C dX6_goesBy_110 111 rfl 1 rfl (by unfold vp_in; decide) 3 rfl j72_0 (by rfl) ?_
    refine j_cs0I (na := 2) C dX6_goesBy_111 114 rfl (c_X6_greatest τ  (ss_1 4) j72_0 ) rfl ggX6_goesBy_X6_greatest rfl rfl rfl kX6_goesBy_iRX6 kX6_goesBy_m195 kX6_goesBy_sX6_greatest qd_X6_greatest rfl ⟨by decide, by decide⟩ ⟨by decide, by decide⟩ rfl (Nat.le_of_ble_eq_true rfl) (fun r11 u11 hX11 hn11 => ?_)
    obtain rfl := (Prod.mk.inj hX11).1
    refine j_iast C dX6_goesBy_114 115 rfl 1 rfl (by unfold vp_in; decide) 4 rfl (wM τ a (upd (upd ss_1 3 j72_0) 4 (f_X6_greatest (ss_1 4) j72_0)) mhd mas mbf mih mtp mtn mtk mfr mtt mvl miw mld mrw mrn mso msz mnu mhw mhh mhm mbo mrr mak man maa mip) rfl ?_
    refine j_aload_n C dX6_goesBy_115 116 rfl rfl 0 rfl ?_
    refine j_get C dX6_goesBy_116 119 rfl hiX6 0 rfl rfl 0 (by decide) rfl kX6_goesBy_f7 rfl ?_
    refine j_iconst (v := 5) C dX6_goesBy_119 120 rfl (by decide) ?_
    refine j_aload_n C dX6_goesBy_120 121 rfl rfl 0 rfl ?_
    refine j_get C dX6_goesBy_121 124 rfl hiX6 0 rfl rfl 0 (by decide) rfl kX6_goesBy_f7 rfl ?_
    refine j_iconst (v := 3) C dX6_goesBy_124 125 rfl (by decide) ?_
    refine j_ialdv C dX6_goesBy_125 126 rfl 1 rfl (by unfold vp_in; decide) 3 rfl j72_0 (by rfl) ?_
    refine j_aload_n C dX6_goesBy_126 127 rfl rfl 0 rfl ?_
    refine j_get C dX6_goesBy_127 130 rfl hiX6 0 rfl rfl 0 (by decide) rfl kX6_goesBy_f7 rfl ?_
    refine j_bipush (v := 6) C dX6_goesBy_130 132 rfl (by decide) ?_
    refine j_ialdv C dX6_goesBy_132 133 rfl 1 rfl (by unfold vp_in; decide) 6 rfl (ss_1 6) (by rfl) ?_
    have J133 : ∀ (j133_0 : Int32), RtV τ κ cX6_goesBy 0 0 (fun u : (Nat → Int32) => (wM τ a u mhd mas mbf mih mtp mtn mtk mfr mtt mvl miw mld mrw mrn mso msz mnu mhw mhh mhm mbo mrr mak man maa mip)) (((upd (upd (upd (upd ss_1 3 j72_0) 4 (f_X6_greatest (ss_1 4) j72_0)) 5 j133_0) 1 ((ss_1 1) + 1)))) → J τ κ 0 0 (wM τ a (upd (upd ss_1 3 j72_0) 4 (f_X6_greatest (ss_1 4) j72_0)) mhd mas mbf mih mtp mtn mtk mfr mtt mvl miw mld mrw mrn mso msz mnu mhw mhh mhm mbo mrr mak man maa mip) [(0, .ref (a 0)), (1, .int x1), (2, .int x2_1)] 146 [.int j133_0, .int 5, .ref (a 1)] := by
      intro j133_0  hR
      refine j_iast C dX6_goesBy_146 147 rfl 1 rfl (by unfold vp_in; decide) 5 rfl (wM τ a (upd (upd (upd ss_1 3 j72_0) 4 (f_X6_greatest (ss_1 4) j72_0)) 5 j133_0) mhd mas mbf mih mtp mtn mtk mfr mtt mvl miw mld mrw mrn mso msz mnu mhw mhh mhm mbo mrr mak man maa mip) rfl ?_
      refine j_aload_n C dX6_goesBy_147 148 rfl rfl 0 rfl ?_
      refine j_get C dX6_goesBy_148 151 rfl hiX6 0 rfl rfl 0 (by decide) rfl kX6_goesBy_f7 rfl ?_
      refine j_iconst (v := 1) C dX6_goesBy_151 152 rfl (by decide) ?_
      refine j_dup2 C dX6_goesBy_152 153 rfl rfl rfl ?_
      refine j_ialdv C dX6_goesBy_153 154 rfl 1 rfl (by unfold vp_in; decide) 1 rfl (ss_1 1) (by rfl) ?_
      refine j_iconst (v := 1) C dX6_goesBy_154 155 rfl (by decide) ?_
      refine j_iadd C dX6_goesBy_155 156 rfl ?_
      refine j_iast C dX6_goesBy_156 157 rfl 1 rfl (by unfold vp_in; decide) 1 rfl (wM τ a (upd (upd (upd (upd ss_1 3 j72_0) 4 (f_X6_greatest (ss_1 4) j72_0)) 5 j133_0) 1 ((ss_1 1) + 1)) mhd mas mbf mih mtp mtn mtk mfr mtt mvl miw mld mrw mrn mso msz mnu mhw mhh mhm mbo mrr mak man maa mip) rfl ?_
      exact hR _ _ dX6_goesBy_157
    refine j_icmp_lt C dX6_goesBy_133 140 rfl 136 rfl (fun c12 => ?_) (fun c12 => ?_)
    · rw [if_pos c12] at hR
      refine j_aload_n C dX6_goesBy_140 141 rfl rfl 0 rfl ?_
      refine j_get C dX6_goesBy_141 144 rfl hiX6 0 rfl rfl 0 (by decide) rfl kX6_goesBy_f7 rfl ?_
      refine j_iconst (v := 5) C dX6_goesBy_144 145 rfl (by decide) ?_
      refine j_ialdv C dX6_goesBy_145 146 rfl 1 rfl (by unfold vp_in; decide) 5 rfl (ss_1 5) (by rfl) ?_
      rw [pr1_mk (ss_1 5)] at hR
      exact j_lv [0, 1, 2] [(0, .ref (a 0)), (1, .int x1), (2, .int x2_1)] rfl (J133 _  hR)
    · rw [if_neg c12] at hR
      refine j_iconst (v := 1) C dX6_goesBy_136 137 rfl (by decide) ?_
      refine j_goto C dX6_goesBy_137 146 rfl ?_
      rw [pr1_mk (1 : Int32)] at hR
      exact j_lv [0, 1, 2] [(0, .ref (a 0)), (1, .int x1), (2, .int x2_1)] rfl (J133 _  hR)
  refine j_if_ne C dX6_goesBy_72 92 rfl 75 rfl (fun c9 => ?_) (fun c9 => ?_)
  · rw [if_neg c9] at hR
    refine j_iconst (v := 0) C dX6_goesBy_92 93 rfl (by decide) ?_
    rw [pr1_mk (0 : Int32)] at hR
    exact j_lv [0, 1, 2] [(0, .ref (a 0)), (1, .int x1), (2, .int x2_1)] rfl (J72 _  hR)
  · rw [if_pos c9] at hR
    refine j_sipush (v := 9999) C dX6_goesBy_75 78 rfl (by decide) ?_
    refine j_aload_n C dX6_goesBy_78 79 rfl rfl 0 rfl ?_
    refine j_get C dX6_goesBy_79 82 rfl hiX6 0 rfl rfl 0 (by decide) rfl kX6_goesBy_f7 rfl ?_
    refine j_iconst (v := 3) C dX6_goesBy_82 83 rfl (by decide) ?_
    refine j_iald C dX6_goesBy_83 84 rfl 1 rfl (by unfold vp_in; decide) 3 rfl ?_
    refine j_iconst (v := 1) C dX6_goesBy_84 85 rfl (by decide) ?_
    refine j_iadd C dX6_goesBy_85 86 rfl ?_
    refine j_cs0I (na := 2) C dX6_goesBy_86 89 rfl (c_X6_least τ  (9999 : Int32) ((ss_1 3) + 1) ) rfl ggX6_goesBy_X6_least rfl rfl rfl kX6_goesBy_iRX6 kX6_goesBy_m177 kX6_goesBy_sX6_least qd_X6_least rfl ⟨by decide, by decide⟩ ⟨by decide, by decide⟩ rfl (Nat.le_of_ble_eq_true rfl) (fun r10 u10 hX10 hn10 => ?_)
    obtain rfl := (Prod.mk.inj hX10).1
    refine j_goto C dX6_goesBy_89 93 rfl ?_
    rw [pr1_mk (f_X6_least (9999 : Int32) ((ss_1 3) + 1))] at hR
    exact j_lv [0, 1, 2] [(0, .ref (a 0)), (1, .int x1), (2, .int x2_1)] rfl (J72 _  hR)

theorem ok_goesByL {x1 : Int32} : ∀ (N : Nat) (x2 : Int32) (ss : Nat → Int32), 0 ≤ x2.toInt → okS ss → okS (l_X6_goesBy_2 x1 N x2 ss).2 := by
  intro N
  induction N with
  | zero => intro x2 ss _ h; rw [l_X6_goesBy_2]; exact h
  | succ N ih =>
    intro x2 ss h0 h
    rw [l_X6_goesBy_2]
    by_cases c : ss 0 ≤ x2
    · rw [if_pos c]; exact h
    · rw [if_neg c]
      have hs := cnt_step (B := 8) h0 h.2.1 (by decide) c
      exact ih _ _ hs.1 (ok_noise h h0 (by omega))
theorem ok_goesBy {x1 : Int32} {ss : Nat → Int32} (h : okS ss) : okS (f_X6_goesBy ss x1) := by
  unfold f_X6_goesBy
  have h1 := ok_goesByL (x1 := x1) 300 0 ss (by decide) h
  generalize l_X6_goesBy_2 x1 300 0 ss = p at h1
  obtain ⟨x, s1⟩ := p
  simp only [pr1, pr2, pr3, pr4]
  exact okS_upd (okS_upd (okS_upd (okS_upd h1 (by decide) (fun k _ => by omega)) (by decide) (fun k _ => by omega)) (by decide) (fun k _ => by omega)) (by decide) (fun k _ => by omega)

-- X6_goes
def l_X6_goes_2 (x1 : Int32) (x2 : Int32) : Nat → Int32 → (Nat → Int32) → Int32 × (Nat → Int32)
  | 0, x3, ss => (x3, ss)
  | N + 1, x3, ss => if (x1 ≤ x3) then (x3, ss) else (pr1 (f_X6_goesBy ss ((f_X6_sounding ss) &&& (x2 ^^^ (-1)))) (fun ss_4 => l_X6_goes_2 x1 x2 N (x3 + 1) ss_4))
def f_X6_goes (ss : Nat → Int32) (x1 : Int32) (x2 : Int32) : (Nat → Int32) := pr2 (l_X6_goes_2 x1 x2 300 (0 : Int32) ss) (fun x3_1 ss_1 => (ss_1))
theorem qd_X6_goes : yX6_goes.cls = RX6 ∧ yX6_goes.cls ≠ "java/lang/invoke/MethodHandle" ∧ yX6_goes.cls ≠ "java/lang/invoke/VarHandle" ∧ (parseMethodDescriptor yX6_goes.desc).map (fun d => d.parameters.length) = some 2 := by decide +kernel
abbrev rmX6_goes : Room := { frames := 4, cells := 0, slots := 0, locals := 90 }
set_option maxHeartbeats 4000000 in
set_option maxRecDepth 100000 in
theorem L_X6_goes_2 {τ : SX} {κ : KX} (C : Cx τ κ cX6_goes RX6 wsX6_goes rmX6_goes 4) (a : Nat → Nat) (mhd : Nat → Int32) (mas : Nat → Int32) (mbf : Nat → Int32) (mih : Int32) (mtp : Nat → Int32) (mtn : Int32) (mtk : Int32) (mfr : Int32) (mtt : Int32) (mvl : Int32) (miw : Int32) (mld : Nat → Int32) (mrw : Nat → Int32) (mrn : Int32) (mso : Nat → Int32) (msz : Nat → Int32) (mnu : Nat → Int32) (mhw : Nat → Int32) (mhh : Nat → Int32) (mhm : Nat → Int32) (mbo : Nat → Int32) (mrr : Int32) (mak : Int32) (man : Int32) (maa : Int32) (mip : Int32) (x1 : Int32) (x2 : Int32) (hx : x1.toInt ≤ 60) (Φ : Int32 × (Nat → Int32) → Prop) (hE : ∀ (x3 : Int32) (ss : Nat → Int32), Φ (x3, ss) → J τ κ 0 0 (wM τ a ss mhd mas mbf mih mtp mtn mtk mfr mtt mvl miw mld mrw mrn mso msz mnu mhw mhh mhm mbo mrr mak man maa mip) [(0, .ref (a 0)), (1, .int x1), (2, .int x2), (3, .int x3)] 25 []) : ∀ (N : Nat) (x3 : Int32) (ss : Nat → Int32), ((60 : Int) - x3.toInt).toNat < N → (0 ≤ x3.toInt) → (x3.toInt ≤ 60) → (okS ss) → Φ (l_X6_goes_2 x1 x2 N x3 ss) → J τ κ 0 0 (wM τ a ss mhd mas mbf mih mtp mtn mtk mfr mtt mvl miw mld mrw mrn mso msz mnu mhw mhh mhm mbo mrr mak man maa mip) [(0, .ref (a 0)), (1, .int x1), (2, .int x2), (3, .int x3)] 2 [] := by
  have hiX6 : ∀ w ∈ wsX60, w ∈ wsX6_goes := fun w h => List.mem_cons_of_mem _ (List.mem_append_right _ h)
  intro N
  induction N with
  | zero => intro x3 ss hm; exact absurd hm (Nat.not_lt_zero _)
  | succ N ih =>
    intro x3 ss hm h0 h1 hok hR
    rw [l_X6_goes_2] at hR
    refine j_iload_n C dX6_goes_2 3 rfl rfl 3 rfl ?_
    refine j_iload_n C dX6_goes_3 4 rfl rfl 1 rfl ?_
    refine j_icmp_ge C dX6_goes_4 25 rfl 7 rfl (fun c2 => ?_) (fun c2 => ?_)
    · rw [if_pos c2] at hR
      exact j_lv [0, 1, 2, 3] [(0, .ref (a 0)), (1, .int x1), (2, .int x2), (3, .int x3)] rfl (hE _ _  hR)
    · rw [if_neg c2] at hR
      have hs := cnt_step (B := 60) h0 (hx) (by decide) c2
      refine j_aload_n C dX6_goes_7 8 rfl rfl 0 rfl ?_
      refine j_aload_n C dX6_goes_8 9 rfl rfl 0 rfl ?_
      refine j_cv0I (na := 0) C dX6_goes_9 12 rfl (c_X6_sounding τ a ss mhd mas mbf mih mtp mtn mtk mfr mtt mvl miw mld mrw mrn mso msz mnu mhw mhh mhm mbo mrr mak man maa mip (by first | assumption | decide | (unfold vp_in; decide) | exact ok_bt (by assumption) (by first | assumption | omega) (by omega) | exact m_one (by assumption) (by assumption) | exact m_x60 (by assumption) | exact m_x30 (by assumption) | exact vp_in_iff.mpr ⟨by omega, by omega⟩ | omega)) gX6_goes_X6_sounding rfl rfl rfl qd_X6_sounding rfl ⟨by decide, by decide⟩ ⟨by decide, by decide⟩ rfl (Nat.le_of_ble_eq_true rfl) rfl 6 0 rfl rfl (fun r3 u3 hX3 hn3 => ?_)
      obtain rfl := (Prod.mk.inj hX3).1
      refine j_iload_n C dX6_goes_12 13 rfl rfl 2 rfl ?_
      refine j_iconst (v := (-1)) C dX6_goes_13 14 rfl (by decide) ?_
      refine j_ixor C dX6_goes_14 15 rfl ?_
      refine j_iand C dX6_goes_15 16 rfl ?_
      refine j_cv0V (na := 1) C dX6_goes_16 19 rfl (c_X6_goesBy τ a ss mhd mas mbf mih mtp mtn mtk mfr mtt mvl miw mld mrw mrn mso msz mnu mhw mhh mhm mbo mrr mak man maa mip ((f_X6_sounding ss) &&& (x2 ^^^ (-1))) (by first | assumption | decide | (unfold vp_in; decide) | exact ok_bt (by assumption) (by first | assumption | omega) (by omega) | exact m_one (by assumption) (by assumption) | exact m_x60 (by assumption) | exact m_x30 (by assumption) | exact vp_in_iff.mpr ⟨by omega, by omega⟩ | omega)) gX6_goes_X6_goesBy rfl rfl rfl qd_X6_goesBy rfl ⟨by decide, by decide⟩ ⟨by decide, by decide⟩ rfl (Nat.le_of_ble_eq_true rfl) rfl 6 0 rfl rfl (fun u4 hX4 => ?_)
      obtain ⟨ss_4, rfl⟩ : ∃ z, z = u4 := ⟨_, rfl⟩
      rw [hX4] at hR; rw [pr1_mk ss_4] at hR
      have hok4 : okS ss_4 := by rw [← hX4]; exact ok_goesBy (by assumption)
      refine j_iinc (v := (x3 + 1)) C dX6_goes_19 22 rfl 3 rfl rfl (by decide) [(3, .int (x3 + 1)), (0, .ref (a 0)), (1, .int x1), (2, .int x2)] rfl ?_
      refine j_goto C dX6_goes_22 2 rfl ?_
      exact j_lv [1, 2, 3, 0] [(0, .ref (a 0)), (1, .int x1), (2, .int x2), (3, .int (x3 + 1))] rfl (ih _ _ (by have := hs.2.2.1; omega) hs.1 hs.2.1 (by assumption) hR)
set_option maxHeartbeats 4000000 in
set_option maxRecDepth 100000 in
theorem c_X6_goes (τ : SX) (a : Nat → Nat) (ss : Nat → Int32) (mhd : Nat → Int32) (mas : Nat → Int32) (mbf : Nat → Int32) (mih : Int32) (mtp : Nat → Int32) (mtn : Int32) (mtk : Int32) (mfr : Int32) (mtt : Int32) (mvl : Int32) (miw : Int32) (mld : Nat → Int32) (mrw : Nat → Int32) (mrn : Int32) (mso : Nat → Int32) (msz : Nat → Int32) (mnu : Nat → Int32) (mhw : Nat → Int32) (mhh : Nat → Int32) (mhm : Nat → Int32) (mbo : Nat → Int32) (mrr : Int32) (mak : Int32) (man : Int32) (maa : Int32) (mip : Int32) (x1 : Int32) (x2 : Int32) (hok : okS ss) (hx : x1.toInt ≤ 60) (sz : Nat) : McV τ yX6_goes wsX6_goes rmX6_goes [.ref (a 0), .int x1, .int x2] (wM τ a ss mhd mas mbf mih mtp mtn mtk mfr mtt mvl miw mld mrw mrn mso msz mnu mhw mhh mhm mbo mrr mak man maa mip) (fun u : (Nat → Int32) => (wM τ a u mhd mas mbf mih mtp mtn mtk mfr mtt mvl miw mld mrw mrn mso msz mnu mhw mhh mhm mbo mrr mak man maa mip)) (f_X6_goes ss x1 x2) 0 0 sz := by
  refine mc_V (cc := cX6_goes) (own := RX6) [(0, .ref (a 0)), (1, .int x1), (2, .int x2)] rfl (by decide) rfl rfl (Nat.le_of_ble_eq_true rfl) (fun κ C _ hR => ?_)
  have hiX6 : ∀ w ∈ wsX60, w ∈ wsX6_goes := fun w h => List.mem_cons_of_mem _ (List.mem_append_right _ h)
  unfold f_X6_goes at hR
  refine j_iconst (v := 0) C dX6_goes_0 1 rfl (by decide) ?_
  refine j_istore_n C dX6_goes_1 2 rfl rfl (by decide) [(3, .int 0), (0, .ref (a 0)), (1, .int x1), (2, .int x2)] rfl ?_
  refine j_lv [1, 2, 3, 0] [(0, .ref (a 0)), (1, .int x1), (2, .int x2), (3, .int 0)] rfl (L_X6_goes_2 C a mhd mas mbf mih mtp mtn mtk mfr mtt mvl miw mld mrw mrn mso msz mnu mhw mhh mhm mbo mrr mak man maa mip x1 x2 hx (fun (o : Int32 × (Nat → Int32)) => RtV τ κ cX6_goes 0 0 (fun u : (Nat → Int32) => (wM τ a u mhd mas mbf mih mtp mtn mtk mfr mtt mvl miw mld mrw mrn mso msz mnu mhw mhh mhm mbo mrr mak man maa mip)) (pr2 o (fun x3_1 ss_1 => (ss_1)))) (fun x3_1 ss_1  hR => ?_) 300 (0 : Int32) ss (by decide) (by decide) (by decide) (by assumption) hR)
  rw [pr2_mk x3_1 ss_1] at hR
  exact hR _ _ dX6_goes_25

theorem ok_goesL {x1 x2 : Int32} : ∀ (N : Nat) (x3 : Int32) (ss : Nat → Int32), okS ss → okS (l_X6_goes_2 x1 x2 N x3 ss).2 := by
  intro N
  induction N with
  | zero => intro x3 ss h; rw [l_X6_goes_2]; exact h
  | succ N ih =>
    intro x3 ss h
    rw [l_X6_goes_2]
    by_cases c : x1 ≤ x3
    · rw [if_pos c]; exact h
    · rw [if_neg c]
      exact ih _ _ (ok_goesBy h)
theorem ok_goes {x1 x2 : Int32} {ss : Nat → Int32} (h : okS ss) : okS (f_X6_goes ss x1 x2) := by
  unfold f_X6_goes
  exact ok_goesL 300 0 ss h
theorem ok_of_eq {s t : Nat → Int32} (h : okS s) (e : ∀ k, k < 50 → t k = s k) : okS t := by
  refine ⟨by rw [e 0 (by decide)]; exact h.1, by rw [e 0 (by decide)]; exact h.2.1, fun k hk => ?_⟩
  rw [e 0 (by decide)] at hk
  have := h.2.1
  rw [e _ (by omega)]
  exact h.2.2 k hk
theorem in6 {x : Int32} {l h : Int64} (c : ¬ f_X6_isIn x.toInt64 l h = 0) : l.toInt ≤ x.toInt ∧ x.toInt ≤ h.toInt := by
  unfold f_X6_isIn at c
  by_cases c1 : lg_cmp x.toInt64 l < 0
  · rw [if_pos c1] at c; exact absurd rfl c
  · rw [if_neg c1] at c
    by_cases c2 : 0 < lg_cmp x.toInt64 h
    · rw [if_pos c2] at c; exact absurd rfl c
    · have e := Int32.toInt_toInt64 x
      have a1 : ¬ (x.toInt64 < l) := fun q => c1 (by unfold lg_cmp; rw [if_neg (by intro q2; exact Int64.lt_irrefl (Int64.lt_trans q q2)), if_neg (by intro q2; rw [q2] at q; exact Int64.lt_irrefl q)]; decide)
      have a2 : ¬ (h < x.toInt64) := fun q => c2 (by unfold lg_cmp; rw [if_pos q]; decide)
      rw [Int64.lt_iff_toInt_lt, e] at a1 a2
      omega

theorem cpsaL (ss : Nat → Int32) : ∀ (N : Nat) (x2 : Int32) (mas : Nat → Int32), 0 ≤ x2.toInt → x2.toInt ≤ 50 → ((50 : Int) - x2.toInt).toNat < N → (∀ k : Nat, (k : Int) < x2.toInt → mas k = ss k) → ∀ k : Nat, k < 50 → (l_X6_copyRow__sa_2 ss N x2 mas).2 k = ss k := by
  intro N
  induction N with
  | zero => intro x2 mas _ _ h; exact absurd h (Nat.not_lt_zero _)
  | succ N ih =>
    intro x2 mas h0 h1 hm hq k hk
    rw [l_X6_copyRow__sa_2]
    by_cases c : (50 : Int32) ≤ x2
    · rw [if_pos c]
      rw [i32_le, show (50 : Int32).toInt = 50 from rfl] at c
      exact hq k (by omega)
    · rw [if_neg c]
      have hs := cnt_step (B := 50) h0 (by decide) (by decide) c
      have e1 := i32_add1 (i := x2) (by omega)
      have ec : (x2.toNatClampNeg : Int) = x2.toInt := by show ((x2.toInt.toNat : Nat) : Int) = x2.toInt; omega
      refine ih _ _ hs.1 hs.2.1 (by omega) (fun j hj => ?_) k hk
      by_cases ej : j = x2.toNatClampNeg
      · rw [ej]; exact pk_us
      · rw [pk_un ej]; exact hq j (by omega)
theorem cpsa (ss mas : Nat → Int32) : ∀ k : Nat, k < 50 → f_X6_copyRow__sa ss mas k = ss k := by
  unfold f_X6_copyRow__sa
  exact cpsaL ss 300 0 mas (by decide) (by decide) (by decide) (fun k hk => absurd hk (by rw [show (0 : Int32).toInt = 0 from rfl]; omega))

theorem cpasL (mas : Nat → Int32) : ∀ (N : Nat) (x2 : Int32) (ss : Nat → Int32), 0 ≤ x2.toInt → x2.toInt ≤ 50 → ((50 : Int) - x2.toInt).toNat < N → (∀ k : Nat, (k : Int) < x2.toInt → ss k = mas k) → ∀ k : Nat, k < 50 → (l_X6_copyRow__as_2 mas N x2 ss).2 k = mas k := by
  intro N
  induction N with
  | zero => intro x2 ss _ _ h; exact absurd h (Nat.not_lt_zero _)
  | succ N ih =>
    intro x2 ss h0 h1 hm hq k hk
    rw [l_X6_copyRow__as_2]
    by_cases c : (50 : Int32) ≤ x2
    · rw [if_pos c]
      rw [i32_le, show (50 : Int32).toInt = 50 from rfl] at c
      exact hq k (by omega)
    · rw [if_neg c]
      have hs := cnt_step (B := 50) h0 (by decide) (by decide) c
      have e1 := i32_add1 (i := x2) (by omega)
      have ec : (x2.toNatClampNeg : Int) = x2.toInt := by show ((x2.toInt.toNat : Nat) : Int) = x2.toInt; omega
      refine ih _ _ hs.1 hs.2.1 (by omega) (fun j hj => ?_) k hk
      by_cases ej : j = x2.toNatClampNeg
      · rw [ej]; exact pk_us
      · rw [pk_un ej]; exact hq j (by omega)
theorem cpas (mas ss : Nat → Int32) : ∀ k : Nat, k < 50 → f_X6_copyRow__as ss mas k = mas k := by
  unfold f_X6_copyRow__as
  exact cpasL mas 300 0 ss (by decide) (by decide) (by decide) (fun k hk => absurd hk (by rw [show (0 : Int32).toInt = 0 from rfl]; omega))

theorem cpsbL (ss : Nat → Int32) : ∀ (N : Nat) (x2 : Int32) (mbf : Nat → Int32), 0 ≤ x2.toInt → x2.toInt ≤ 50 → ((50 : Int) - x2.toInt).toNat < N → (∀ k : Nat, (k : Int) < x2.toInt → mbf k = ss k) → ∀ k : Nat, k < 50 → (l_X6_copyRow__sb_2 ss N x2 mbf).2 k = ss k := by
  intro N
  induction N with
  | zero => intro x2 mbf _ _ h; exact absurd h (Nat.not_lt_zero _)
  | succ N ih =>
    intro x2 mbf h0 h1 hm hq k hk
    rw [l_X6_copyRow__sb_2]
    by_cases c : (50 : Int32) ≤ x2
    · rw [if_pos c]
      rw [i32_le, show (50 : Int32).toInt = 50 from rfl] at c
      exact hq k (by omega)
    · rw [if_neg c]
      have hs := cnt_step (B := 50) h0 (by decide) (by decide) c
      have e1 := i32_add1 (i := x2) (by omega)
      have ec : (x2.toNatClampNeg : Int) = x2.toInt := by show ((x2.toInt.toNat : Nat) : Int) = x2.toInt; omega
      refine ih _ _ hs.1 hs.2.1 (by omega) (fun j hj => ?_) k hk
      by_cases ej : j = x2.toNatClampNeg
      · rw [ej]; exact pk_us
      · rw [pk_un ej]; exact hq j (by omega)
theorem cpsb (ss mbf : Nat → Int32) : ∀ k : Nat, k < 50 → f_X6_copyRow__sb ss mbf k = ss k := by
  unfold f_X6_copyRow__sb
  exact cpsbL ss 300 0 mbf (by decide) (by decide) (by decide) (fun k hk => absurd hk (by rw [show (0 : Int32).toInt = 0 from rfl]; omega))

theorem cpbsL (mbf : Nat → Int32) : ∀ (N : Nat) (x2 : Int32) (ss : Nat → Int32), 0 ≤ x2.toInt → x2.toInt ≤ 50 → ((50 : Int) - x2.toInt).toNat < N → (∀ k : Nat, (k : Int) < x2.toInt → ss k = mbf k) → ∀ k : Nat, k < 50 → (l_X6_copyRow__bs_2 mbf N x2 ss).2 k = mbf k := by
  intro N
  induction N with
  | zero => intro x2 ss _ _ h; exact absurd h (Nat.not_lt_zero _)
  | succ N ih =>
    intro x2 ss h0 h1 hm hq k hk
    rw [l_X6_copyRow__bs_2]
    by_cases c : (50 : Int32) ≤ x2
    · rw [if_pos c]
      rw [i32_le, show (50 : Int32).toInt = 50 from rfl] at c
      exact hq k (by omega)
    · rw [if_neg c]
      have hs := cnt_step (B := 50) h0 (by decide) (by decide) c
      have e1 := i32_add1 (i := x2) (by omega)
      have ec : (x2.toNatClampNeg : Int) = x2.toInt := by show ((x2.toInt.toNat : Nat) : Int) = x2.toInt; omega
      refine ih _ _ hs.1 hs.2.1 (by omega) (fun j hj => ?_) k hk
      by_cases ej : j = x2.toNatClampNeg
      · rw [ej]; exact pk_us
      · rw [pk_un ej]; exact hq j (by omega)
theorem cpbs (mbf ss : Nat → Int32) : ∀ k : Nat, k < 50 → f_X6_copyRow__bs ss mbf k = mbf k := by
  unfold f_X6_copyRow__bs
  exact cpbsL mbf 300 0 ss (by decide) (by decide) (by decide) (fun k hk => absurd hk (by rw [show (0 : Int32).toInt = 0 from rfl]; omega))

theorem ok_cp_sa {ss mas : Nat → Int32} (h : okS ss) : okS (f_X6_copyRow__sa ss mas) := ok_of_eq h (cpsa ss mas)
theorem ok_cp_as {ss mas : Nat → Int32} (h : okS mas) : okS (f_X6_copyRow__as ss mas) := ok_of_eq h (cpas mas ss)
theorem m_one {ss : Nat → Int32} {o : Int32} (c : ¬ f_X6_isOne ss o = 0) (h : okS ss) : vp_in o 8 := by
  have h8 := h.2.1
  unfold f_X6_isOne at c
  by_cases c1 : o < 0
  · rw [if_pos c1] at c; exact absurd rfl c
  · rw [if_neg c1] at c
    by_cases c2 : ss 0 ≤ o
    · rw [if_pos c2] at c; exact absurd rfl c
    · rw [i32_lt] at c1
      rw [i32_le] at c2
      have e0 : (0 : Int32).toInt = 0 := rfl
      exact vpI (by omega) (by omega)
theorem m_oneI {ss : Nat → Int32} {o : Int32} (c : ¬ f_X6_isOne ss o = 0) : 0 ≤ o.toInt ∧ o.toInt < (ss 0).toInt := by
  unfold f_X6_isOne at c
  by_cases c1 : o < 0
  · rw [if_pos c1] at c; exact absurd rfl c
  · rw [if_neg c1] at c
    by_cases c2 : ss 0 ≤ o
    · rw [if_pos c2] at c; exact absurd rfl c
    · rw [i32_lt] at c1
      rw [i32_le] at c2
      have e0 : (0 : Int32).toInt = 0 := rfl
      omega
theorem m_x60 {x : Int32} {l : Int64} (c : ¬ f_X6_isIn x.toInt64 l 60 = 0) : x.toInt ≤ 60 := (in6 c).2
theorem m_x30 {x : Int32} {l : Int64} (c : ¬ f_X6_isIn x.toInt64 l 30 = 0) : x.toInt ≤ 60 := by
  have h := (in6 c).2
  rw [show (30 : Int64).toInt = 30 from rfl] at h
  omega
-- X6_seconds
def f_X6_seconds (ss : Nat → Int32) (x1 : Int32) : Int32 × (Nat → Int32) := if ((f_X6_isIn ((x1 : Int32).toInt64) (1 : Int64) (60 : Int64)) = 0) then (((-1) : Int32), ss) else (pr1 (f_X6_goes ss x1 (0 : Int32)) (fun ss_3 => ((ss_3 3), ss_3)))
theorem kX6_seconds_c201 : Cond.constantLong RX6 201 60 ∈ wsX6_seconds := by decide +kernel
theorem kX6_seconds_iRX6 : Cond.initialized yX6_isIn.cls ∈ wsX6_seconds := by decide +kernel
theorem kX6_seconds_sX6_isIn : Cond.static yX6_isIn ∈ wsX6_seconds := by decide +kernel
theorem kX6_seconds_m57 : Cond.methodLink RX6 57 yX6_isIn ∈ wsX6_seconds := by decide +kernel
theorem kX6_seconds_f7 : Cond.fieldLink RX6 7 "TwoMinutesModel" "s" "[I" ∈ wsX6_seconds := by decide +kernel
theorem qd_X6_seconds : yX6_seconds.cls = RX6 ∧ yX6_seconds.cls ≠ "java/lang/invoke/MethodHandle" ∧ yX6_seconds.cls ≠ "java/lang/invoke/VarHandle" ∧ (parseMethodDescriptor yX6_seconds.desc).map (fun d => d.parameters.length) = some 1 := by decide +kernel
abbrev rmX6_seconds : Room := { frames := 5, cells := 0, slots := 0, locals := 113 }
set_option maxHeartbeats 4000000 in
set_option maxRecDepth 100000 in
theorem c_X6_seconds (τ : SX) (a : Nat → Nat) (ss : Nat → Int32) (mhd : Nat → Int32) (mas : Nat → Int32) (mbf : Nat → Int32) (mih : Int32) (mtp : Nat → Int32) (mtn : Int32) (mtk : Int32) (mfr : Int32) (mtt : Int32) (mvl : Int32) (miw : Int32) (mld : Nat → Int32) (mrw : Nat → Int32) (mrn : Int32) (mso : Nat → Int32) (msz : Nat → Int32) (mnu : Nat → Int32) (mhw : Nat → Int32) (mhh : Nat → Int32) (mhm : Nat → Int32) (mbo : Nat → Int32) (mrr : Int32) (mak : Int32) (man : Int32) (maa : Int32) (mip : Int32) (x1 : Int32) (hok : okS ss) (sz : Nat) : McI τ yX6_seconds wsX6_seconds rmX6_seconds .int [.ref (a 0), .int x1] (wM τ a ss mhd mas mbf mih mtp mtn mtk mfr mtt mvl miw mld mrw mrn mso msz mnu mhw mhh mhm mbo mrr mak man maa mip) (fun u : (Nat → Int32) => (wM τ a u mhd mas mbf mih mtp mtn mtk mfr mtt mvl miw mld mrw mrn mso msz mnu mhw mhh mhm mbo mrr mak man maa mip)) (f_X6_seconds ss x1) sz := by
  refine mc_I (cc := cX6_seconds) (own := RX6) [(0, .ref (a 0)), (1, .int x1)] rfl (by decide) rfl rfl (Nat.le_of_ble_eq_true rfl) (fun κ C hR => ?_)
  have hiX6 : ∀ w ∈ wsX60, w ∈ wsX6_seconds := fun w h => List.mem_cons_of_mem _ (List.mem_append_right _ h)
  unfold f_X6_seconds at hR
  refine j_iload_n C dX6_seconds_0 1 rfl rfl 1 rfl ?_
  refine j_i2l C dX6_seconds_1 2 rfl ?_
  refine j_lconst (v := 1) C dX6_seconds_2 3 rfl (by decide) ?_
  refine j_ldc2 C dX6_seconds_3 6 rfl kX6_seconds_c201 ?_
  refine j_cs0I (na := 3) C dX6_seconds_6 9 rfl (c_X6_isIn τ  ((x1 : Int32).toInt64) (1 : Int64) (60 : Int64) ) rfl ggX6_seconds_X6_isIn rfl rfl rfl kX6_seconds_iRX6 kX6_seconds_m57 kX6_seconds_sX6_isIn qd_X6_isIn rfl ⟨by decide, by decide⟩ ⟨by decide, by decide⟩ rfl (Nat.le_of_ble_eq_true rfl) (fun r1 u1 hX1 hn1 => ?_)
  obtain rfl := (Prod.mk.inj hX1).1
  refine j_if_ne C dX6_seconds_9 14 rfl 12 rfl (fun c2 => ?_) (fun c2 => ?_)
  · rw [if_neg c2] at hR
    refine j_aload_n C dX6_seconds_14 15 rfl rfl 0 rfl ?_
    refine j_iload_n C dX6_seconds_15 16 rfl rfl 1 rfl ?_
    refine j_iconst (v := 0) C dX6_seconds_16 17 rfl (by decide) ?_
    refine j_cv0V (na := 2) C dX6_seconds_17 20 rfl (c_X6_goes τ a ss mhd mas mbf mih mtp mtn mtk mfr mtt mvl miw mld mrw mrn mso msz mnu mhw mhh mhm mbo mrr mak man maa mip x1 (0 : Int32) (by first | assumption | decide | (unfold vp_in; decide) | exact ok_bt (by assumption) (by first | assumption | omega) (by omega) | exact m_one (by assumption) (by assumption) | exact m_x60 (by assumption) | exact m_x30 (by assumption) | exact vp_in_iff.mpr ⟨by omega, by omega⟩ | omega) (by first | assumption | decide | (unfold vp_in; decide) | exact ok_bt (by assumption) (by first | assumption | omega) (by omega) | exact m_one (by assumption) (by assumption) | exact m_x60 (by assumption) | exact m_x30 (by assumption) | exact vp_in_iff.mpr ⟨by omega, by omega⟩ | omega)) gX6_seconds_X6_goes rfl rfl rfl qd_X6_goes rfl ⟨by decide, by decide⟩ ⟨by decide, by decide⟩ rfl (Nat.le_of_ble_eq_true rfl) rfl 6 0 rfl rfl (fun u3 hX3 => ?_)
    obtain ⟨ss_3, rfl⟩ : ∃ z, z = u3 := ⟨_, rfl⟩
    rw [hX3] at hR; rw [pr1_mk ss_3] at hR
    have hok3 : okS ss_3 := by rw [← hX3]; exact ok_goes (by assumption)
    refine j_aload_n C dX6_seconds_20 21 rfl rfl 0 rfl ?_
    refine j_get C dX6_seconds_21 24 rfl hiX6 0 rfl rfl 0 (by decide) rfl kX6_seconds_f7 rfl ?_
    refine j_iconst (v := 3) C dX6_seconds_24 25 rfl (by decide) ?_
    refine j_iald C dX6_seconds_25 26 rfl 1 rfl (by unfold vp_in; decide) 3 rfl ?_
    exact Rt.ret (hR) rfl dX6_seconds_26
  · rw [if_pos c2] at hR
    refine j_iconst (v := (-1)) C dX6_seconds_12 13 rfl (by decide) ?_
    exact Rt.ret (hR) rfl dX6_seconds_13

-- X6_drawn
def f_X6_drawn (ss : Nat → Int32) : Int32 × (Nat → Int32) := ((((((ss 2) * 1103515245) + 12345).toUInt32 >>> ((16 : Int32).toUInt32 &&& Int32.toUInt32 31)).toInt32), (upd ss 2 (((ss 2) * 1103515245) + 12345)))
theorem kX6_drawn_f7 : Cond.fieldLink RX6 7 "TwoMinutesModel" "s" "[I" ∈ wsX6_drawn := by decide +kernel
theorem kX6_drawn_c207 : Cond.constant RX6 207 1103515245 ∈ wsX6_drawn := by decide +kernel
theorem qd_X6_drawn : yX6_drawn.cls = RX6 ∧ yX6_drawn.cls ≠ "java/lang/invoke/MethodHandle" ∧ yX6_drawn.cls ≠ "java/lang/invoke/VarHandle" ∧ (parseMethodDescriptor yX6_drawn.desc).map (fun d => d.parameters.length) = some 0 := by decide +kernel
abbrev rmX6_drawn : Room := { frames := 0, cells := 0, slots := 0, locals := 0 }
set_option maxHeartbeats 4000000 in
set_option maxRecDepth 100000 in
theorem c_X6_drawn (τ : SX) (a : Nat → Nat) (ss : Nat → Int32) (mhd : Nat → Int32) (mas : Nat → Int32) (mbf : Nat → Int32) (mih : Int32) (mtp : Nat → Int32) (mtn : Int32) (mtk : Int32) (mfr : Int32) (mtt : Int32) (mvl : Int32) (miw : Int32) (mld : Nat → Int32) (mrw : Nat → Int32) (mrn : Int32) (mso : Nat → Int32) (msz : Nat → Int32) (mnu : Nat → Int32) (mhw : Nat → Int32) (mhh : Nat → Int32) (mhm : Nat → Int32) (mbo : Nat → Int32) (mrr : Int32) (mak : Int32) (man : Int32) (maa : Int32) (mip : Int32) (sz : Nat) : McI τ yX6_drawn wsX6_drawn rmX6_drawn .int [.ref (a 0)] (wM τ a ss mhd mas mbf mih mtp mtn mtk mfr mtt mvl miw mld mrw mrn mso msz mnu mhw mhh mhm mbo mrr mak man maa mip) (fun u : (Nat → Int32) => (wM τ a u mhd mas mbf mih mtp mtn mtk mfr mtt mvl miw mld mrw mrn mso msz mnu mhw mhh mhm mbo mrr mak man maa mip)) (f_X6_drawn ss) sz := by
  refine mc_I (cc := cX6_drawn) (own := RX6) [(0, .ref (a 0))] rfl (by decide) rfl rfl (Nat.le_of_ble_eq_true rfl) (fun κ C hR => ?_)
  have hiX6 : ∀ w ∈ wsX60, w ∈ wsX6_drawn := fun w h => List.mem_cons_of_mem _ (List.mem_append_right _ h)
  unfold f_X6_drawn at hR
  refine j_aload_n C dX6_drawn_0 1 rfl rfl 0 rfl ?_
  refine j_get C dX6_drawn_1 4 rfl hiX6 0 rfl rfl 0 (by decide) rfl kX6_drawn_f7 rfl ?_
  refine j_iconst (v := 2) C dX6_drawn_4 5 rfl (by decide) ?_
  refine j_aload_n C dX6_drawn_5 6 rfl rfl 0 rfl ?_
  refine j_get C dX6_drawn_6 9 rfl hiX6 0 rfl rfl 0 (by decide) rfl kX6_drawn_f7 rfl ?_
  refine j_iconst (v := 2) C dX6_drawn_9 10 rfl (by decide) ?_
  refine j_iald C dX6_drawn_10 11 rfl 1 rfl (by unfold vp_in; decide) 2 rfl ?_
  refine j_ldc C dX6_drawn_11 13 rfl kX6_drawn_c207 ?_
  refine j_imul C dX6_drawn_13 14 rfl ?_
  refine j_sipush (v := 12345) C dX6_drawn_14 17 rfl (by decide) ?_
  refine j_iadd C dX6_drawn_17 18 rfl ?_
  refine j_iast C dX6_drawn_18 19 rfl 1 rfl (by unfold vp_in; decide) 2 rfl (wM τ a (upd ss 2 (((ss 2) * 1103515245) + 12345)) mhd mas mbf mih mtp mtn mtk mfr mtt mvl miw mld mrw mrn mso msz mnu mhw mhh mhm mbo mrr mak man maa mip) rfl ?_
  refine j_aload_n C dX6_drawn_19 20 rfl rfl 0 rfl ?_
  refine j_get C dX6_drawn_20 23 rfl hiX6 0 rfl rfl 0 (by decide) rfl kX6_drawn_f7 rfl ?_
  refine j_iconst (v := 2) C dX6_drawn_23 24 rfl (by decide) ?_
  refine j_ialdv C dX6_drawn_24 25 rfl 1 rfl (by unfold vp_in; decide) 2 rfl (((ss 2) * 1103515245) + 12345) (by rfl) ?_
  refine j_bipush (v := 16) C dX6_drawn_25 27 rfl (by decide) ?_
  refine j_iushr C dX6_drawn_27 28 rfl ?_
  exact Rt.ret (hR) rfl dX6_drawn_28

theorem drawn_keep {s t : Nat → Int32} {r : Int32} (h : f_X6_drawn s = (r, t)) : ∀ k : Nat, k ≠ 2 → t k = s k := by
  intro k hk
  unfold f_X6_drawn at h
  have e := (Prod.mk.inj h).2
  rw [← e]
  exact pk_un hk
theorem ok_drawn {s t : Nat → Int32} {r : Int32} (h : okS s) (e : f_X6_drawn s = (r, t)) : okS t := by
  unfold f_X6_drawn at e
  rw [← (Prod.mk.inj e).2]
  exact okS_upd h (by decide) (fun k _ => by omega)

-- X6_second
def f_X6_second (ss : Nat → Int32) : Int32 × (Nat → Int32) := pr2 (if ((ss 0) ≤ 0) then ((f_X6_sounding ss), ss) else (pr2 (f_X6_drawn ss) (fun r3 ss_3 => pr2 (f_X6_drawn ss_3) (fun r4 ss_4 => pr1 (if ((ss_4 9) ≤ (r4 - r4 / 100 * 100)) then (0 : Int32) else ((1 : Int32) <<< ((r3 - r3 / (ss_3 0) * (ss_3 0)) &&& 31))) (fun j41_0 => (((f_X6_sounding ss) ||| j41_0), ss_4)))))) (fun j11_0 j11_1 => pr1 (f_X6_goesBy j11_1 j11_0) (fun ss_6 => ((ss_6 3), ss_6)))
theorem kX6_second_f7 : Cond.fieldLink RX6 7 "TwoMinutesModel" "s" "[I" ∈ wsX6_second := by decide +kernel
theorem qd_X6_second : yX6_second.cls = RX6 ∧ yX6_second.cls ≠ "java/lang/invoke/MethodHandle" ∧ yX6_second.cls ≠ "java/lang/invoke/VarHandle" ∧ (parseMethodDescriptor yX6_second.desc).map (fun d => d.parameters.length) = some 0 := by decide +kernel
abbrev rmX6_second : Room := { frames := 4, cells := 0, slots := 0, locals := 90 }
set_option maxHeartbeats 4000000 in
set_option maxRecDepth 100000 in
theorem c_X6_second (τ : SX) (a : Nat → Nat) (ss : Nat → Int32) (mhd : Nat → Int32) (mas : Nat → Int32) (mbf : Nat → Int32) (mih : Int32) (mtp : Nat → Int32) (mtn : Int32) (mtk : Int32) (mfr : Int32) (mtt : Int32) (mvl : Int32) (miw : Int32) (mld : Nat → Int32) (mrw : Nat → Int32) (mrn : Int32) (mso : Nat → Int32) (msz : Nat → Int32) (mnu : Nat → Int32) (mhw : Nat → Int32) (mhh : Nat → Int32) (mhm : Nat → Int32) (mbo : Nat → Int32) (mrr : Int32) (mak : Int32) (man : Int32) (maa : Int32) (mip : Int32) (hok : okS ss) (sz : Nat) : McI τ yX6_second wsX6_second rmX6_second .int [.ref (a 0)] (wM τ a ss mhd mas mbf mih mtp mtn mtk mfr mtt mvl miw mld mrw mrn mso msz mnu mhw mhh mhm mbo mrr mak man maa mip) (fun u : (Nat → Int32) => (wM τ a u mhd mas mbf mih mtp mtn mtk mfr mtt mvl miw mld mrw mrn mso msz mnu mhw mhh mhm mbo mrr mak man maa mip)) (f_X6_second ss) sz := by
  refine mc_I (cc := cX6_second) (own := RX6) [(0, .ref (a 0))] rfl (by decide) rfl rfl (Nat.le_of_ble_eq_true rfl) (fun κ C hR => ?_)
  have hiX6 : ∀ w ∈ wsX60, w ∈ wsX6_second := fun w h => List.mem_cons_of_mem _ (List.mem_append_right _ h)
  unfold f_X6_second at hR
  refine j_aload_n C dX6_second_0 1 rfl rfl 0 rfl ?_
  refine j_cv0I (na := 0) C dX6_second_1 4 rfl (c_X6_sounding τ a ss mhd mas mbf mih mtp mtn mtk mfr mtt mvl miw mld mrw mrn mso msz mnu mhw mhh mhm mbo mrr mak man maa mip (by first | assumption | decide | (unfold vp_in; decide) | exact ok_bt (by assumption) (by first | assumption | omega) (by omega) | exact m_one (by assumption) (by assumption) | exact m_x60 (by assumption) | exact m_x30 (by assumption) | exact vp_in_iff.mpr ⟨by omega, by omega⟩ | omega)) gX6_second_X6_sounding rfl rfl rfl qd_X6_sounding rfl ⟨by decide, by decide⟩ ⟨by decide, by decide⟩ rfl (Nat.le_of_ble_eq_true rfl) rfl 6 0 rfl rfl (fun r1 u1 hX1 hn1 => ?_)
  obtain rfl := (Prod.mk.inj hX1).1
  refine j_istore_n C dX6_second_4 5 rfl rfl (by decide) [(1, .int (f_X6_sounding ss)), (0, .ref (a 0))] rfl ?_
  refine j_aload_n C dX6_second_5 6 rfl rfl 1 rfl ?_
  refine j_get C dX6_second_6 9 rfl hiX6 0 rfl rfl 0 (by decide) rfl kX6_second_f7 rfl ?_
  refine j_iconst (v := 0) C dX6_second_9 10 rfl (by decide) ?_
  refine j_iald C dX6_second_10 11 rfl 1 rfl (by unfold vp_in; decide) 0 rfl ?_
  have J11 : ∀ (j11_0 : Int32) (j11_1 : Nat → Int32), (okS j11_1) → Rt τ κ cX6_second .int (fun u : (Nat → Int32) => (wM τ a u mhd mas mbf mih mtp mtn mtk mfr mtt mvl miw mld mrw mrn mso msz mnu mhw mhh mhm mbo mrr mak man maa mip)) (pr1 (f_X6_goesBy j11_1 j11_0) (fun ss_6 => ((ss_6 3), ss_6))) → J τ κ 0 0 (wM τ a j11_1 mhd mas mbf mih mtp mtn mtk mfr mtt mvl miw mld mrw mrn mso msz mnu mhw mhh mhm mbo mrr mak man maa mip) [(0, .ref (a 0)), (1, .int j11_0)] 53 [] := by
    intro j11_0 j11_1 hokj hR
    refine j_aload_n C dX6_second_53 54 rfl rfl 0 rfl ?_
    refine j_iload_n C dX6_second_54 55 rfl rfl 1 rfl ?_
    refine j_cv0V (na := 1) C dX6_second_55 58 rfl (c_X6_goesBy τ a j11_1 mhd mas mbf mih mtp mtn mtk mfr mtt mvl miw mld mrw mrn mso msz mnu mhw mhh mhm mbo mrr mak man maa mip j11_0 (by first | assumption | decide | (unfold vp_in; decide) | exact ok_bt (by assumption) (by first | assumption | omega) (by omega) | exact m_one (by assumption) (by assumption) | exact m_x60 (by assumption) | exact m_x30 (by assumption) | exact vp_in_iff.mpr ⟨by omega, by omega⟩ | omega)) gX6_second_X6_goesBy rfl rfl rfl qd_X6_goesBy rfl ⟨by decide, by decide⟩ ⟨by decide, by decide⟩ rfl (Nat.le_of_ble_eq_true rfl) rfl 6 0 rfl rfl (fun u6 hX6 => ?_)
    obtain ⟨ss_6, rfl⟩ : ∃ z, z = u6 := ⟨_, rfl⟩
    rw [hX6] at hR; rw [pr1_mk ss_6] at hR
    have hok6 : okS ss_6 := by rw [← hX6]; exact ok_goesBy (by assumption)
    refine j_aload_n C dX6_second_58 59 rfl rfl 0 rfl ?_
    refine j_get C dX6_second_59 62 rfl hiX6 0 rfl rfl 0 (by decide) rfl kX6_second_f7 rfl ?_
    refine j_iconst (v := 3) C dX6_second_62 63 rfl (by decide) ?_
    refine j_iald C dX6_second_63 64 rfl 1 rfl (by unfold vp_in; decide) 3 rfl ?_
    exact Rt.ret (hR) rfl dX6_second_64
  refine j_if_le C dX6_second_11 53 rfl 14 rfl (fun c2 => ?_) (fun c2 => ?_)
  · rw [if_pos c2] at hR
    rw [pr2_mk (f_X6_sounding ss) ss] at hR
    exact j_lv [1, 0] [(0, .ref (a 0)), (1, .int (f_X6_sounding ss))] rfl (J11 _ _ (by assumption) hR)
  · rw [if_neg c2] at hR
    refine j_aload_n C dX6_second_14 15 rfl rfl 1 rfl ?_
    refine j_cv0I (na := 0) C dX6_second_15 18 rfl (c_X6_drawn τ a ss mhd mas mbf mih mtp mtn mtk mfr mtt mvl miw mld mrw mrn mso msz mnu mhw mhh mhm mbo mrr mak man maa mip ) gX6_second_X6_drawn rfl rfl rfl qd_X6_drawn rfl ⟨by decide, by decide⟩ ⟨by decide, by decide⟩ rfl (Nat.le_of_ble_eq_true rfl) rfl 6 0 rfl rfl (fun r3 u3 hX3 hn3 => ?_)
    obtain ⟨ss_3, rfl⟩ : ∃ z, z = u3 := ⟨_, rfl⟩
    rw [hX3] at hR; rw [pr2_mk r3 ss_3] at hR
    have hok3 : okS ss_3 := ok_drawn (by assumption) hX3
    refine j_aload_n C dX6_second_18 19 rfl rfl 1 rfl ?_
    refine j_get C dX6_second_19 22 rfl hiX6 0 rfl rfl 0 (by decide) rfl kX6_second_f7 rfl ?_
    refine j_iconst (v := 0) C dX6_second_22 23 rfl (by decide) ?_
    refine j_iald C dX6_second_23 24 rfl 1 rfl (by unfold vp_in; decide) 0 rfl ?_
    refine j_irem C dX6_second_24 25 rfl (by rw [drawn_keep hX3 0 (by decide)]; exact nz_nle (by assumption)) ?_
    refine j_istore_n C dX6_second_25 26 rfl rfl (by decide) [(2, .int (r3 - r3 / (ss_3 0) * (ss_3 0))), (1, .int (f_X6_sounding ss)), (0, .ref (a 0))] rfl ?_
    refine j_iload_n C dX6_second_26 27 rfl rfl 1 rfl ?_
    refine j_aload_n C dX6_second_27 28 rfl rfl 2 rfl ?_
    refine j_cv0I (na := 0) C dX6_second_28 31 rfl (c_X6_drawn τ a ss_3 mhd mas mbf mih mtp mtn mtk mfr mtt mvl miw mld mrw mrn mso msz mnu mhw mhh mhm mbo mrr mak man maa mip ) gX6_second_X6_drawn rfl rfl rfl qd_X6_drawn rfl ⟨by decide, by decide⟩ ⟨by decide, by decide⟩ rfl (Nat.le_of_ble_eq_true rfl) rfl 6 0 rfl rfl (fun r4 u4 hX4 hn4 => ?_)
    obtain ⟨ss_4, rfl⟩ : ∃ z, z = u4 := ⟨_, rfl⟩
    rw [hX4] at hR; rw [pr2_mk r4 ss_4] at hR
    have hok4 : okS ss_4 := ok_drawn (by assumption) hX4
    refine j_bipush (v := 100) C dX6_second_31 33 rfl (by decide) ?_
    refine j_irem C dX6_second_33 34 rfl (by decide) ?_
    refine j_aload_n C dX6_second_34 35 rfl rfl 2 rfl ?_
    refine j_get C dX6_second_35 38 rfl hiX6 0 rfl rfl 0 (by decide) rfl kX6_second_f7 rfl ?_
    refine j_bipush (v := 9) C dX6_second_38 40 rfl (by decide) ?_
    refine j_iald C dX6_second_40 41 rfl 1 rfl (by unfold vp_in; decide) 9 rfl ?_
    have J41 : ∀ (j41_0 : Int32), Rt τ κ cX6_second .int (fun u : (Nat → Int32) => (wM τ a u mhd mas mbf mih mtp mtn mtk mfr mtt mvl miw mld mrw mrn mso msz mnu mhw mhh mhm mbo mrr mak man maa mip)) (pr2 ((((f_X6_sounding ss) ||| j41_0), ss_4)) (fun j11_0 j11_1 => pr1 (f_X6_goesBy j11_1 j11_0) (fun ss_6 => ((ss_6 3), ss_6)))) → J τ κ 0 0 (wM τ a ss_4 mhd mas mbf mih mtp mtn mtk mfr mtt mvl miw mld mrw mrn mso msz mnu mhw mhh mhm mbo mrr mak man maa mip) [(0, .ref (a 0)), (1, .int (f_X6_sounding ss)), (2, .int (r3 - r3 / (ss_3 0) * (ss_3 0)))] 51 [.int j41_0, .int (f_X6_sounding ss)] := by
      intro j41_0  hR
      refine j_ior C dX6_second_51 52 rfl ?_
      refine j_istore_n C dX6_second_52 53 rfl rfl (by decide) [(1, .int ((f_X6_sounding ss) ||| j41_0)), (0, .ref (a 0)), (2, .int (r3 - r3 / (ss_3 0) * (ss_3 0)))] rfl ?_
      rw [pr2_mk ((f_X6_sounding ss) ||| j41_0) ss_4] at hR
      exact j_lv [1, 0] [(0, .ref (a 0)), (1, .int ((f_X6_sounding ss) ||| j41_0))] rfl (J11 _ _ (by assumption) hR)
    refine j_icmp_ge C dX6_second_41 50 rfl 44 rfl (fun c5 => ?_) (fun c5 => ?_)
    · rw [if_pos c5] at hR
      refine j_iconst (v := 0) C dX6_second_50 51 rfl (by decide) ?_
      rw [pr1_mk (0 : Int32)] at hR
      exact j_lv [2, 1, 0] [(0, .ref (a 0)), (1, .int (f_X6_sounding ss)), (2, .int (r3 - r3 / (ss_3 0) * (ss_3 0)))] rfl (J41 _  hR)
    · rw [if_neg c5] at hR
      refine j_iconst (v := 1) C dX6_second_44 45 rfl (by decide) ?_
      refine j_iload_n C dX6_second_45 46 rfl rfl 0 rfl ?_
      refine j_ishl C dX6_second_46 47 rfl ?_
      refine j_goto C dX6_second_47 51 rfl ?_
      rw [pr1_mk ((1 : Int32) <<< ((r3 - r3 / (ss_3 0) * (ss_3 0)) &&& 31))] at hR
      exact j_lv [2, 1, 0] [(0, .ref (a 0)), (1, .int (f_X6_sounding ss)), (2, .int (r3 - r3 / (ss_3 0) * (ss_3 0)))] rfl (J41 _  hR)

-- X6_seed
def f_X6_seed (ss : Nat → Int32) (x1 : Int32) : Int32 × (Nat → Int32) := pr2 (f_X6_becomes ss (2 : Int32) x1) (fun r1 ss_1 => (r1, ss_1))
theorem qd_X6_seed : yX6_seed.cls = RX6 ∧ yX6_seed.cls ≠ "java/lang/invoke/MethodHandle" ∧ yX6_seed.cls ≠ "java/lang/invoke/VarHandle" ∧ (parseMethodDescriptor yX6_seed.desc).map (fun d => d.parameters.length) = some 1 := by decide +kernel
abbrev rmX6_seed : Room := { frames := 1, cells := 0, slots := 0, locals := 23 }
set_option maxHeartbeats 4000000 in
set_option maxRecDepth 100000 in
theorem c_X6_seed (τ : SX) (a : Nat → Nat) (ss : Nat → Int32) (mhd : Nat → Int32) (mas : Nat → Int32) (mbf : Nat → Int32) (mih : Int32) (mtp : Nat → Int32) (mtn : Int32) (mtk : Int32) (mfr : Int32) (mtt : Int32) (mvl : Int32) (miw : Int32) (mld : Nat → Int32) (mrw : Nat → Int32) (mrn : Int32) (mso : Nat → Int32) (msz : Nat → Int32) (mnu : Nat → Int32) (mhw : Nat → Int32) (mhh : Nat → Int32) (mhm : Nat → Int32) (mbo : Nat → Int32) (mrr : Int32) (mak : Int32) (man : Int32) (maa : Int32) (mip : Int32) (x1 : Int32) (hok : okS ss) (sz : Nat) : McI τ yX6_seed wsX6_seed rmX6_seed .int [.ref (a 0), .int x1] (wM τ a ss mhd mas mbf mih mtp mtn mtk mfr mtt mvl miw mld mrw mrn mso msz mnu mhw mhh mhm mbo mrr mak man maa mip) (fun u : (Nat → Int32) => (wM τ a u mhd mas mbf mih mtp mtn mtk mfr mtt mvl miw mld mrw mrn mso msz mnu mhw mhh mhm mbo mrr mak man maa mip)) (f_X6_seed ss x1) sz := by
  refine mc_I (cc := cX6_seed) (own := RX6) [(0, .ref (a 0)), (1, .int x1)] rfl (by decide) rfl rfl (Nat.le_of_ble_eq_true rfl) (fun κ C hR => ?_)
  have hiX6 : ∀ w ∈ wsX60, w ∈ wsX6_seed := fun w h => List.mem_cons_of_mem _ (List.mem_append_right _ h)
  unfold f_X6_seed at hR
  refine j_aload_n C dX6_seed_0 1 rfl rfl 0 rfl ?_
  refine j_iconst (v := 2) C dX6_seed_1 2 rfl (by decide) ?_
  refine j_iload_n C dX6_seed_2 3 rfl rfl 1 rfl ?_
  refine j_cv0I (na := 2) C dX6_seed_3 6 rfl (c_X6_becomes τ a ss mhd mas mbf mih mtp mtn mtk mfr mtt mvl miw mld mrw mrn mso msz mnu mhw mhh mhm mbo mrr mak man maa mip (2 : Int32) x1 (by first | assumption | decide | (unfold vp_in; decide) | exact ok_bt (by assumption) (by first | assumption | omega) (by omega) | exact m_one (by assumption) (by assumption) | exact m_x60 (by assumption) | exact m_x30 (by assumption) | exact vp_in_iff.mpr ⟨by omega, by omega⟩ | omega)) gX6_seed_X6_becomes rfl rfl rfl qd_X6_becomes rfl ⟨by decide, by decide⟩ ⟨by decide, by decide⟩ rfl (Nat.le_of_ble_eq_true rfl) rfl 6 0 rfl rfl (fun r1 u1 hX1 hn1 => ?_)
  obtain ⟨ss_1, rfl⟩ : ∃ z, z = u1 := ⟨_, rfl⟩
  rw [hX1] at hR; rw [pr2_mk r1 ss_1] at hR
  exact Rt.ret (hR) rfl dX6_seed_6

-- X6_state
def f_X6_state (ss : Nat → Int32) (x1 : Int32) : Int32 := (if x1 = 0 then (ss 1) else (if x1 = 1 then (ss 3) else (if x1 = 2 then (ss 4) else (if x1 = 3 then (ss 5) else (if x1 = 4 then (f_X6_noises ss) else (if x1 = 5 then (f_X6_sounding ss) else ((-1) : Int32)))))))
theorem kX6_state_f7 : Cond.fieldLink RX6 7 "TwoMinutesModel" "s" "[I" ∈ wsX6_state := by decide +kernel
theorem qd_X6_state : yX6_state.cls = RX6 ∧ yX6_state.cls ≠ "java/lang/invoke/MethodHandle" ∧ yX6_state.cls ≠ "java/lang/invoke/VarHandle" ∧ (parseMethodDescriptor yX6_state.desc).map (fun d => d.parameters.length) = some 1 := by decide +kernel
abbrev rmX6_state : Room := { frames := 3, cells := 0, slots := 0, locals := 69 }
set_option maxHeartbeats 4000000 in
set_option maxRecDepth 100000 in
theorem c_X6_state (τ : SX) (a : Nat → Nat) (ss : Nat → Int32) (mhd : Nat → Int32) (mas : Nat → Int32) (mbf : Nat → Int32) (mih : Int32) (mtp : Nat → Int32) (mtn : Int32) (mtk : Int32) (mfr : Int32) (mtt : Int32) (mvl : Int32) (miw : Int32) (mld : Nat → Int32) (mrw : Nat → Int32) (mrn : Int32) (mso : Nat → Int32) (msz : Nat → Int32) (mnu : Nat → Int32) (mhw : Nat → Int32) (mhh : Nat → Int32) (mhm : Nat → Int32) (mbo : Nat → Int32) (mrr : Int32) (mak : Int32) (man : Int32) (maa : Int32) (mip : Int32) (x1 : Int32) (hok : okS ss) (sz : Nat) : McI τ yX6_state wsX6_state rmX6_state .int [.ref (a 0), .int x1] (wM τ a ss mhd mas mbf mih mtp mtn mtk mfr mtt mvl miw mld mrw mrn mso msz mnu mhw mhh mhm mbo mrr mak man maa mip) (fun _ : Unit => (wM τ a ss mhd mas mbf mih mtp mtn mtk mfr mtt mvl miw mld mrw mrn mso msz mnu mhw mhh mhm mbo mrr mak man maa mip)) (f_X6_state ss x1, ()) sz := by
  refine mc_I (cc := cX6_state) (own := RX6) [(0, .ref (a 0)), (1, .int x1)] rfl (by decide) rfl rfl (Nat.le_of_ble_eq_true rfl) (fun κ C hR => ?_)
  have hiX6 : ∀ w ∈ wsX60, w ∈ wsX6_state := fun w h => List.mem_cons_of_mem _ (List.mem_append_right _ h)
  unfold f_X6_state at hR
  refine j_iload_n C dX6_state_0 1 rfl rfl 1 rfl ?_
  by_cases c1 : x1 = 0
  · rw [if_pos c1] at hR
    refine j_tabIn C dX6_state_1 (by rw [c1]; decide) (by rw [c1]; decide) (by rw [c1]; rfl) 40 rfl ?_
    refine j_aload_n C dX6_state_40 41 rfl rfl 0 rfl ?_
    refine j_get C dX6_state_41 44 rfl hiX6 0 rfl rfl 0 (by decide) rfl kX6_state_f7 rfl ?_
    refine j_iconst (v := 1) C dX6_state_44 45 rfl (by decide) ?_
    refine j_iald C dX6_state_45 46 rfl 1 rfl (by unfold vp_in; decide) 1 rfl ?_
    exact Rt.ret (hR) rfl dX6_state_46
  rw [if_neg c1] at hR
  by_cases c2 : x1 = 1
  · rw [if_pos c2] at hR
    refine j_tabIn C dX6_state_1 (by rw [c2]; decide) (by rw [c2]; decide) (by rw [c2]; rfl) 47 rfl ?_
    refine j_aload_n C dX6_state_47 48 rfl rfl 0 rfl ?_
    refine j_get C dX6_state_48 51 rfl hiX6 0 rfl rfl 0 (by decide) rfl kX6_state_f7 rfl ?_
    refine j_iconst (v := 3) C dX6_state_51 52 rfl (by decide) ?_
    refine j_iald C dX6_state_52 53 rfl 1 rfl (by unfold vp_in; decide) 3 rfl ?_
    exact Rt.ret (hR) rfl dX6_state_53
  rw [if_neg c2] at hR
  by_cases c3 : x1 = 2
  · rw [if_pos c3] at hR
    refine j_tabIn C dX6_state_1 (by rw [c3]; decide) (by rw [c3]; decide) (by rw [c3]; rfl) 54 rfl ?_
    refine j_aload_n C dX6_state_54 55 rfl rfl 0 rfl ?_
    refine j_get C dX6_state_55 58 rfl hiX6 0 rfl rfl 0 (by decide) rfl kX6_state_f7 rfl ?_
    refine j_iconst (v := 4) C dX6_state_58 59 rfl (by decide) ?_
    refine j_iald C dX6_state_59 60 rfl 1 rfl (by unfold vp_in; decide) 4 rfl ?_
    exact Rt.ret (hR) rfl dX6_state_60
  rw [if_neg c3] at hR
  by_cases c4 : x1 = 3
  · rw [if_pos c4] at hR
    refine j_tabIn C dX6_state_1 (by rw [c4]; decide) (by rw [c4]; decide) (by rw [c4]; rfl) 61 rfl ?_
    refine j_aload_n C dX6_state_61 62 rfl rfl 0 rfl ?_
    refine j_get C dX6_state_62 65 rfl hiX6 0 rfl rfl 0 (by decide) rfl kX6_state_f7 rfl ?_
    refine j_iconst (v := 5) C dX6_state_65 66 rfl (by decide) ?_
    refine j_iald C dX6_state_66 67 rfl 1 rfl (by unfold vp_in; decide) 5 rfl ?_
    exact Rt.ret (hR) rfl dX6_state_67
  rw [if_neg c4] at hR
  by_cases c6 : x1 = 4
  · rw [if_pos c6] at hR
    refine j_tabIn C dX6_state_1 (by rw [c6]; decide) (by rw [c6]; decide) (by rw [c6]; rfl) 68 rfl ?_
    refine j_aload_n C dX6_state_68 69 rfl rfl 0 rfl ?_
    refine j_cv0I (na := 0) C dX6_state_69 72 rfl (c_X6_noises τ a ss mhd mas mbf mih mtp mtn mtk mfr mtt mvl miw mld mrw mrn mso msz mnu mhw mhh mhm mbo mrr mak man maa mip (by first | assumption | decide | (unfold vp_in; decide) | exact ok_bt (by assumption) (by first | assumption | omega) (by omega) | exact m_one (by assumption) (by assumption) | exact m_x60 (by assumption) | exact m_x30 (by assumption) | exact vp_in_iff.mpr ⟨by omega, by omega⟩ | omega)) gX6_state_X6_noises rfl rfl rfl qd_X6_noises rfl ⟨by decide, by decide⟩ ⟨by decide, by decide⟩ rfl (Nat.le_of_ble_eq_true rfl) rfl 6 0 rfl rfl (fun r5 u5 hX5 hn5 => ?_)
    obtain rfl := (Prod.mk.inj hX5).1
    exact Rt.ret (hR) rfl dX6_state_72
  rw [if_neg c6] at hR
  by_cases c8 : x1 = 5
  · rw [if_pos c8] at hR
    refine j_tabIn C dX6_state_1 (by rw [c8]; decide) (by rw [c8]; decide) (by rw [c8]; rfl) 73 rfl ?_
    refine j_aload_n C dX6_state_73 74 rfl rfl 0 rfl ?_
    refine j_cv0I (na := 0) C dX6_state_74 77 rfl (c_X6_sounding τ a ss mhd mas mbf mih mtp mtn mtk mfr mtt mvl miw mld mrw mrn mso msz mnu mhw mhh mhm mbo mrr mak man maa mip (by first | assumption | decide | (unfold vp_in; decide) | exact ok_bt (by assumption) (by first | assumption | omega) (by omega) | exact m_one (by assumption) (by assumption) | exact m_x60 (by assumption) | exact m_x30 (by assumption) | exact vp_in_iff.mpr ⟨by omega, by omega⟩ | omega)) gX6_state_X6_sounding rfl rfl rfl qd_X6_sounding rfl ⟨by decide, by decide⟩ ⟨by decide, by decide⟩ rfl (Nat.le_of_ble_eq_true rfl) rfl 6 0 rfl rfl (fun r7 u7 hX7 hn7 => ?_)
    obtain rfl := (Prod.mk.inj hX7).1
    exact Rt.ret (hR) rfl dX6_state_77
  rw [if_neg c8] at hR
  refine j_tabOut C dX6_state_1 (by have n1 := lv_neT (a := 0) c1 (by decide); have n2 := lv_neT (a := 1) c2 (by decide); have n3 := lv_neT (a := 2) c3 (by decide); have n4 := lv_neT (a := 3) c4 (by decide); have n6 := lv_neT (a := 4) c6 (by decide); have n8 := lv_neT (a := 5) c8 (by decide); omega) 78 rfl ?_
  refine j_iconst (v := (-1)) C dX6_state_78 79 rfl (by decide) ?_
  exact Rt.ret (hR) rfl dX6_state_79

-- X6_lasts
def f_X6_lasts (ss : Nat → Int32) (mas : Nat → Int32) (x1 : Int32) : Int32 × (Nat → Int32) × (Nat → Int32) := if ((f_X6_isIn ((x1 : Int32).toInt64) (0 : Int64) (60 : Int64)) = 0) then (((-1) : Int32), ss, mas) else (pr1 (f_X6_copyRow__sa ss mas) (fun mas_3 => pr1 (f_X6_goes ss x1 (0 : Int32)) (fun ss_4 => pr1 (f_X6_copyRow__as ss_4 mas_3) (fun ss_5 => ((ss_4 3), ss_5, mas_3)))))
theorem kX6_lasts_c201 : Cond.constantLong RX6 201 60 ∈ wsX6_lasts := by decide +kernel
theorem kX6_lasts_iRX6 : Cond.initialized yX6_copyRow.cls ∈ wsX6_lasts := by decide +kernel
theorem kX6_lasts_sX6_isIn : Cond.static yX6_isIn ∈ wsX6_lasts := by decide +kernel
theorem kX6_lasts_m57 : Cond.methodLink RX6 57 yX6_isIn ∈ wsX6_lasts := by decide +kernel
theorem kX6_lasts_f7 : Cond.fieldLink RX6 7 "TwoMinutesModel" "s" "[I" ∈ wsX6_lasts := by decide +kernel
theorem kX6_lasts_f16 : Cond.fieldLink RX6 16 "TwoMinutesModel" "aside" "[I" ∈ wsX6_lasts := by decide +kernel
theorem kX6_lasts_sX6_copyRow : Cond.static yX6_copyRow ∈ wsX6_lasts := by decide +kernel
theorem kX6_lasts_m138 : Cond.methodLink RX6 138 yX6_copyRow ∈ wsX6_lasts := by decide +kernel
theorem qd_X6_lasts : yX6_lasts.cls = RX6 ∧ yX6_lasts.cls ≠ "java/lang/invoke/MethodHandle" ∧ yX6_lasts.cls ≠ "java/lang/invoke/VarHandle" ∧ (parseMethodDescriptor yX6_lasts.desc).map (fun d => d.parameters.length) = some 1 := by decide +kernel
abbrev rmX6_lasts : Room := { frames := 5, cells := 0, slots := 0, locals := 113 }
set_option maxHeartbeats 4000000 in
set_option maxRecDepth 100000 in
theorem c_X6_lasts (τ : SX) (a : Nat → Nat) (ss : Nat → Int32) (mhd : Nat → Int32) (mas : Nat → Int32) (mbf : Nat → Int32) (mih : Int32) (mtp : Nat → Int32) (mtn : Int32) (mtk : Int32) (mfr : Int32) (mtt : Int32) (mvl : Int32) (miw : Int32) (mld : Nat → Int32) (mrw : Nat → Int32) (mrn : Int32) (mso : Nat → Int32) (msz : Nat → Int32) (mnu : Nat → Int32) (mhw : Nat → Int32) (mhh : Nat → Int32) (mhm : Nat → Int32) (mbo : Nat → Int32) (mrr : Int32) (mak : Int32) (man : Int32) (maa : Int32) (mip : Int32) (x1 : Int32) (hok : okS ss) (sz : Nat) : McI τ yX6_lasts wsX6_lasts rmX6_lasts .int [.ref (a 0), .int x1] (wM τ a ss mhd mas mbf mih mtp mtn mtk mfr mtt mvl miw mld mrw mrn mso msz mnu mhw mhh mhm mbo mrr mak man maa mip) (fun u : (Nat → Int32) × (Nat → Int32) => (wM τ a u.1 mhd u.2 mbf mih mtp mtn mtk mfr mtt mvl miw mld mrw mrn mso msz mnu mhw mhh mhm mbo mrr mak man maa mip)) (f_X6_lasts ss mas x1) sz := by
  refine mc_I (cc := cX6_lasts) (own := RX6) [(0, .ref (a 0)), (1, .int x1)] rfl (by decide) rfl rfl (Nat.le_of_ble_eq_true rfl) (fun κ C hR => ?_)
  have hiX6 : ∀ w ∈ wsX60, w ∈ wsX6_lasts := fun w h => List.mem_cons_of_mem _ (List.mem_append_right _ h)
  unfold f_X6_lasts at hR
  refine j_iload_n C dX6_lasts_0 1 rfl rfl 1 rfl ?_
  refine j_i2l C dX6_lasts_1 2 rfl ?_
  refine j_lconst (v := 0) C dX6_lasts_2 3 rfl (by decide) ?_
  refine j_ldc2 C dX6_lasts_3 6 rfl kX6_lasts_c201 ?_
  refine j_cs0I (na := 3) C dX6_lasts_6 9 rfl (c_X6_isIn τ  ((x1 : Int32).toInt64) (0 : Int64) (60 : Int64) ) rfl ggX6_lasts_X6_isIn rfl rfl rfl kX6_lasts_iRX6 kX6_lasts_m57 kX6_lasts_sX6_isIn qd_X6_isIn rfl ⟨by decide, by decide⟩ ⟨by decide, by decide⟩ rfl (Nat.le_of_ble_eq_true rfl) (fun r1 u1 hX1 hn1 => ?_)
  obtain rfl := (Prod.mk.inj hX1).1
  refine j_if_ne C dX6_lasts_9 14 rfl 12 rfl (fun c2 => ?_) (fun c2 => ?_)
  · rw [if_neg c2] at hR
    refine j_aload_n C dX6_lasts_14 15 rfl rfl 0 rfl ?_
    refine j_get C dX6_lasts_15 18 rfl hiX6 0 rfl rfl 0 (by decide) rfl kX6_lasts_f7 rfl ?_
    refine j_aload_n C dX6_lasts_18 19 rfl rfl 0 rfl ?_
    refine j_get C dX6_lasts_19 22 rfl hiX6 0 rfl rfl 2 (by decide) rfl kX6_lasts_f16 rfl ?_
    refine j_csWV (na := 2) C dX6_lasts_22 25 rfl (c_X6_copyRow__sa τ a ss mhd mas mbf mih mtp mtn mtk mfr mtt mvl miw mld mrw mrn mso msz mnu mhw mhh mhm mbo mrr mak man maa mip ) ggX6_lasts_X6_copyRow rfl rfl rfl kX6_lasts_iRX6 kX6_lasts_m138 kX6_lasts_sX6_copyRow qd_X6_copyRow__sa rfl ⟨by decide, by decide⟩ ⟨by decide, by decide⟩ rfl (Nat.le_of_ble_eq_true rfl) rfl (fun u3 hX3 => ?_)
    obtain ⟨mas_3, rfl⟩ : ∃ z, z = u3 := ⟨_, rfl⟩
    rw [hX3] at hR; rw [pr1_mk mas_3] at hR
    have hoka3 : okS mas_3 := by rw [← hX3]; exact ok_cp_sa (by assumption)
    refine j_aload_n C dX6_lasts_25 26 rfl rfl 0 rfl ?_
    refine j_iload_n C dX6_lasts_26 27 rfl rfl 1 rfl ?_
    refine j_iconst (v := 0) C dX6_lasts_27 28 rfl (by decide) ?_
    refine j_cv0V (na := 2) C dX6_lasts_28 31 rfl (c_X6_goes τ a ss mhd mas_3 mbf mih mtp mtn mtk mfr mtt mvl miw mld mrw mrn mso msz mnu mhw mhh mhm mbo mrr mak man maa mip x1 (0 : Int32) (by first | assumption | decide | (unfold vp_in; decide) | exact ok_bt (by assumption) (by first | assumption | omega) (by omega) | exact m_one (by assumption) (by assumption) | exact m_x60 (by assumption) | exact m_x30 (by assumption) | exact vp_in_iff.mpr ⟨by omega, by omega⟩ | omega) (by first | assumption | decide | (unfold vp_in; decide) | exact ok_bt (by assumption) (by first | assumption | omega) (by omega) | exact m_one (by assumption) (by assumption) | exact m_x60 (by assumption) | exact m_x30 (by assumption) | exact vp_in_iff.mpr ⟨by omega, by omega⟩ | omega)) gX6_lasts_X6_goes rfl rfl rfl qd_X6_goes rfl ⟨by decide, by decide⟩ ⟨by decide, by decide⟩ rfl (Nat.le_of_ble_eq_true rfl) rfl 6 0 rfl rfl (fun u4 hX4 => ?_)
    obtain ⟨ss_4, rfl⟩ : ∃ z, z = u4 := ⟨_, rfl⟩
    rw [hX4] at hR; rw [pr1_mk ss_4] at hR
    have hok4 : okS ss_4 := by rw [← hX4]; exact ok_goes (by assumption)
    refine j_aload_n C dX6_lasts_31 32 rfl rfl 0 rfl ?_
    refine j_get C dX6_lasts_32 35 rfl hiX6 0 rfl rfl 0 (by decide) rfl kX6_lasts_f7 rfl ?_
    refine j_iconst (v := 3) C dX6_lasts_35 36 rfl (by decide) ?_
    refine j_iald C dX6_lasts_36 37 rfl 1 rfl (by unfold vp_in; decide) 3 rfl ?_
    refine j_istore_n C dX6_lasts_37 38 rfl rfl (by decide) [(2, .int (ss_4 3)), (0, .ref (a 0)), (1, .int x1)] rfl ?_
    refine j_aload_n C dX6_lasts_38 39 rfl rfl 1 rfl ?_
    refine j_get C dX6_lasts_39 42 rfl hiX6 0 rfl rfl 2 (by decide) rfl kX6_lasts_f16 rfl ?_
    refine j_aload_n C dX6_lasts_42 43 rfl rfl 1 rfl ?_
    refine j_get C dX6_lasts_43 46 rfl hiX6 0 rfl rfl 0 (by decide) rfl kX6_lasts_f7 rfl ?_
    refine j_csWV (na := 2) C dX6_lasts_46 49 rfl (c_X6_copyRow__as τ a ss_4 mhd mas_3 mbf mih mtp mtn mtk mfr mtt mvl miw mld mrw mrn mso msz mnu mhw mhh mhm mbo mrr mak man maa mip ) ggX6_lasts_X6_copyRow rfl rfl rfl kX6_lasts_iRX6 kX6_lasts_m138 kX6_lasts_sX6_copyRow qd_X6_copyRow__as rfl ⟨by decide, by decide⟩ ⟨by decide, by decide⟩ rfl (Nat.le_of_ble_eq_true rfl) rfl (fun u5 hX5 => ?_)
    obtain ⟨ss_5, rfl⟩ : ∃ z, z = u5 := ⟨_, rfl⟩
    rw [hX5] at hR; rw [pr1_mk ss_5] at hR
    have hok5 : okS ss_5 := by rw [← hX5]; exact ok_cp_as (by assumption)
    refine j_iload_n C dX6_lasts_49 50 rfl rfl 0 rfl ?_
    exact Rt.ret (hR) rfl dX6_lasts_50
  · rw [if_pos c2] at hR
    refine j_iconst (v := (-1)) C dX6_lasts_12 13 rfl (by decide) ?_
    exact Rt.ret (hR) rfl dX6_lasts_13

-- X6_lengthBy
def l_X6_lengthBy_16 (x1 : Int32) (x2 : Int32) : Nat → Int32 → Int32 → (Nat → Int32) → Int32 × Int32 × (Nat → Int32)
  | 0, x3, x4, ss => (x3, x4, ss)
  | N + 1, x3, x4, ss => if (x1 ≤ x4) then (x3, x4, ss) else (pr1 (f_X6_goes ss (1 : Int32) x2) (fun ss_4 => l_X6_lengthBy_16 x1 x2 N (f_X6_greatest x3 (ss_4 3)) (x4 + 1) ss_4))
def f_X6_lengthBy (ss : Nat → Int32) (mas : Nat → Int32) (x1 : Int32) (x2 : Int32) : Int32 × (Nat → Int32) × (Nat → Int32) := pr1 (f_X6_copyRow__sa ss mas) (fun mas_1 => pr3 (l_X6_lengthBy_16 x1 x2 300 (0 : Int32) (0 : Int32) ss) (fun x3_2 x4_2 ss_2 => pr1 (f_X6_copyRow__as ss_2 mas_1) (fun ss_6 => (x3_2, ss_6, mas_1))))
theorem kX6_lengthBy_f7 : Cond.fieldLink RX6 7 "TwoMinutesModel" "s" "[I" ∈ wsX6_lengthBy := by decide +kernel
theorem kX6_lengthBy_f16 : Cond.fieldLink RX6 16 "TwoMinutesModel" "aside" "[I" ∈ wsX6_lengthBy := by decide +kernel
theorem kX6_lengthBy_iRX6 : Cond.initialized yX6_copyRow.cls ∈ wsX6_lengthBy := by decide +kernel
theorem kX6_lengthBy_sX6_copyRow : Cond.static yX6_copyRow ∈ wsX6_lengthBy := by decide +kernel
theorem kX6_lengthBy_m138 : Cond.methodLink RX6 138 yX6_copyRow ∈ wsX6_lengthBy := by decide +kernel
theorem kX6_lengthBy_sX6_greatest : Cond.static yX6_greatest ∈ wsX6_lengthBy := by decide +kernel
theorem kX6_lengthBy_m195 : Cond.methodLink RX6 195 yX6_greatest ∈ wsX6_lengthBy := by decide +kernel
theorem qd_X6_lengthBy : yX6_lengthBy.cls = RX6 ∧ yX6_lengthBy.cls ≠ "java/lang/invoke/MethodHandle" ∧ yX6_lengthBy.cls ≠ "java/lang/invoke/VarHandle" ∧ (parseMethodDescriptor yX6_lengthBy.desc).map (fun d => d.parameters.length) = some 2 := by decide +kernel
abbrev rmX6_lengthBy : Room := { frames := 5, cells := 0, slots := 0, locals := 113 }
set_option maxHeartbeats 4000000 in
set_option maxRecDepth 100000 in
theorem L_X6_lengthBy_16 {τ : SX} {κ : KX} (C : Cx τ κ cX6_lengthBy RX6 wsX6_lengthBy rmX6_lengthBy 5) (a : Nat → Nat) (mhd : Nat → Int32) (mas : Nat → Int32) (mbf : Nat → Int32) (mih : Int32) (mtp : Nat → Int32) (mtn : Int32) (mtk : Int32) (mfr : Int32) (mtt : Int32) (mvl : Int32) (miw : Int32) (mld : Nat → Int32) (mrw : Nat → Int32) (mrn : Int32) (mso : Nat → Int32) (msz : Nat → Int32) (mnu : Nat → Int32) (mhw : Nat → Int32) (mhh : Nat → Int32) (mhm : Nat → Int32) (mbo : Nat → Int32) (mrr : Int32) (mak : Int32) (man : Int32) (maa : Int32) (mip : Int32) (x1 : Int32) (x2 : Int32) (hx : x1.toInt ≤ 60) (Φ : Int32 × Int32 × (Nat → Int32) → Prop) (hE : ∀ (x3 : Int32) (x4 : Int32) (ss : Nat → Int32), Φ (x3, x4, ss) → J τ κ 0 0 (wM τ a ss mhd mas mbf mih mtp mtn mtk mfr mtt mvl miw mld mrw mrn mso msz mnu mhw mhh mhm mbo mrr mak man maa mip) [(0, .ref (a 0)), (1, .int x1), (2, .int x2), (3, .int x3), (4, .int x4)] 45 []) : ∀ (N : Nat) (x3 : Int32) (x4 : Int32) (ss : Nat → Int32), ((60 : Int) - x4.toInt).toNat < N → (0 ≤ x4.toInt) → (x4.toInt ≤ 60) → (okS ss) → Φ (l_X6_lengthBy_16 x1 x2 N x3 x4 ss) → J τ κ 0 0 (wM τ a ss mhd mas mbf mih mtp mtn mtk mfr mtt mvl miw mld mrw mrn mso msz mnu mhw mhh mhm mbo mrr mak man maa mip) [(0, .ref (a 0)), (1, .int x1), (2, .int x2), (3, .int x3), (4, .int x4)] 16 [] := by
  have hiX6 : ∀ w ∈ wsX60, w ∈ wsX6_lengthBy := fun w h => List.mem_cons_of_mem _ (List.mem_append_right _ h)
  intro N
  induction N with
  | zero => intro x3 x4 ss hm; exact absurd hm (Nat.not_lt_zero _)
  | succ N ih =>
    intro x3 x4 ss hm h0 h1 hok hR
    rw [l_X6_lengthBy_16] at hR
    refine j_iload C dX6_lengthBy_16 18 rfl 4 rfl ?_
    refine j_iload_n C dX6_lengthBy_18 19 rfl rfl 1 rfl ?_
    refine j_icmp_ge C dX6_lengthBy_19 45 rfl 22 rfl (fun c3 => ?_) (fun c3 => ?_)
    · rw [if_pos c3] at hR
      exact j_lv [0, 1, 2, 3, 4] [(0, .ref (a 0)), (1, .int x1), (2, .int x2), (3, .int x3), (4, .int x4)] rfl (hE _ _ _  hR)
    · rw [if_neg c3] at hR
      have hs := cnt_step (B := 60) h0 (hx) (by decide) c3
      refine j_aload_n C dX6_lengthBy_22 23 rfl rfl 0 rfl ?_
      refine j_iconst (v := 1) C dX6_lengthBy_23 24 rfl (by decide) ?_
      refine j_iload_n C dX6_lengthBy_24 25 rfl rfl 2 rfl ?_
      refine j_cv0V (na := 2) C dX6_lengthBy_25 28 rfl (c_X6_goes τ a ss mhd mas mbf mih mtp mtn mtk mfr mtt mvl miw mld mrw mrn mso msz mnu mhw mhh mhm mbo mrr mak man maa mip (1 : Int32) x2 (by first | assumption | decide | (unfold vp_in; decide) | exact ok_bt (by assumption) (by first | assumption | omega) (by omega) | exact m_one (by assumption) (by assumption) | exact m_x60 (by assumption) | exact m_x30 (by assumption) | exact vp_in_iff.mpr ⟨by omega, by omega⟩ | omega) (by first | assumption | decide | (unfold vp_in; decide) | exact ok_bt (by assumption) (by first | assumption | omega) (by omega) | exact m_one (by assumption) (by assumption) | exact m_x60 (by assumption) | exact m_x30 (by assumption) | exact vp_in_iff.mpr ⟨by omega, by omega⟩ | omega)) gX6_lengthBy_X6_goes rfl rfl rfl qd_X6_goes rfl ⟨by decide, by decide⟩ ⟨by decide, by decide⟩ rfl (Nat.le_of_ble_eq_true rfl) rfl 6 0 rfl rfl (fun u4 hX4 => ?_)
      obtain ⟨ss_4, rfl⟩ : ∃ z, z = u4 := ⟨_, rfl⟩
      rw [hX4] at hR; rw [pr1_mk ss_4] at hR
      have hok4 : okS ss_4 := by rw [← hX4]; exact ok_goes (by assumption)
      refine j_iload_n C dX6_lengthBy_28 29 rfl rfl 3 rfl ?_
      refine j_aload_n C dX6_lengthBy_29 30 rfl rfl 0 rfl ?_
      refine j_get C dX6_lengthBy_30 33 rfl hiX6 0 rfl rfl 0 (by decide) rfl kX6_lengthBy_f7 rfl ?_
      refine j_iconst (v := 3) C dX6_lengthBy_33 34 rfl (by decide) ?_
      refine j_iald C dX6_lengthBy_34 35 rfl 1 rfl (by unfold vp_in; decide) 3 rfl ?_
      refine j_cs0I (na := 2) C dX6_lengthBy_35 38 rfl (c_X6_greatest τ  x3 (ss_4 3) ) rfl ggX6_lengthBy_X6_greatest rfl rfl rfl kX6_lengthBy_iRX6 kX6_lengthBy_m195 kX6_lengthBy_sX6_greatest qd_X6_greatest rfl ⟨by decide, by decide⟩ ⟨by decide, by decide⟩ rfl (Nat.le_of_ble_eq_true rfl) (fun r5 u5 hX5 hn5 => ?_)
      obtain rfl := (Prod.mk.inj hX5).1
      refine j_istore_n C dX6_lengthBy_38 39 rfl rfl (by decide) [(3, .int (f_X6_greatest x3 (ss_4 3))), (0, .ref (a 0)), (1, .int x1), (2, .int x2), (4, .int x4)] rfl ?_
      refine j_iinc (v := (x4 + 1)) C dX6_lengthBy_39 42 rfl 4 rfl rfl (by decide) [(4, .int (x4 + 1)), (3, .int (f_X6_greatest x3 (ss_4 3))), (0, .ref (a 0)), (1, .int x1), (2, .int x2)] rfl ?_
      refine j_goto C dX6_lengthBy_42 16 rfl ?_
      exact j_lv [2, 3, 4, 1, 0] [(0, .ref (a 0)), (1, .int x1), (2, .int x2), (3, .int (f_X6_greatest x3 (ss_4 3))), (4, .int (x4 + 1))] rfl (ih _ _ _ (by have := hs.2.2.1; omega) hs.1 hs.2.1 (by assumption) hR)
set_option maxHeartbeats 4000000 in
set_option maxRecDepth 100000 in
theorem c_X6_lengthBy (τ : SX) (a : Nat → Nat) (ss : Nat → Int32) (mhd : Nat → Int32) (mas : Nat → Int32) (mbf : Nat → Int32) (mih : Int32) (mtp : Nat → Int32) (mtn : Int32) (mtk : Int32) (mfr : Int32) (mtt : Int32) (mvl : Int32) (miw : Int32) (mld : Nat → Int32) (mrw : Nat → Int32) (mrn : Int32) (mso : Nat → Int32) (msz : Nat → Int32) (mnu : Nat → Int32) (mhw : Nat → Int32) (mhh : Nat → Int32) (mhm : Nat → Int32) (mbo : Nat → Int32) (mrr : Int32) (mak : Int32) (man : Int32) (maa : Int32) (mip : Int32) (x1 : Int32) (x2 : Int32) (hok : okS ss) (hx : x1.toInt ≤ 60) (sz : Nat) : McI τ yX6_lengthBy wsX6_lengthBy rmX6_lengthBy .int [.ref (a 0), .int x1, .int x2] (wM τ a ss mhd mas mbf mih mtp mtn mtk mfr mtt mvl miw mld mrw mrn mso msz mnu mhw mhh mhm mbo mrr mak man maa mip) (fun u : (Nat → Int32) × (Nat → Int32) => (wM τ a u.1 mhd u.2 mbf mih mtp mtn mtk mfr mtt mvl miw mld mrw mrn mso msz mnu mhw mhh mhm mbo mrr mak man maa mip)) (f_X6_lengthBy ss mas x1 x2) sz := by
  refine mc_I (cc := cX6_lengthBy) (own := RX6) [(0, .ref (a 0)), (1, .int x1), (2, .int x2)] rfl (by decide) rfl rfl (Nat.le_of_ble_eq_true rfl) (fun κ C hR => ?_)
  have hiX6 : ∀ w ∈ wsX60, w ∈ wsX6_lengthBy := fun w h => List.mem_cons_of_mem _ (List.mem_append_right _ h)
  unfold f_X6_lengthBy at hR
  refine j_aload_n C dX6_lengthBy_0 1 rfl rfl 0 rfl ?_
  refine j_get C dX6_lengthBy_1 4 rfl hiX6 0 rfl rfl 0 (by decide) rfl kX6_lengthBy_f7 rfl ?_
  refine j_aload_n C dX6_lengthBy_4 5 rfl rfl 0 rfl ?_
  refine j_get C dX6_lengthBy_5 8 rfl hiX6 0 rfl rfl 2 (by decide) rfl kX6_lengthBy_f16 rfl ?_
  refine j_csWV (na := 2) C dX6_lengthBy_8 11 rfl (c_X6_copyRow__sa τ a ss mhd mas mbf mih mtp mtn mtk mfr mtt mvl miw mld mrw mrn mso msz mnu mhw mhh mhm mbo mrr mak man maa mip ) ggX6_lengthBy_X6_copyRow rfl rfl rfl kX6_lengthBy_iRX6 kX6_lengthBy_m138 kX6_lengthBy_sX6_copyRow qd_X6_copyRow__sa rfl ⟨by decide, by decide⟩ ⟨by decide, by decide⟩ rfl (Nat.le_of_ble_eq_true rfl) rfl (fun u1 hX1 => ?_)
  obtain ⟨mas_1, rfl⟩ : ∃ z, z = u1 := ⟨_, rfl⟩
  rw [hX1] at hR; rw [pr1_mk mas_1] at hR
  have hoka1 : okS mas_1 := by rw [← hX1]; exact ok_cp_sa (by assumption)
  refine j_iconst (v := 0) C dX6_lengthBy_11 12 rfl (by decide) ?_
  refine j_istore_n C dX6_lengthBy_12 13 rfl rfl (by decide) [(3, .int 0), (0, .ref (a 0)), (1, .int x1), (2, .int x2)] rfl ?_
  refine j_iconst (v := 0) C dX6_lengthBy_13 14 rfl (by decide) ?_
  refine j_istore C dX6_lengthBy_14 16 rfl (by decide) [(4, .int 0), (3, .int 0), (0, .ref (a 0)), (1, .int x1), (2, .int x2)] rfl ?_
  refine j_lv [2, 3, 4, 1, 0] [(0, .ref (a 0)), (1, .int x1), (2, .int x2), (3, .int 0), (4, .int 0)] rfl (L_X6_lengthBy_16 C a mhd mas_1 mbf mih mtp mtn mtk mfr mtt mvl miw mld mrw mrn mso msz mnu mhw mhh mhm mbo mrr mak man maa mip x1 x2 hx (fun (o : Int32 × Int32 × (Nat → Int32)) => Rt τ κ cX6_lengthBy .int (fun u : (Nat → Int32) × (Nat → Int32) => (wM τ a u.1 mhd u.2 mbf mih mtp mtn mtk mfr mtt mvl miw mld mrw mrn mso msz mnu mhw mhh mhm mbo mrr mak man maa mip)) (pr3 o (fun x3_2 x4_2 ss_2 => pr1 (f_X6_copyRow__as ss_2 mas_1) (fun ss_6 => (x3_2, ss_6, mas_1))))) (fun x3_2 x4_2 ss_2  hR => ?_) 300 (0 : Int32) (0 : Int32) ss (by decide) (by decide) (by decide) (by assumption) hR)
  rw [pr3_mk x3_2 x4_2 ss_2] at hR
  refine j_aload_n C dX6_lengthBy_45 46 rfl rfl 0 rfl ?_
  refine j_get C dX6_lengthBy_46 49 rfl hiX6 0 rfl rfl 2 (by decide) rfl kX6_lengthBy_f16 rfl ?_
  refine j_aload_n C dX6_lengthBy_49 50 rfl rfl 0 rfl ?_
  refine j_get C dX6_lengthBy_50 53 rfl hiX6 0 rfl rfl 0 (by decide) rfl kX6_lengthBy_f7 rfl ?_
  refine j_csWV (na := 2) C dX6_lengthBy_53 56 rfl (c_X6_copyRow__as τ a ss_2 mhd mas_1 mbf mih mtp mtn mtk mfr mtt mvl miw mld mrw mrn mso msz mnu mhw mhh mhm mbo mrr mak man maa mip ) ggX6_lengthBy_X6_copyRow rfl rfl rfl kX6_lengthBy_iRX6 kX6_lengthBy_m138 kX6_lengthBy_sX6_copyRow qd_X6_copyRow__as rfl ⟨by decide, by decide⟩ ⟨by decide, by decide⟩ rfl (Nat.le_of_ble_eq_true rfl) rfl (fun u6 hX6 => ?_)
  obtain ⟨ss_6, rfl⟩ : ∃ z, z = u6 := ⟨_, rfl⟩
  rw [hX6] at hR; rw [pr1_mk ss_6] at hR
  have hok6 : okS ss_6 := by rw [← hX6]; exact ok_cp_as (by assumption)
  refine j_iload_n C dX6_lengthBy_56 57 rfl rfl 3 rfl ?_
  exact Rt.ret (hR) rfl dX6_lengthBy_57

-- X6_length
def f_X6_length (ss : Nat → Int32) (mas : Nat → Int32) (x1 : Int32) : Int32 × (Nat → Int32) × (Nat → Int32) := if ((f_X6_isLong x1) = 0) then (((-1) : Int32), ss, mas) else (pr3 (f_X6_lengthBy ss mas x1 (0 : Int32)) (fun r3 ss_3 mas_3 => (r3, ss_3, mas_3)))
theorem kX6_length_iRX6 : Cond.initialized yX6_isLong.cls ∈ wsX6_length := by decide +kernel
theorem kX6_length_sX6_isLong : Cond.static yX6_isLong ∈ wsX6_length := by decide +kernel
theorem kX6_length_m219 : Cond.methodLink RX6 219 yX6_isLong ∈ wsX6_length := by decide +kernel
theorem qd_X6_length : yX6_length.cls = RX6 ∧ yX6_length.cls ≠ "java/lang/invoke/MethodHandle" ∧ yX6_length.cls ≠ "java/lang/invoke/VarHandle" ∧ (parseMethodDescriptor yX6_length.desc).map (fun d => d.parameters.length) = some 1 := by decide +kernel
abbrev rmX6_length : Room := { frames := 6, cells := 0, slots := 0, locals := 137 }
set_option maxHeartbeats 4000000 in
set_option maxRecDepth 100000 in
theorem c_X6_length (τ : SX) (a : Nat → Nat) (ss : Nat → Int32) (mhd : Nat → Int32) (mas : Nat → Int32) (mbf : Nat → Int32) (mih : Int32) (mtp : Nat → Int32) (mtn : Int32) (mtk : Int32) (mfr : Int32) (mtt : Int32) (mvl : Int32) (miw : Int32) (mld : Nat → Int32) (mrw : Nat → Int32) (mrn : Int32) (mso : Nat → Int32) (msz : Nat → Int32) (mnu : Nat → Int32) (mhw : Nat → Int32) (mhh : Nat → Int32) (mhm : Nat → Int32) (mbo : Nat → Int32) (mrr : Int32) (mak : Int32) (man : Int32) (maa : Int32) (mip : Int32) (x1 : Int32) (hok : okS ss) (sz : Nat) : McI τ yX6_length wsX6_length rmX6_length .int [.ref (a 0), .int x1] (wM τ a ss mhd mas mbf mih mtp mtn mtk mfr mtt mvl miw mld mrw mrn mso msz mnu mhw mhh mhm mbo mrr mak man maa mip) (fun u : (Nat → Int32) × (Nat → Int32) => (wM τ a u.1 mhd u.2 mbf mih mtp mtn mtk mfr mtt mvl miw mld mrw mrn mso msz mnu mhw mhh mhm mbo mrr mak man maa mip)) (f_X6_length ss mas x1) sz := by
  refine mc_I (cc := cX6_length) (own := RX6) [(0, .ref (a 0)), (1, .int x1)] rfl (by decide) rfl rfl (Nat.le_of_ble_eq_true rfl) (fun κ C hR => ?_)
  have hiX6 : ∀ w ∈ wsX60, w ∈ wsX6_length := fun w h => List.mem_cons_of_mem _ (List.mem_append_right _ h)
  unfold f_X6_length at hR
  refine j_iload_n C dX6_length_0 1 rfl rfl 1 rfl ?_
  refine j_cs0I (na := 1) C dX6_length_1 4 rfl (c_X6_isLong τ  x1 ) rfl ggX6_length_X6_isLong rfl rfl rfl kX6_length_iRX6 kX6_length_m219 kX6_length_sX6_isLong qd_X6_isLong rfl ⟨by decide, by decide⟩ ⟨by decide, by decide⟩ rfl (Nat.le_of_ble_eq_true rfl) (fun r1 u1 hX1 hn1 => ?_)
  obtain rfl := (Prod.mk.inj hX1).1
  refine j_if_eq C dX6_length_4 16 rfl 7 rfl (fun c2 => ?_) (fun c2 => ?_)
  · rw [if_pos c2] at hR
    refine j_iconst (v := (-1)) C dX6_length_16 17 rfl (by decide) ?_
    exact Rt.ret (hR) rfl dX6_length_17
  · rw [if_neg c2] at hR
    refine j_aload_n C dX6_length_7 8 rfl rfl 0 rfl ?_
    refine j_iload_n C dX6_length_8 9 rfl rfl 1 rfl ?_
    refine j_iconst (v := 0) C dX6_length_9 10 rfl (by decide) ?_
    refine j_cv0I (na := 2) C dX6_length_10 13 rfl (c_X6_lengthBy τ a ss mhd mas mbf mih mtp mtn mtk mfr mtt mvl miw mld mrw mrn mso msz mnu mhw mhh mhm mbo mrr mak man maa mip x1 (0 : Int32) (by first | assumption | decide | (unfold vp_in; decide) | exact ok_bt (by assumption) (by first | assumption | omega) (by omega) | exact m_one (by assumption) (by assumption) | exact m_x60 (by assumption) | exact m_x30 (by assumption) | exact vp_in_iff.mpr ⟨by omega, by omega⟩ | omega) (by first | assumption | decide | (unfold vp_in; decide) | exact ok_bt (by assumption) (by first | assumption | omega) (by omega) | exact m_one (by assumption) (by assumption) | exact m_x60 (by assumption) | exact m_x30 (by assumption) | exact vp_in_iff.mpr ⟨by omega, by omega⟩ | omega)) gX6_length_X6_lengthBy rfl rfl rfl qd_X6_lengthBy rfl ⟨by decide, by decide⟩ ⟨by decide, by decide⟩ rfl (Nat.le_of_ble_eq_true rfl) rfl 6 0 rfl rfl (fun r3 u3 hX3 hn3 => ?_)
    obtain ⟨ss_3, mas_3⟩ := u3
    rw [hX3] at hR; rw [pr3_mk r3 ss_3 mas_3] at hR
    refine j_goto C dX6_length_13 17 rfl ?_
    exact Rt.ret (hR) rfl dX6_length_17

