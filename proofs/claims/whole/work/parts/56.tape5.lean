-- X3_readInto
def l_X3_readInto_16 (bs : Nat → Int32) (tz : Int32) : Nat → Int32 → Int32 → Int32 → Int32 → Int32 → (Nat → Int32) → (Nat → Int32) → (Nat → Int32) → (Nat → Int32) → (Nat → Int32) → (Nat → Int32) → Int32 → Int32 × Int32 × Int32 × Int32 × Int32 × (Nat → Int32) × (Nat → Int32) × (Nat → Int32) × (Nat → Int32) × (Nat → Int32) × (Nat → Int32) × Int32
  | 0, x2, so, fr, tt, ft, lw, kd, bt, ph, cn, no, ct => (x2, so, fr, tt, ft, lw, kd, bt, ph, cn, no, ct)
  | N + 1, x2, so, fr, tt, ft, lw, kd, bt, ph, cn, no, ct => if (200 ≤ x2) then (x2, so, fr, tt, ft, lw, kd, bt, ph, cn, no, ct) else (if (so = 0) then (x2, so, fr, tt, ft, lw, kd, bt, ph, cn, no, ct) else (if (ft = (-1)) then (pr11 (f_X3_readStatement bs tz so fr tt ft lw kd bt ph cn no ct) (fun so_6 fr_6 tt_6 ft_6 lw_6 kd_6 bt_6 ph_6 cn_6 no_6 ct_6 => l_X3_readInto_16 bs tz N (x2 + 1) so_6 fr_6 tt_6 ft_6 lw_6 kd_6 bt_6 ph_6 cn_6 no_6 ct_6)) else (x2, so, fr, tt, ft, lw, kd, bt, ph, cn, no, ct)))
def f_X3_readInto (bs : Nat → Int32) (tz : Int32) (lw : Nat → Int32) (kd : Nat → Int32) (bt : Nat → Int32) (ph : Nat → Int32) (cn : Nat → Int32) (no : Nat → Int32) (ct : Int32) : Int32 × Int32 × Int32 × Int32 × Int32 × (Nat → Int32) × (Nat → Int32) × (Nat → Int32) × (Nat → Int32) × (Nat → Int32) × (Nat → Int32) × Int32 := pr3 (f_X3_readSign bs tz (0 : Int32)) (fun so_1 fr_1 tt_1 => pr12 (l_X3_readInto_16 bs tz 300 (0 : Int32) so_1 fr_1 tt_1 ((-1) : Int32) lw kd bt ph cn no ct) (fun x2_2 so_2 fr_2 tt_2 ft_2 lw_2 kd_2 bt_2 ph_2 cn_2 no_2 ct_2 => (ft_2, so_2, fr_2, tt_2, ft_2, lw_2, kd_2, bt_2, ph_2, cn_2, no_2, ct_2)))
theorem kX3_readInto_f19 : Cond.fieldLink RX3 19 "TwoMinutes$Tape" "fault" "I" ∈ wsX3_readInto := by decide +kernel
theorem kX3_readInto_f22 : Cond.fieldLink RX3 22 "TwoMinutes$Tape" "to" "I" ∈ wsX3_readInto := by decide +kernel
theorem kX3_readInto_f28 : Cond.fieldLink RX3 28 "TwoMinutes$Tape" "sort" "I" ∈ wsX3_readInto := by decide +kernel
theorem qd_X3_readInto : yX3_readInto.cls = RX3 ∧ yX3_readInto.cls ≠ "java/lang/invoke/MethodHandle" ∧ yX3_readInto.cls ≠ "java/lang/invoke/VarHandle" ∧ (parseMethodDescriptor yX3_readInto.desc).map (fun d => d.parameters.length) = some 1 := by decide +kernel
abbrev rmX3_readInto : Room := { frames := 8, cells := 0, slots := 0, locals := 177 }
set_option maxHeartbeats 4000000 in
set_option maxRecDepth 100000 in
theorem L_X3_readInto_16 {τ : SX} {κ : KX} (C : Cx τ κ cX3_readInto RX3 wsX3_readInto rmX3_readInto 3) (a b : Nat → Nat) (bs : Nat → Int32) (tz : Int32) (sc : Int32) (rn : Int32) (lg : Int32) (dn : Int32) (zz : Int32) (hn : TN tz) (Φ : Int32 × Int32 × Int32 × Int32 × Int32 × (Nat → Int32) × (Nat → Int32) × (Nat → Int32) × (Nat → Int32) × (Nat → Int32) × (Nat → Int32) × Int32 → Prop) (hE : ∀ (x2 : Int32) (so : Int32) (fr : Int32) (tt : Int32) (ft : Int32) (lw : Nat → Int32) (kd : Nat → Int32) (bt : Nat → Int32) (ph : Nat → Int32) (cn : Nat → Int32) (no : Nat → Int32) (ct : Int32), Φ (x2, so, fr, tt, ft, lw, kd, bt, ph, cn, no, ct) → J τ κ 0 0 ((wP τ a bs tz so fr tt ft) ++ (wT τ b lw kd bt ph cn no ct sc rn lg dn zz)) [(0, .ref (a 0)), (1, .ref (b 0)), (2, .int x2)] 49 []) : ∀ (N : Nat) (x2 : Int32) (so : Int32) (fr : Int32) (tt : Int32) (ft : Int32) (lw : Nat → Int32) (kd : Nat → Int32) (bt : Nat → Int32) (ph : Nat → Int32) (cn : Nat → Int32) (no : Nat → Int32) (ct : Int32), ((200 : Int) - x2.toInt).toNat < N → (0 ≤ x2.toInt) → (x2.toInt ≤ 200) → (TN fr) → (TN tt) → (0 ≤ ct.toInt) → (ct.toInt ≤ 8) → Φ (l_X3_readInto_16 bs tz N x2 so fr tt ft lw kd bt ph cn no ct) → J τ κ 0 0 ((wP τ a bs tz so fr tt ft) ++ (wT τ b lw kd bt ph cn no ct sc rn lg dn zz)) [(0, .ref (a 0)), (1, .ref (b 0)), (2, .int x2)] 16 [] := by
  have hiX4 : ∀ w ∈ wsX40, w ∈ wsX3_readInto := fun w h => List.mem_cons_of_mem _ (List.mem_append_right _ h)
  have hiX3 : ∀ w ∈ wsX30, w ∈ wsX3_readInto := fun w h => List.mem_cons_of_mem _ (List.mem_append_left _ (List.mem_append_right _ h))
  intro N
  induction N with
  | zero => intro x2 so fr tt ft lw kd bt ph cn no ct hm; exact absurd hm (Nat.not_lt_zero _)
  | succ N ih =>
    intro x2 so fr tt ft lw kd bt ph cn no ct hm h0 h1 hf ht hc0 hc8 hR
    rw [l_X3_readInto_16] at hR
    refine j_iload_n C dX3_readInto_16 17 rfl rfl 2 rfl ?_
    refine j_sipush (v := 200) C dX3_readInto_17 20 rfl (by decide) ?_
    refine j_icmp_ge C dX3_readInto_20 49 rfl 23 rfl (fun c3 => ?_) (fun c3 => ?_)
    · rw [if_pos c3] at hR
      exact j_lv [0, 1, 2] [(0, .ref (a 0)), (1, .ref (b 0)), (2, .int x2)] rfl (hE _ _ _ _ _ _ _ _ _ _ _ _  hR)
    · rw [if_neg c3] at hR
      have hs := cnt_step (B := 200) h0 (by decide) (by decide) c3
      refine j_aload_n C dX3_readInto_23 24 rfl rfl 0 rfl ?_
      refine j_get C dX3_readInto_24 27 rfl hiX3 0 rfl rfl 2 (by decide) rfl kX3_readInto_f28 rfl ?_
      refine j_if_eq C dX3_readInto_27 49 rfl 30 rfl (fun c4 => ?_) (fun c4 => ?_)
      · rw [if_pos c4] at hR
        exact j_lv [0, 1, 2] [(0, .ref (a 0)), (1, .ref (b 0)), (2, .int x2)] rfl (hE _ _ _ _ _ _ _ _ _ _ _ _  hR)
      · rw [if_neg c4] at hR
        refine j_aload_n C dX3_readInto_30 31 rfl rfl 0 rfl ?_
        refine j_get C dX3_readInto_31 34 rfl hiX3 0 rfl rfl 5 (by decide) rfl kX3_readInto_f19 rfl ?_
        refine j_iconst (v := (-1)) C dX3_readInto_34 35 rfl (by decide) ?_
        refine j_icmp_ne C dX3_readInto_35 49 rfl 38 rfl (fun c5 => ?_) (fun c5 => ?_)
        · rw [if_neg c5] at hR
          exact j_lv [0, 1, 2] [(0, .ref (a 0)), (1, .ref (b 0)), (2, .int x2)] rfl (hE _ _ _ _ _ _ _ _ _ _ _ _  hR)
        · rw [if_pos c5] at hR
          refine j_aload_n C dX3_readInto_38 39 rfl rfl 0 rfl ?_
          refine j_aload_n C dX3_readInto_39 40 rfl rfl 1 rfl ?_
          refine j_cv0V (na := 1) C dX3_readInto_40 43 rfl (c_X3_readStatement τ a b bs tz so fr tt ft lw kd bt ph cn no ct sc rn lg dn zz (by first | assumption | exact TN0) (by first | assumption | exact TN0) (by first | assumption | exact TN0) (by first | assumption | exact TN0) (by first | assumption | exact TN0)) gX3_readInto_X3_readStatement rfl rfl rfl qd_X3_readStatement rfl ⟨by decide, by decide⟩ ⟨by decide, by decide⟩ rfl (Nat.le_of_ble_eq_true rfl) rfl 3 0 rfl rfl (fun u6 hX6 => ?_)
          obtain ⟨so_6, fr_6, tt_6, ft_6, lw_6, kd_6, bt_6, ph_6, cn_6, no_6, ct_6⟩ := u6
          rw [hX6] at hR; rw [pr11_mk so_6 fr_6 tt_6 ft_6 lw_6 kd_6 bt_6 ph_6 cn_6 no_6 ct_6] at hR
          have hq := st_TN hX6 hn hf ht hc0 hc8
          refine j_iinc (v := (x2 + 1)) C dX3_readInto_43 46 rfl 2 rfl rfl (by decide) [(2, .int (x2 + 1)), (0, .ref (a 0)), (1, .ref (b 0))] rfl ?_
          refine j_goto C dX3_readInto_46 16 rfl ?_
          exact j_lv [1, 2, 0] [(0, .ref (a 0)), (1, .ref (b 0)), (2, .int (x2 + 1))] rfl (ih _ _ _ _ _ _ _ _ _ _ _ _ (by have := hs.2.2.1; omega) hs.1 hs.2.1 hq.1 hq.2.1 hq.2.2.1 hq.2.2.2 hR)
set_option maxHeartbeats 4000000 in
set_option maxRecDepth 100000 in
theorem c_X3_readInto (τ : SX) (a b : Nat → Nat) (bs : Nat → Int32) (tz : Int32) (so : Int32) (fr : Int32) (tt : Int32) (ft : Int32) (lw : Nat → Int32) (kd : Nat → Int32) (bt : Nat → Int32) (ph : Nat → Int32) (cn : Nat → Int32) (no : Nat → Int32) (ct : Int32) (sc : Int32) (rn : Int32) (lg : Int32) (dn : Int32) (zz : Int32) (hn : TN tz) (hc0 : 0 ≤ ct.toInt) (hc8 : ct.toInt ≤ 8) (sz : Nat) : McI τ yX3_readInto wsX3_readInto rmX3_readInto .int [.ref (a 0), .ref (b 0)] ((wP τ a bs tz so fr tt ft) ++ (wT τ b lw kd bt ph cn no ct sc rn lg dn zz)) (fun u : Int32 × Int32 × Int32 × Int32 × (Nat → Int32) × (Nat → Int32) × (Nat → Int32) × (Nat → Int32) × (Nat → Int32) × (Nat → Int32) × Int32 => ((wP τ a bs tz u.1 u.2.1 u.2.2.1 u.2.2.2.1) ++ (wT τ b u.2.2.2.2.1 u.2.2.2.2.2.1 u.2.2.2.2.2.2.1 u.2.2.2.2.2.2.2.1 u.2.2.2.2.2.2.2.2.1 u.2.2.2.2.2.2.2.2.2.1 u.2.2.2.2.2.2.2.2.2.2 sc rn lg dn zz))) (f_X3_readInto bs tz lw kd bt ph cn no ct) sz := by
  refine mc_I (cc := cX3_readInto) (own := RX3) [(0, .ref (a 0)), (1, .ref (b 0))] rfl (by decide) rfl rfl (Nat.le_of_ble_eq_true rfl) (fun κ C hR => ?_)
  have hiX4 : ∀ w ∈ wsX40, w ∈ wsX3_readInto := fun w h => List.mem_cons_of_mem _ (List.mem_append_right _ h)
  have hiX3 : ∀ w ∈ wsX30, w ∈ wsX3_readInto := fun w h => List.mem_cons_of_mem _ (List.mem_append_left _ (List.mem_append_right _ h))
  unfold f_X3_readInto at hR
  refine j_aload_n C dX3_readInto_0 1 rfl rfl 0 rfl ?_
  refine j_iconst (v := (-1)) C dX3_readInto_1 2 rfl (by decide) ?_
  refine j_put C dX3_readInto_2 5 rfl hiX3 tyX3_ok nmX3 0 rfl rfl 5 (by decide) rfl kX3_readInto_f19 rfl rfl rfl (Nat.le_of_ble_eq_true rfl) ((wP τ a bs tz so fr tt (-1)) ++ (wT τ b lw kd bt ph cn no ct sc rn lg dn zz)) rfl ?_
  refine j_aload_n C dX3_readInto_5 6 rfl rfl 0 rfl ?_
  refine j_iconst (v := 0) C dX3_readInto_6 7 rfl (by decide) ?_
  refine j_put C dX3_readInto_7 10 rfl hiX3 tyX3_ok nmX3 0 rfl rfl 4 (by decide) rfl kX3_readInto_f22 rfl rfl rfl (Nat.le_of_ble_eq_true rfl) ((wP τ a bs tz so fr 0 (-1)) ++ (wT τ b lw kd bt ph cn no ct sc rn lg dn zz)) rfl ?_
  refine j_aload_n C dX3_readInto_10 11 rfl rfl 0 rfl ?_
  refine j_cvV (na := 0) C dX3_readInto_11 14 rfl (c_X3_readSign τ a bs tz so fr 0 (-1) (by first | assumption | exact TN0) (by first | assumption | exact TN0)) gX3_readInto_X3_readSign rfl rfl rfl qd_X3_readSign rfl ⟨by decide, by decide⟩ ⟨by decide, by decide⟩ rfl (Nat.le_of_ble_eq_true rfl) [0, 1] [2, 3, 4, 5, 6, 7, 8] [7, 8, 0, 1, 2, 3, 4, 5, 6] ((wT τ b lw kd bt ph cn no ct sc rn lg dn zz)) rfl (by decide) rfl (by decide) (by decide) 3 0 rfl rfl (fun u => ((wP τ a bs tz u.1 u.2.1 u.2.2 (-1)) ++ (wT τ b lw kd bt ph cn no ct sc rn lg dn zz))) (fun _ => rfl) (by decide) (fun u1 hX1 => ?_)
  obtain ⟨so_1, fr_1, tt_1⟩ := u1
  rw [hX1] at hR; rw [pr3_mk so_1 fr_1 tt_1] at hR
  obtain ⟨hf1, ht1⟩ := rs_TN hX1 (by first | assumption | exact TN0) (by first | assumption | exact TN0)
  refine j_iconst (v := 0) C dX3_readInto_14 15 rfl (by decide) ?_
  refine j_istore_n C dX3_readInto_15 16 rfl rfl (by decide) [(2, .int 0), (0, .ref (a 0)), (1, .ref (b 0))] rfl ?_
  refine j_lv [1, 2, 0] [(0, .ref (a 0)), (1, .ref (b 0)), (2, .int 0)] rfl (L_X3_readInto_16 C a b bs tz sc rn lg dn zz  hn (fun (o : Int32 × Int32 × Int32 × Int32 × Int32 × (Nat → Int32) × (Nat → Int32) × (Nat → Int32) × (Nat → Int32) × (Nat → Int32) × (Nat → Int32) × Int32) => Rt τ κ cX3_readInto .int (fun u : Int32 × Int32 × Int32 × Int32 × (Nat → Int32) × (Nat → Int32) × (Nat → Int32) × (Nat → Int32) × (Nat → Int32) × (Nat → Int32) × Int32 => ((wP τ a bs tz u.1 u.2.1 u.2.2.1 u.2.2.2.1) ++ (wT τ b u.2.2.2.2.1 u.2.2.2.2.2.1 u.2.2.2.2.2.2.1 u.2.2.2.2.2.2.2.1 u.2.2.2.2.2.2.2.2.1 u.2.2.2.2.2.2.2.2.2.1 u.2.2.2.2.2.2.2.2.2.2 sc rn lg dn zz))) (pr12 o (fun x2_2 so_2 fr_2 tt_2 ft_2 lw_2 kd_2 bt_2 ph_2 cn_2 no_2 ct_2 => (ft_2, so_2, fr_2, tt_2, ft_2, lw_2, kd_2, bt_2, ph_2, cn_2, no_2, ct_2)))) (fun x2_2 so_2 fr_2 tt_2 ft_2 lw_2 kd_2 bt_2 ph_2 cn_2 no_2 ct_2  hR => ?_) 300 (0 : Int32) so_1 fr_1 tt_1 ((-1) : Int32) lw kd bt ph cn no ct (by decide) (by decide) (by decide) (by assumption) (by assumption) hc0 hc8 hR)
  rw [pr12_mk x2_2 so_2 fr_2 tt_2 ft_2 lw_2 kd_2 bt_2 ph_2 cn_2 no_2 ct_2] at hR
  refine j_aload_n C dX3_readInto_49 50 rfl rfl 0 rfl ?_
  refine j_get C dX3_readInto_50 53 rfl hiX3 0 rfl rfl 5 (by decide) rfl kX3_readInto_f19 rfl ?_
  exact Rt.ret (hR) rfl dX3_readInto_53

-- X5_town main tried now tape
def f_X5_town (rc : Int32) (nlw : Nat → Int32) (nkd : Nat → Int32) (nbt : Nat → Int32) (nph : Nat → Int32) (ncn : Nat → Int32) (nno : Nat → Int32) (nct : Int32) (nsc : Int32) (nrn : Int32) (nlg : Int32) (ndn : Int32) (nzz : Int32) (tlw : Nat → Int32) (tkd : Nat → Int32) (tbt : Nat → Int32) (tph : Nat → Int32) (tcn : Nat → Int32) (tno : Nat → Int32) (bs : Nat → Int32) (tz : Int32) : Int32 × Int32 × (Nat → Int32) × (Nat → Int32) × (Nat → Int32) × (Nat → Int32) × (Nat → Int32) × (Nat → Int32) × Int32 × Int32 × Int32 × Int32 × Int32 × (Nat → Int32) × (Nat → Int32) × (Nat → Int32) × (Nat → Int32) × (Nat → Int32) × (Nat → Int32) × Int32 × Int32 × Int32 × Int32 × Int32 × Int32 × Int32 × Int32 × Int32 × Int32 × Int32 := pr7 (f_X4_clear (va_cpy nlw tlw 0 0 4) (va_cpy nno tno 0 0 8)) (fun tlw_2 tno_2 tct_2 tsc_2 trn_2 tlg_2 tdn_2 => pr12 (f_X3_readInto bs tz tlw_2 (va_cpy nkd tkd 0 0 8) (va_cpy nbt tbt 0 0 8) (va_cpy nph tph 0 0 8) (va_cpy ncn tcn 0 0 8) tno_2 tct_2) (fun r3 so_3 fr_3 tt_3 ft_3 tlw_3 tkd_3 tbt_3 tph_3 tcn_3 tno_3 tct_3 => if (r3 < 0) then (tct_3, (0 : Int32), (va_cpy tlw_3 nlw 0 0 4), (va_cpy tkd_3 nkd 0 0 8), (va_cpy tbt_3 nbt 0 0 8), (va_cpy tph_3 nph 0 0 8), (va_cpy tcn_3 ncn 0 0 8), (va_cpy tno_3 nno 0 0 8), tct_3, tsc_2, trn_2, tlg_2, tdn_2, tlw_3, tkd_3, tbt_3, tph_3, tcn_3, tno_3, tct_3, tsc_2, trn_2, tlg_2, tdn_2, nzz, (0 : Int32), so_3, fr_3, tt_3, ft_3) else ((((-100) : Int32) - r3), rc, nlw, nkd, nbt, nph, ncn, nno, nct, nsc, nrn, nlg, ndn, tlw_3, tkd_3, tbt_3, tph_3, tcn_3, tno_3, tct_3, tsc_2, trn_2, tlg_2, tdn_2, nzz, (0 : Int32), so_3, fr_3, tt_3, ft_3)))
theorem kX5_town_f16 : Cond.fieldLink RX5 16 "TwoMinutes" "tried" "LTwoMinutes$Town;" ∈ wsX5_town := by decide +kernel
theorem kX5_town_f10 : Cond.fieldLink RX5 10 "TwoMinutes" "now" "LTwoMinutes$Town;" ∈ wsX5_town := by decide +kernel
theorem kX5_town_f25 : Cond.fieldLink RX5 25 "TwoMinutes" "tape" "LTwoMinutes$Tape;" ∈ wsX5_town := by decide +kernel
theorem kX5_town_f54 : Cond.fieldLink RX5 54 "TwoMinutes$Tape" "size" "I" ∈ wsX5_town := by decide +kernel
theorem kX5_town_f73 : Cond.fieldLink RX5 73 "TwoMinutes" "rowCount" "I" ∈ wsX5_town := by decide +kernel
theorem kX5_town_f76 : Cond.fieldLink RX5 76 "TwoMinutes$Town" "count" "I" ∈ wsX5_town := by decide +kernel
theorem qd_X5_town : yX5_town.cls = RX5 ∧ yX5_town.cls ≠ "java/lang/invoke/MethodHandle" ∧ yX5_town.cls ≠ "java/lang/invoke/VarHandle" ∧ (parseMethodDescriptor yX5_town.desc).map (fun d => d.parameters.length) = some 0 := by decide +kernel
abbrev rmX5_town : Room := { frames := 9, cells := 0, slots := 0, locals := 199 }
set_option maxHeartbeats 4000000 in
set_option maxRecDepth 100000 in
theorem c_X5_town (τ : SX) (a : Nat → Nat) (rws : Nat → Int32) (isv : Int32) (rc : Int32) (nlw : Nat → Int32) (nkd : Nat → Int32) (nbt : Nat → Int32) (nph : Nat → Int32) (ncn : Nat → Int32) (nno : Nat → Int32) (nct : Int32) (nsc : Int32) (nrn : Int32) (nlg : Int32) (ndn : Int32) (nzz : Int32) (tlw : Nat → Int32) (tkd : Nat → Int32) (tbt : Nat → Int32) (tph : Nat → Int32) (tcn : Nat → Int32) (tno : Nat → Int32) (tct : Int32) (tsc : Int32) (trn : Int32) (tlg : Int32) (tdn : Int32) (tzz : Int32) (bs : Nat → Int32) (tz : Int32) (so : Int32) (fr : Int32) (tt : Int32) (ft : Int32) (hrc0 : 0 ≤ rc.toInt) (hrc : rc.toInt ≤ 10) (hn0 : 0 ≤ nct.toInt) (hn : nct.toInt ≤ 8) (htz0 : 0 ≤ tz.toInt) (htz : tz.toInt ≤ 200) (sz : Nat) : McI τ yX5_town wsX5_town rmX5_town .int [.ref (a 0)] ((wX τ a rws isv rc) ++ (wT τ (fun j => a (10 + j)) nlw nkd nbt nph ncn nno nct nsc nrn nlg ndn nzz) ++ (wT τ (fun j => a (20 + j)) tlw tkd tbt tph tcn tno tct tsc trn tlg tdn tzz) ++ (wP τ (fun j => a (40 + j)) bs tz so fr tt ft)) (fun u : Int32 × (Nat → Int32) × (Nat → Int32) × (Nat → Int32) × (Nat → Int32) × (Nat → Int32) × (Nat → Int32) × Int32 × Int32 × Int32 × Int32 × Int32 × (Nat → Int32) × (Nat → Int32) × (Nat → Int32) × (Nat → Int32) × (Nat → Int32) × (Nat → Int32) × Int32 × Int32 × Int32 × Int32 × Int32 × Int32 × Int32 × Int32 × Int32 × Int32 × Int32 => ((wX τ a rws isv u.1) ++ (wT τ (fun j => a (10 + j)) u.2.1 u.2.2.1 u.2.2.2.1 u.2.2.2.2.1 u.2.2.2.2.2.1 u.2.2.2.2.2.2.1 u.2.2.2.2.2.2.2.1 u.2.2.2.2.2.2.2.2.1 u.2.2.2.2.2.2.2.2.2.1 u.2.2.2.2.2.2.2.2.2.2.1 u.2.2.2.2.2.2.2.2.2.2.2.1 nzz) ++ (wT τ (fun j => a (20 + j)) u.2.2.2.2.2.2.2.2.2.2.2.2.1 u.2.2.2.2.2.2.2.2.2.2.2.2.2.1 u.2.2.2.2.2.2.2.2.2.2.2.2.2.2.1 u.2.2.2.2.2.2.2.2.2.2.2.2.2.2.2.1 u.2.2.2.2.2.2.2.2.2.2.2.2.2.2.2.2.1 u.2.2.2.2.2.2.2.2.2.2.2.2.2.2.2.2.2.1 u.2.2.2.2.2.2.2.2.2.2.2.2.2.2.2.2.2.2.1 u.2.2.2.2.2.2.2.2.2.2.2.2.2.2.2.2.2.2.2.1 u.2.2.2.2.2.2.2.2.2.2.2.2.2.2.2.2.2.2.2.2.1 u.2.2.2.2.2.2.2.2.2.2.2.2.2.2.2.2.2.2.2.2.2.1 u.2.2.2.2.2.2.2.2.2.2.2.2.2.2.2.2.2.2.2.2.2.2.1 u.2.2.2.2.2.2.2.2.2.2.2.2.2.2.2.2.2.2.2.2.2.2.2.1) ++ (wP τ (fun j => a (40 + j)) bs u.2.2.2.2.2.2.2.2.2.2.2.2.2.2.2.2.2.2.2.2.2.2.2.2.1 u.2.2.2.2.2.2.2.2.2.2.2.2.2.2.2.2.2.2.2.2.2.2.2.2.2.1 u.2.2.2.2.2.2.2.2.2.2.2.2.2.2.2.2.2.2.2.2.2.2.2.2.2.2.1 u.2.2.2.2.2.2.2.2.2.2.2.2.2.2.2.2.2.2.2.2.2.2.2.2.2.2.2.1 u.2.2.2.2.2.2.2.2.2.2.2.2.2.2.2.2.2.2.2.2.2.2.2.2.2.2.2.2))) (f_X5_town rc nlw nkd nbt nph ncn nno nct nsc nrn nlg ndn nzz tlw tkd tbt tph tcn tno bs tz) sz := by
  refine mc_I (cc := cX5_town) (own := RX5) [(0, .ref (a 0))] rfl (by decide) rfl rfl (Nat.le_of_ble_eq_true rfl) (fun κ C hR => ?_)
  have hiX4 : ∀ w ∈ wsX40, w ∈ wsX5_town := fun w h => List.mem_cons_of_mem _ (List.mem_append_right _ h)
  have hiX3 : ∀ w ∈ wsX30, w ∈ wsX5_town := fun w h => List.mem_cons_of_mem _ (List.mem_append_left _ (List.mem_append_right _ h))
  have hiX5 : ∀ w ∈ wsX50, w ∈ wsX5_town := fun w h => List.mem_cons_of_mem _ (List.mem_append_left _ (List.mem_append_left _ (List.mem_append_right _ h)))
  unfold f_X5_town at hR
  refine j_aload_n C dX5_town_0 1 rfl rfl 0 rfl ?_
  refine j_get C dX5_town_1 4 rfl hiX5 0 rfl rfl 1 (by decide) rfl kX5_town_f16 rfl ?_
  refine j_aload_n C dX5_town_4 5 rfl rfl 0 rfl ?_
  refine j_get C dX5_town_5 8 rfl hiX5 0 rfl rfl 0 (by decide) rfl kX5_town_f10 rfl ?_
  refine j_cvV (na := 1) C dX5_town_8 11 rfl (c_X4_copyFrom τ (fun j => a (20 + j)) (fun j => a (10 + j)) tlw tkd tbt tph tcn tno tct tsc trn tlg tdn tzz nlw nkd nbt nph ncn nno nct nsc nrn nlg ndn nzz ) gX5_town_X4_copyFrom rfl rfl rfl qd_X4_copyFrom rfl ⟨by decide, by decide⟩ ⟨by decide, by decide⟩ rfl (Nat.le_of_ble_eq_true rfl) [11, 12, 13, 14, 15, 16, 17, 4, 5, 6, 7, 8, 9, 10] [0, 1, 2, 3, 18, 19] [0, 1, 2, 3, 13, 14, 15, 16, 17, 18, 19, 6, 7, 8, 9, 10, 11, 12, 4, 5] ((wX τ a rws isv rc) ++ (wP τ (fun j => a (40 + j)) bs tz so fr tt ft)) rfl (by decide) rfl (by decide) (by decide) 4 0 rfl rfl (fun u => ((wX τ a rws isv rc) ++ (wT τ (fun j => a (10 + j)) nlw nkd nbt nph ncn nno nct nsc nrn nlg ndn nzz) ++ (wT τ (fun j => a (20 + j)) u.1 u.2.1 u.2.2.1 u.2.2.2.1 u.2.2.2.2.1 u.2.2.2.2.2.1 u.2.2.2.2.2.2.1 u.2.2.2.2.2.2.2.1 u.2.2.2.2.2.2.2.2.1 u.2.2.2.2.2.2.2.2.2.1 u.2.2.2.2.2.2.2.2.2.2.1 u.2.2.2.2.2.2.2.2.2.2.2) ++ (wP τ (fun j => a (40 + j)) bs tz so fr tt ft))) (fun _ => rfl) (by decide) (fun u1 hX1 => ?_)
  obtain ⟨tlw_1, tkd_1, tbt_1, tph_1, tcn_1, tno_1, tct_1, tsc_1, trn_1, tlg_1, tdn_1, tzz_1⟩ := u1
  simp only [f_X4_copyFrom, Prod.mk.injEq] at hX1
  obtain ⟨rfl, rfl, rfl, rfl, rfl, rfl, rfl, rfl, rfl, rfl, rfl, rfl⟩ := hX1
  refine j_aload_n C dX5_town_11 12 rfl rfl 0 rfl ?_
  refine j_get C dX5_town_12 15 rfl hiX5 0 rfl rfl 1 (by decide) rfl kX5_town_f16 rfl ?_
  refine j_cvV (na := 0) C dX5_town_15 18 rfl (c_X4_clear τ (fun j => a (20 + j)) (va_cpy nlw tlw 0 0 4) (va_cpy nkd tkd 0 0 8) (va_cpy nbt tbt 0 0 8) (va_cpy nph tph 0 0 8) (va_cpy ncn tcn 0 0 8) (va_cpy nno tno 0 0 8) nct nsc nrn nlg ndn nzz ) gX5_town_X4_clear rfl rfl rfl qd_X4_clear rfl ⟨by decide, by decide⟩ ⟨by decide, by decide⟩ rfl (Nat.le_of_ble_eq_true rfl) [11, 12, 13, 14, 15, 16, 17] [0, 1, 2, 3, 4, 5, 6, 7, 8, 9, 10, 18, 19] [0, 1, 2, 3, 4, 5, 6, 7, 8, 9, 10, 13, 14, 15, 16, 17, 18, 19, 11, 12] ((wX τ a rws isv rc) ++ (wT τ (fun j => a (10 + j)) nlw nkd nbt nph ncn nno nct nsc nrn nlg ndn nzz) ++ (wP τ (fun j => a (40 + j)) bs tz so fr tt ft)) rfl (by decide) rfl (by decide) (by decide) 4 0 rfl rfl (fun u => ((wX τ a rws isv rc) ++ (wT τ (fun j => a (10 + j)) nlw nkd nbt nph ncn nno nct nsc nrn nlg ndn nzz) ++ (wT τ (fun j => a (20 + j)) u.1 (va_cpy nkd tkd 0 0 8) (va_cpy nbt tbt 0 0 8) (va_cpy nph tph 0 0 8) (va_cpy ncn tcn 0 0 8) u.2.1 u.2.2.1 u.2.2.2.1 u.2.2.2.2.1 u.2.2.2.2.2.1 u.2.2.2.2.2.2 nzz) ++ (wP τ (fun j => a (40 + j)) bs tz so fr tt ft))) (fun _ => rfl) (by decide) (fun u2 hX2 => ?_)
  obtain ⟨tlw_2, tno_2, tct_2, tsc_2, trn_2, tlg_2, tdn_2⟩ := u2
  have htc : tct_2 = 0 := (congrArg (fun z => z.2.2.1) hX2).symm
  rw [hX2] at hR; rw [pr7_mk tlw_2 tno_2 tct_2 tsc_2 trn_2 tlg_2 tdn_2] at hR
  refine j_aload_n C dX5_town_18 19 rfl rfl 0 rfl ?_
  refine j_get C dX5_town_19 22 rfl hiX5 0 rfl rfl 4 (by decide) rfl kX5_town_f25 rfl ?_
  refine j_aload_n C dX5_town_22 23 rfl rfl 0 rfl ?_
  refine j_get C dX5_town_23 26 rfl hiX5 0 rfl rfl 1 (by decide) rfl kX5_town_f16 rfl ?_
  refine j_cvI (na := 1) C dX5_town_26 29 rfl (c_X3_readInto τ (fun j => a (40 + j)) (fun j => a (20 + j)) bs tz so fr tt ft tlw_2 (va_cpy nkd tkd 0 0 8) (va_cpy nbt tbt 0 0 8) (va_cpy nph tph 0 0 8) (va_cpy ncn tcn 0 0 8) tno_2 tct_2 tsc_2 trn_2 tlg_2 tdn_2 nzz ⟨htz0, htz⟩ (by rw [htc]; decide) (by rw [htc]; decide)) gX5_town_X3_readInto rfl rfl rfl qd_X3_readInto rfl ⟨by decide, by decide⟩ ⟨by decide, by decide⟩ rfl (Nat.le_of_ble_eq_true rfl) [18, 19, 11, 12, 13, 14, 15, 16, 17] [0, 1, 2, 3, 4, 5, 6, 7, 8, 9, 10] [0, 1, 2, 3, 4, 5, 6, 7, 8, 9, 10, 13, 14, 15, 16, 17, 18, 19, 11, 12] ((wX τ a rws isv rc) ++ (wT τ (fun j => a (10 + j)) nlw nkd nbt nph ncn nno nct nsc nrn nlg ndn nzz)) rfl (by decide) rfl (by decide) (by decide) 3 0 rfl rfl (fun u => ((wX τ a rws isv rc) ++ (wT τ (fun j => a (10 + j)) nlw nkd nbt nph ncn nno nct nsc nrn nlg ndn nzz) ++ (wT τ (fun j => a (20 + j)) u.2.2.2.2.1 u.2.2.2.2.2.1 u.2.2.2.2.2.2.1 u.2.2.2.2.2.2.2.1 u.2.2.2.2.2.2.2.2.1 u.2.2.2.2.2.2.2.2.2.1 u.2.2.2.2.2.2.2.2.2.2 tsc_2 trn_2 tlg_2 tdn_2 nzz) ++ (wP τ (fun j => a (40 + j)) bs tz u.1 u.2.1 u.2.2.1 u.2.2.2.1))) (fun _ => rfl) (by decide) (fun r3 u3 hX3 hn3 => ?_)
  obtain ⟨so_3, fr_3, tt_3, ft_3, tlw_3, tkd_3, tbt_3, tph_3, tcn_3, tno_3, tct_3⟩ := u3
  rw [hX3] at hR; rw [pr12_mk r3 so_3 fr_3 tt_3 ft_3 tlw_3 tkd_3 tbt_3 tph_3 tcn_3 tno_3 tct_3] at hR
  refine j_istore_n C dX5_town_29 30 rfl rfl (by decide) [(1, .int r3), (0, .ref (a 0))] rfl ?_
  refine j_aload_n C dX5_town_30 31 rfl rfl 1 rfl ?_
  refine j_get C dX5_town_31 34 rfl hiX5 0 rfl rfl 4 (by decide) rfl kX5_town_f25 rfl ?_
  refine j_iconst (v := 0) C dX5_town_34 35 rfl (by decide) ?_
  refine j_put C dX5_town_35 38 rfl hiX3 tyX3_ok nmX3 18 rfl rfl 1 (by decide) rfl kX5_town_f54 rfl rfl rfl (Nat.le_of_ble_eq_true rfl) ((wX τ a rws isv rc) ++ (wT τ (fun j => a (10 + j)) nlw nkd nbt nph ncn nno nct nsc nrn nlg ndn nzz) ++ (wT τ (fun j => a (20 + j)) tlw_3 tkd_3 tbt_3 tph_3 tcn_3 tno_3 tct_3 tsc_2 trn_2 tlg_2 tdn_2 nzz) ++ (wP τ (fun j => a (40 + j)) bs 0 so_3 fr_3 tt_3 ft_3)) rfl ?_
  refine j_iload_n C dX5_town_38 39 rfl rfl 0 rfl ?_
  refine j_if_lt C dX5_town_39 47 rfl 42 rfl (fun c4 => ?_) (fun c4 => ?_)
  · rw [if_pos c4] at hR
    refine j_aload_n C dX5_town_47 48 rfl rfl 1 rfl ?_
    refine j_get C dX5_town_48 51 rfl hiX5 0 rfl rfl 0 (by decide) rfl kX5_town_f10 rfl ?_
    refine j_aload_n C dX5_town_51 52 rfl rfl 1 rfl ?_
    refine j_get C dX5_town_52 55 rfl hiX5 0 rfl rfl 1 (by decide) rfl kX5_town_f16 rfl ?_
    refine j_cvV (na := 1) C dX5_town_55 58 rfl (c_X4_copyFrom τ (fun j => a (10 + j)) (fun j => a (20 + j)) nlw nkd nbt nph ncn nno nct nsc nrn nlg ndn nzz tlw_3 tkd_3 tbt_3 tph_3 tcn_3 tno_3 tct_3 tsc_2 trn_2 tlg_2 tdn_2 nzz ) gX5_town_X4_copyFrom rfl rfl rfl qd_X4_copyFrom rfl ⟨by decide, by decide⟩ ⟨by decide, by decide⟩ rfl (Nat.le_of_ble_eq_true rfl) [4, 5, 6, 7, 8, 9, 10, 11, 12, 13, 14, 15, 16, 17] [0, 1, 2, 3, 18, 19] [0, 1, 2, 3, 6, 7, 8, 9, 10, 11, 12, 13, 14, 15, 16, 17, 18, 19, 4, 5] ((wX τ a rws isv rc) ++ (wP τ (fun j => a (40 + j)) bs 0 so_3 fr_3 tt_3 ft_3)) rfl (by decide) rfl (by decide) (by decide) 4 0 rfl rfl (fun u => ((wX τ a rws isv rc) ++ (wT τ (fun j => a (10 + j)) u.1 u.2.1 u.2.2.1 u.2.2.2.1 u.2.2.2.2.1 u.2.2.2.2.2.1 u.2.2.2.2.2.2.1 u.2.2.2.2.2.2.2.1 u.2.2.2.2.2.2.2.2.1 u.2.2.2.2.2.2.2.2.2.1 u.2.2.2.2.2.2.2.2.2.2.1 u.2.2.2.2.2.2.2.2.2.2.2) ++ (wT τ (fun j => a (20 + j)) tlw_3 tkd_3 tbt_3 tph_3 tcn_3 tno_3 tct_3 tsc_2 trn_2 tlg_2 tdn_2 nzz) ++ (wP τ (fun j => a (40 + j)) bs 0 so_3 fr_3 tt_3 ft_3))) (fun _ => rfl) (by decide) (fun u5 hX5 => ?_)
    obtain ⟨nlw_5, nkd_5, nbt_5, nph_5, ncn_5, nno_5, nct_5, nsc_5, nrn_5, nlg_5, ndn_5, nzz_5⟩ := u5
    simp only [f_X4_copyFrom, Prod.mk.injEq] at hX5
    obtain ⟨rfl, rfl, rfl, rfl, rfl, rfl, rfl, rfl, rfl, rfl, rfl, rfl⟩ := hX5
    refine j_aload_n C dX5_town_58 59 rfl rfl 1 rfl ?_
    refine j_iconst (v := 0) C dX5_town_59 60 rfl (by decide) ?_
    refine j_put C dX5_town_60 63 rfl hiX5 tyX5_ok nmX5 0 rfl rfl 6 (by decide) rfl kX5_town_f73 rfl rfl rfl (Nat.le_of_ble_eq_true rfl) ((wX τ a rws isv 0) ++ (wT τ (fun j => a (10 + j)) (va_cpy tlw_3 nlw 0 0 4) (va_cpy tkd_3 nkd 0 0 8) (va_cpy tbt_3 nbt 0 0 8) (va_cpy tph_3 nph 0 0 8) (va_cpy tcn_3 ncn 0 0 8) (va_cpy tno_3 nno 0 0 8) tct_3 tsc_2 trn_2 tlg_2 tdn_2 nzz) ++ (wT τ (fun j => a (20 + j)) tlw_3 tkd_3 tbt_3 tph_3 tcn_3 tno_3 tct_3 tsc_2 trn_2 tlg_2 tdn_2 nzz) ++ (wP τ (fun j => a (40 + j)) bs 0 so_3 fr_3 tt_3 ft_3)) rfl ?_
    refine j_aload_n C dX5_town_63 64 rfl rfl 1 rfl ?_
    refine j_get C dX5_town_64 67 rfl hiX5 0 rfl rfl 0 (by decide) rfl kX5_town_f10 rfl ?_
    refine j_get C dX5_town_67 70 rfl hiX4 4 rfl rfl 6 (by decide) rfl kX5_town_f76 rfl ?_
    exact Rt.ret (hR) rfl dX5_town_70
  · rw [if_neg c4] at hR
    refine j_bipush (v := (-100)) C dX5_town_42 44 rfl (by decide) ?_
    refine j_iload_n C dX5_town_44 45 rfl rfl 0 rfl ?_
    refine j_isub C dX5_town_45 46 rfl ?_
    exact Rt.ret (hR) rfl dX5_town_46

