theorem trial10 {ct x n : Int32} (c : ¬ f_X5_isTrial ct x n 10 = 0) (h0 : 0 ≤ ct.toInt) (h : ct.toInt ≤ 8) : n.toInt ≤ 10 := by
  have e := (in_trialG c h0 h).2.2
  rw [show (10 : Int32).toInt = 10 from rfl] at e
  exact e
theorem vps {x y : Int32} (c : ¬ f_X5_isIn x 0 (y - 1) = 0) (h0 : 0 ≤ y.toInt) (h : y.toInt ≤ 40) : vp_in x 40 := by
  have h1 := in_isIn c
  rw [i32_sub1 h0, show (0 : Int32).toInt = 0 from rfl] at h1
  exact vpI h1.1 (by omega)
theorem vps30 {x y : Int32} (c : ¬ f_X5_isIn x 0 (y - 1) = 0) (h0 : 0 ≤ y.toInt) (h : y.toInt ≤ 30) : vp_in x 30 := by
  have h1 := in_isIn c
  rw [i32_sub1 h0, show (0 : Int32).toInt = 0 from rfl] at h1
  exact vpI h1.1 (by omega)
theorem i64_ne {x : Int32} (h : 0 < x.toInt) : ¬ x.toInt64 = 0 := fun e => by
  have h2 : x.toInt64.toInt = 0 := by rw [e]; rfl
  rw [Int32.toInt_toInt64] at h2
  omega

-- X5_prove main now tried
def l_X5_prove_26 (tlw : Nat → Int32) (tkd : Nat → Int32) (tbt : Nat → Int32) (tph : Nat → Int32) (tcn : Nat → Int32) (tct : Int32) (x1 : Int32) (x2 : Int32) : Nat → Int32 → (Nat → Int32) → (Nat → Int32) → Int32 → Int32 → Int32 → Int32 → Int32 × (Nat → Int32) × (Nat → Int32) × Int32 × Int32 × Int32 × Int32
  | 0, x3, rws, tno, tsc, trn, tlg, tdn => (x3, rws, tno, tsc, trn, tlg, tdn)
  | N + 1, x3, rws, tno, tsc, trn, tlg, tdn => if (x2 ≤ x3) then (x3, rws, tno, tsc, trn, tlg, tdn) else (pr6 (f_X4_pass tlw tkd tbt tph tcn tno tct tsc trn tlg tdn) (fun r6 tno_6 tsc_6 trn_6 tlg_6 tdn_6 => l_X5_prove_26 tlw tkd tbt tph tcn tct x1 x2 N (x3 + 1) (upd (upd (upd rws ((x3 * 3)).toNatClampNeg ((r6 >>> (x1 &&& 31)) &&& 1)) (((x3 * 3) + 1)).toNatClampNeg trn_6) (((x3 * 3) + 2)).toNatClampNeg (tno_6 (x1).toNatClampNeg)) tno_6 tsc_6 trn_6 tlg_6 tdn_6))
def f_X5_prove (rws : Nat → Int32) (rc : Int32) (nlw : Nat → Int32) (nkd : Nat → Int32) (nbt : Nat → Int32) (nph : Nat → Int32) (ncn : Nat → Int32) (nno : Nat → Int32) (nct : Int32) (nsc : Int32) (nrn : Int32) (nlg : Int32) (ndn : Int32) (nzz : Int32) (tlw : Nat → Int32) (tkd : Nat → Int32) (tbt : Nat → Int32) (tph : Nat → Int32) (tcn : Nat → Int32) (tno : Nat → Int32) (tct : Int32) (tsc : Int32) (trn : Int32) (tlg : Int32) (tdn : Int32) (tzz : Int32) (x1 : Int32) (x2 : Int32) : Int32 × (Nat → Int32) × Int32 × (Nat → Int32) × (Nat → Int32) × (Nat → Int32) × (Nat → Int32) × (Nat → Int32) × (Nat → Int32) × Int32 × Int32 × Int32 × Int32 × Int32 × Int32 := if ((f_X5_isTrial nct x1 x2 (10 : Int32)) = 0) then (((-1) : Int32), rws, rc, tlw, tkd, tbt, tph, tcn, tno, tct, tsc, trn, tlg, tdn, tzz) else (pr7 (l_X5_prove_26 (va_cpy nlw tlw 0 0 4) (va_cpy nkd tkd 0 0 8) (va_cpy nbt tbt 0 0 8) (va_cpy nph tph 0 0 8) (va_cpy ncn tcn 0 0 8) nct x1 x2 300 (0 : Int32) rws (va_cpy nno tno 0 0 8) nsc nrn nlg ndn) (fun x3_4 rws_4 tno_4 tsc_4 trn_4 tlg_4 tdn_4 => (x2, rws_4, x2, (va_cpy nlw tlw 0 0 4), (va_cpy nkd tkd 0 0 8), (va_cpy nbt tbt 0 0 8), (va_cpy nph tph 0 0 8), (va_cpy ncn tcn 0 0 8), tno_4, nct, tsc_4, trn_4, tlg_4, tdn_4, nzz)))
theorem kX5_prove_f16 : Cond.fieldLink RX5 16 "TwoMinutes" "tried" "LTwoMinutes$Town;" ∈ wsX5_prove := by decide +kernel
theorem kX5_prove_f10 : Cond.fieldLink RX5 10 "TwoMinutes" "now" "LTwoMinutes$Town;" ∈ wsX5_prove := by decide +kernel
theorem kX5_prove_f29 : Cond.fieldLink RX5 29 "TwoMinutes" "rows" "[I" ∈ wsX5_prove := by decide +kernel
theorem kX5_prove_f142 : Cond.fieldLink RX5 142 "TwoMinutes$Town" "run" "I" ∈ wsX5_prove := by decide +kernel
theorem kX5_prove_f118 : Cond.fieldLink RX5 118 "TwoMinutes$Town" "noises" "[I" ∈ wsX5_prove := by decide +kernel
theorem kX5_prove_f73 : Cond.fieldLink RX5 73 "TwoMinutes" "rowCount" "I" ∈ wsX5_prove := by decide +kernel
theorem qd_X5_prove : yX5_prove.cls = RX5 ∧ yX5_prove.cls ≠ "java/lang/invoke/MethodHandle" ∧ yX5_prove.cls ≠ "java/lang/invoke/VarHandle" ∧ (parseMethodDescriptor yX5_prove.desc).map (fun d => d.parameters.length) = some 2 := by decide +kernel
abbrev rmX5_prove : Room := { frames := 5, cells := 0, slots := 0, locals := 107 }
set_option maxHeartbeats 4000000 in
set_option maxRecDepth 100000 in
theorem L_X5_prove_26 {τ : SX} {κ : KX} (C : Cx τ κ cX5_prove RX5 wsX5_prove rmX5_prove 5) (a : Nat → Nat) (isv : Int32) (rc : Int32) (nlw : Nat → Int32) (nkd : Nat → Int32) (nbt : Nat → Int32) (nph : Nat → Int32) (ncn : Nat → Int32) (nno : Nat → Int32) (nct : Int32) (nsc : Int32) (nrn : Int32) (nlg : Int32) (ndn : Int32) (nzz : Int32) (tlw : Nat → Int32) (tkd : Nat → Int32) (tbt : Nat → Int32) (tph : Nat → Int32) (tcn : Nat → Int32) (tct : Int32) (tzz : Int32) (x1 : Int32) (x2 : Int32) (hrc0 : 0 ≤ rc.toInt) (hrc : rc.toInt ≤ 10) (hn0 : 0 ≤ nct.toInt) (hn : nct.toInt ≤ 8) (htc : tct.toInt ≤ 8) (hv : vp_in x1 8) (hx : x2.toInt ≤ 10) (Φ : Int32 × (Nat → Int32) × (Nat → Int32) × Int32 × Int32 × Int32 × Int32 → Prop) (hE : ∀ (x3 : Int32) (rws : Nat → Int32) (tno : Nat → Int32) (tsc : Int32) (trn : Int32) (tlg : Int32) (tdn : Int32), Φ (x3, rws, tno, tsc, trn, tlg, tdn) → J τ κ 0 0 ((wX τ a rws isv rc) ++ (wT τ (fun j => a (10 + j)) nlw nkd nbt nph ncn nno nct nsc nrn nlg ndn nzz) ++ (wT τ (fun j => a (20 + j)) tlw tkd tbt tph tcn tno tct tsc trn tlg tdn tzz)) [(0, .ref (a 0)), (1, .int x1), (2, .int x2), (3, .int x3)] 96 []) : ∀ (N : Nat) (x3 : Int32) (rws : Nat → Int32) (tno : Nat → Int32) (tsc : Int32) (trn : Int32) (tlg : Int32) (tdn : Int32), ((10 : Int) - x3.toInt).toNat < N → (0 ≤ x3.toInt) → (x3.toInt ≤ 10) → Φ (l_X5_prove_26 tlw tkd tbt tph tcn tct x1 x2 N x3 rws tno tsc trn tlg tdn) → J τ κ 0 0 ((wX τ a rws isv rc) ++ (wT τ (fun j => a (10 + j)) nlw nkd nbt nph ncn nno nct nsc nrn nlg ndn nzz) ++ (wT τ (fun j => a (20 + j)) tlw tkd tbt tph tcn tno tct tsc trn tlg tdn tzz)) [(0, .ref (a 0)), (1, .int x1), (2, .int x2), (3, .int x3)] 26 [] := by
  have hiX4 : ∀ w ∈ wsX40, w ∈ wsX5_prove := fun w h => List.mem_cons_of_mem _ (List.mem_append_right _ h)
  have hiX5 : ∀ w ∈ wsX50, w ∈ wsX5_prove := fun w h => List.mem_cons_of_mem _ (List.mem_append_left _ (List.mem_append_right _ h))
  intro N
  induction N with
  | zero => intro x3 rws tno tsc trn tlg tdn hm; exact absurd hm (Nat.not_lt_zero _)
  | succ N ih =>
    intro x3 rws tno tsc trn tlg tdn hm h0 h1 hR
    rw [l_X5_prove_26] at hR
    refine j_iload_n C dX5_prove_26 27 rfl rfl 3 rfl ?_
    refine j_iload_n C dX5_prove_27 28 rfl rfl 2 rfl ?_
    refine j_icmp_ge C dX5_prove_28 96 rfl 31 rfl (fun c5 => ?_) (fun c5 => ?_)
    · rw [if_pos c5] at hR
      exact j_lv [0, 1, 2, 3] [(0, .ref (a 0)), (1, .int x1), (2, .int x2), (3, .int x3)] rfl (hE _ _ _ _ _ _ _  hR)
    · rw [if_neg c5] at hR
      have hs := cnt_step (B := 10) h0 (hx) (by decide) c5
      refine j_aload_n C dX5_prove_31 32 rfl rfl 0 rfl ?_
      refine j_get C dX5_prove_32 35 rfl hiX5 0 rfl rfl 1 (by decide) rfl kX5_prove_f16 rfl ?_
      refine j_cvI (na := 0) C dX5_prove_35 38 rfl (c_X4_pass τ (fun j => a (20 + j)) tlw tkd tbt tph tcn tno tct tsc trn tlg tdn tzz (by first | assumption | decide | exact in_has (by assumption) hn0 hn | exact (in_trial (by assumption) hn0 hn).1 | exact (in_trial (by assumption) hn0 hn).2.2 | exact in_isIn4 (by assumption) | exact in_isIn60 (by assumption) | exact in_isIn30 (by assumption) | exact in_sheet (by assumption) | exact in_shelf (by assumption) | exact vp_in_iff.mpr ⟨by omega, by omega⟩ | exact nz_nle (by assumption) | exact nz_lt (by assumption) | omega)) gX5_prove_X4_pass rfl rfl rfl qd_X4_pass rfl ⟨by decide, by decide⟩ ⟨by decide, by decide⟩ rfl (Nat.le_of_ble_eq_true rfl) [11, 12, 13, 14, 15, 16, 17] [0, 1, 2, 3, 4, 5, 6, 7, 8, 9, 10] [0, 1, 2, 3, 4, 5, 6, 7, 8, 9, 10, 11, 12, 13, 14, 15, 16, 17] ((wX τ a rws isv rc) ++ (wT τ (fun j => a (10 + j)) nlw nkd nbt nph ncn nno nct nsc nrn nlg ndn nzz)) rfl (by decide) rfl (by decide) (by decide) 4 0 rfl rfl (fun u => ((wX τ a rws isv rc) ++ (wT τ (fun j => a (10 + j)) nlw nkd nbt nph ncn nno nct nsc nrn nlg ndn nzz) ++ (wT τ (fun j => a (20 + j)) tlw tkd tbt tph tcn u.1 tct u.2.1 u.2.2.1 u.2.2.2.1 u.2.2.2.2 tzz))) (fun _ => rfl) (by decide) (fun r6 u6 hX6 hn6 => ?_)
      obtain ⟨tno_6, tsc_6, trn_6, tlg_6, tdn_6⟩ := u6
      rw [hX6] at hR; rw [pr6_mk r6 tno_6 tsc_6 trn_6 tlg_6 tdn_6] at hR
      refine j_istore C dX5_prove_38 40 rfl (by decide) [(4, .int r6), (0, .ref (a 0)), (1, .int x1), (2, .int x2), (3, .int x3)] rfl ?_
      refine j_aload_n C dX5_prove_40 41 rfl rfl 1 rfl ?_
      refine j_get C dX5_prove_41 44 rfl hiX5 0 rfl rfl 5 (by decide) rfl kX5_prove_f29 rfl ?_
      refine j_iload_n C dX5_prove_44 45 rfl rfl 4 rfl ?_
      refine j_iconst (v := 3) C dX5_prove_45 46 rfl (by decide) ?_
      refine j_imul C dX5_prove_46 47 rfl ?_
      refine j_iload C dX5_prove_47 49 rfl 0 rfl ?_
      refine j_iload_n C dX5_prove_49 50 rfl rfl 2 rfl ?_
      refine j_ishr C dX5_prove_50 51 rfl ?_
      refine j_iconst (v := 1) C dX5_prove_51 52 rfl (by decide) ?_
      refine j_iand C dX5_prove_52 53 rfl ?_
      refine j_iast C dX5_prove_53 54 rfl 1 rfl (ix30 h0 (by omega)) ((x3 * 3)).toNatClampNeg rfl ((wX τ a (upd rws ((x3 * 3)).toNatClampNeg ((r6 >>> (x1 &&& 31)) &&& 1)) isv rc) ++ (wT τ (fun j => a (10 + j)) nlw nkd nbt nph ncn nno nct nsc nrn nlg ndn nzz) ++ (wT τ (fun j => a (20 + j)) tlw tkd tbt tph tcn tno_6 tct tsc_6 trn_6 tlg_6 tdn_6 tzz)) rfl ?_
      refine j_aload_n C dX5_prove_54 55 rfl rfl 1 rfl ?_
      refine j_get C dX5_prove_55 58 rfl hiX5 0 rfl rfl 5 (by decide) rfl kX5_prove_f29 rfl ?_
      refine j_iload_n C dX5_prove_58 59 rfl rfl 4 rfl ?_
      refine j_iconst (v := 3) C dX5_prove_59 60 rfl (by decide) ?_
      refine j_imul C dX5_prove_60 61 rfl ?_
      refine j_iconst (v := 1) C dX5_prove_61 62 rfl (by decide) ?_
      refine j_iadd C dX5_prove_62 63 rfl ?_
      refine j_aload_n C dX5_prove_63 64 rfl rfl 1 rfl ?_
      refine j_get C dX5_prove_64 67 rfl hiX5 0 rfl rfl 1 (by decide) rfl kX5_prove_f16 rfl ?_
      refine j_get C dX5_prove_67 70 rfl hiX4 11 rfl rfl 8 (by decide) rfl kX5_prove_f142 rfl ?_
      refine j_iast C dX5_prove_70 71 rfl 1 rfl (ix3 h0 (by omega) (by decide)) (((x3 * 3) + 1)).toNatClampNeg rfl ((wX τ a (upd (upd rws ((x3 * 3)).toNatClampNeg ((r6 >>> (x1 &&& 31)) &&& 1)) (((x3 * 3) + 1)).toNatClampNeg trn_6) isv rc) ++ (wT τ (fun j => a (10 + j)) nlw nkd nbt nph ncn nno nct nsc nrn nlg ndn nzz) ++ (wT τ (fun j => a (20 + j)) tlw tkd tbt tph tcn tno_6 tct tsc_6 trn_6 tlg_6 tdn_6 tzz)) rfl ?_
      refine j_aload_n C dX5_prove_71 72 rfl rfl 1 rfl ?_
      refine j_get C dX5_prove_72 75 rfl hiX5 0 rfl rfl 5 (by decide) rfl kX5_prove_f29 rfl ?_
      refine j_iload_n C dX5_prove_75 76 rfl rfl 4 rfl ?_
      refine j_iconst (v := 3) C dX5_prove_76 77 rfl (by decide) ?_
      refine j_imul C dX5_prove_77 78 rfl ?_
      refine j_iconst (v := 2) C dX5_prove_78 79 rfl (by decide) ?_
      refine j_iadd C dX5_prove_79 80 rfl ?_
      refine j_aload_n C dX5_prove_80 81 rfl rfl 1 rfl ?_
      refine j_get C dX5_prove_81 84 rfl hiX5 0 rfl rfl 1 (by decide) rfl kX5_prove_f16 rfl ?_
      refine j_get C dX5_prove_84 87 rfl hiX4 11 rfl rfl 5 (by decide) rfl kX5_prove_f118 rfl ?_
      refine j_iload_n C dX5_prove_87 88 rfl rfl 2 rfl ?_
      refine j_iald C dX5_prove_88 89 rfl 17 rfl (by assumption) (x1).toNatClampNeg rfl ?_
      refine j_iast C dX5_prove_89 90 rfl 1 rfl (ix3 h0 (by omega) (by decide)) (((x3 * 3) + 2)).toNatClampNeg rfl ((wX τ a (upd (upd (upd rws ((x3 * 3)).toNatClampNeg ((r6 >>> (x1 &&& 31)) &&& 1)) (((x3 * 3) + 1)).toNatClampNeg trn_6) (((x3 * 3) + 2)).toNatClampNeg (tno_6 (x1).toNatClampNeg)) isv rc) ++ (wT τ (fun j => a (10 + j)) nlw nkd nbt nph ncn nno nct nsc nrn nlg ndn nzz) ++ (wT τ (fun j => a (20 + j)) tlw tkd tbt tph tcn tno_6 tct tsc_6 trn_6 tlg_6 tdn_6 tzz)) rfl ?_
      refine j_iinc (v := (x3 + 1)) C dX5_prove_90 93 rfl 4 rfl rfl (by decide) [(3, .int (x3 + 1)), (4, .int r6), (0, .ref (a 0)), (1, .int x1), (2, .int x2)] rfl ?_
      refine j_goto C dX5_prove_93 26 rfl ?_
      exact j_lv [2, 3, 4, 0] [(0, .ref (a 0)), (1, .int x1), (2, .int x2), (3, .int (x3 + 1))] rfl (ih _ _ _ _ _ _ _ (by have := hs.2.2.1; omega) hs.1 hs.2.1 hR)
set_option maxHeartbeats 4000000 in
set_option maxRecDepth 100000 in
theorem c_X5_prove (τ : SX) (a : Nat → Nat) (rws : Nat → Int32) (isv : Int32) (rc : Int32) (nlw : Nat → Int32) (nkd : Nat → Int32) (nbt : Nat → Int32) (nph : Nat → Int32) (ncn : Nat → Int32) (nno : Nat → Int32) (nct : Int32) (nsc : Int32) (nrn : Int32) (nlg : Int32) (ndn : Int32) (nzz : Int32) (tlw : Nat → Int32) (tkd : Nat → Int32) (tbt : Nat → Int32) (tph : Nat → Int32) (tcn : Nat → Int32) (tno : Nat → Int32) (tct : Int32) (tsc : Int32) (trn : Int32) (tlg : Int32) (tdn : Int32) (tzz : Int32) (x1 : Int32) (x2 : Int32) (hrc0 : 0 ≤ rc.toInt) (hrc : rc.toInt ≤ 10) (hn0 : 0 ≤ nct.toInt) (hn : nct.toInt ≤ 8) (sz : Nat) : McI τ yX5_prove wsX5_prove rmX5_prove .int [.ref (a 0), .int x1, .int x2] ((wX τ a rws isv rc) ++ (wT τ (fun j => a (10 + j)) nlw nkd nbt nph ncn nno nct nsc nrn nlg ndn nzz) ++ (wT τ (fun j => a (20 + j)) tlw tkd tbt tph tcn tno tct tsc trn tlg tdn tzz)) (fun u : (Nat → Int32) × Int32 × (Nat → Int32) × (Nat → Int32) × (Nat → Int32) × (Nat → Int32) × (Nat → Int32) × (Nat → Int32) × Int32 × Int32 × Int32 × Int32 × Int32 × Int32 => ((wX τ a u.1 isv u.2.1) ++ (wT τ (fun j => a (10 + j)) nlw nkd nbt nph ncn nno nct nsc nrn nlg ndn nzz) ++ (wT τ (fun j => a (20 + j)) u.2.2.1 u.2.2.2.1 u.2.2.2.2.1 u.2.2.2.2.2.1 u.2.2.2.2.2.2.1 u.2.2.2.2.2.2.2.1 u.2.2.2.2.2.2.2.2.1 u.2.2.2.2.2.2.2.2.2.1 u.2.2.2.2.2.2.2.2.2.2.1 u.2.2.2.2.2.2.2.2.2.2.2.1 u.2.2.2.2.2.2.2.2.2.2.2.2.1 u.2.2.2.2.2.2.2.2.2.2.2.2.2))) (f_X5_prove rws rc nlw nkd nbt nph ncn nno nct nsc nrn nlg ndn nzz tlw tkd tbt tph tcn tno tct tsc trn tlg tdn tzz x1 x2) sz := by
  refine mc_I (cc := cX5_prove) (own := RX5) [(0, .ref (a 0)), (1, .int x1), (2, .int x2)] rfl (by decide) rfl rfl (Nat.le_of_ble_eq_true rfl) (fun κ C hR => ?_)
  have hiX4 : ∀ w ∈ wsX40, w ∈ wsX5_prove := fun w h => List.mem_cons_of_mem _ (List.mem_append_right _ h)
  have hiX5 : ∀ w ∈ wsX50, w ∈ wsX5_prove := fun w h => List.mem_cons_of_mem _ (List.mem_append_left _ (List.mem_append_right _ h))
  unfold f_X5_prove at hR
  refine j_aload_n C dX5_prove_0 1 rfl rfl 0 rfl ?_
  refine j_iload_n C dX5_prove_1 2 rfl rfl 1 rfl ?_
  refine j_iload_n C dX5_prove_2 3 rfl rfl 2 rfl ?_
  refine j_bipush (v := 10) C dX5_prove_3 5 rfl (by decide) ?_
  refine j_cvI (na := 3) C dX5_prove_5 8 rfl (c_X5_isTrial τ a rws isv rc nlw nkd nbt nph ncn nno nct nsc nrn nlg ndn nzz x1 x2 (10 : Int32) (by first | assumption | decide | exact in_has (by assumption) hn0 hn | exact (in_trial (by assumption) hn0 hn).1 | exact (in_trial (by assumption) hn0 hn).2.2 | exact in_isIn4 (by assumption) | exact in_isIn60 (by assumption) | exact in_isIn30 (by assumption) | exact in_sheet (by assumption) | exact in_shelf (by assumption) | exact vp_in_iff.mpr ⟨by omega, by omega⟩ | exact nz_nle (by assumption) | exact nz_lt (by assumption) | omega) (by first | assumption | decide | exact in_has (by assumption) hn0 hn | exact (in_trial (by assumption) hn0 hn).1 | exact (in_trial (by assumption) hn0 hn).2.2 | exact in_isIn4 (by assumption) | exact in_isIn60 (by assumption) | exact in_isIn30 (by assumption) | exact in_sheet (by assumption) | exact in_shelf (by assumption) | exact vp_in_iff.mpr ⟨by omega, by omega⟩ | exact nz_nle (by assumption) | exact nz_lt (by assumption) | omega) (by first | assumption | decide | exact in_has (by assumption) hn0 hn | exact (in_trial (by assumption) hn0 hn).1 | exact (in_trial (by assumption) hn0 hn).2.2 | exact in_isIn4 (by assumption) | exact in_isIn60 (by assumption) | exact in_isIn30 (by assumption) | exact in_sheet (by assumption) | exact in_shelf (by assumption) | exact vp_in_iff.mpr ⟨by omega, by omega⟩ | exact nz_nle (by assumption) | exact nz_lt (by assumption) | omega) (by first | assumption | decide | exact in_has (by assumption) hn0 hn | exact (in_trial (by assumption) hn0 hn).1 | exact (in_trial (by assumption) hn0 hn).2.2 | exact in_isIn4 (by assumption) | exact in_isIn60 (by assumption) | exact in_isIn30 (by assumption) | exact in_sheet (by assumption) | exact in_shelf (by assumption) | exact vp_in_iff.mpr ⟨by omega, by omega⟩ | exact nz_nle (by assumption) | exact nz_lt (by assumption) | omega)) gX5_prove_X5_isTrial rfl rfl rfl qd_X5_isTrial rfl ⟨by decide, by decide⟩ ⟨by decide, by decide⟩ rfl (Nat.le_of_ble_eq_true rfl) [0, 1, 2, 3, 4, 5, 6, 7, 8, 9, 10] [11, 12, 13, 14, 15, 16, 17] [7, 8, 9, 10, 11, 12, 13, 14, 15, 16, 17, 0, 1, 2, 3, 4, 5, 6] ((wT τ (fun j => a (20 + j)) tlw tkd tbt tph tcn tno tct tsc trn tlg tdn tzz)) rfl (by decide) rfl (by decide) (by decide) 5 0 rfl rfl (fun u => ((wX τ a rws isv rc) ++ (wT τ (fun j => a (10 + j)) nlw nkd nbt nph ncn nno nct nsc nrn nlg ndn nzz) ++ (wT τ (fun j => a (20 + j)) tlw tkd tbt tph tcn tno tct tsc trn tlg tdn tzz))) (fun _ => rfl) (by decide) (fun r1 u1 hX1 hn1 => ?_)
  obtain rfl := (Prod.mk.inj hX1).1
  refine j_if_ne C dX5_prove_8 13 rfl 11 rfl (fun c2 => ?_) (fun c2 => ?_)
  · rw [if_neg c2] at hR
    refine j_aload_n C dX5_prove_13 14 rfl rfl 0 rfl ?_
    refine j_get C dX5_prove_14 17 rfl hiX5 0 rfl rfl 1 (by decide) rfl kX5_prove_f16 rfl ?_
    refine j_aload_n C dX5_prove_17 18 rfl rfl 0 rfl ?_
    refine j_get C dX5_prove_18 21 rfl hiX5 0 rfl rfl 0 (by decide) rfl kX5_prove_f10 rfl ?_
    refine j_cvV (na := 1) C dX5_prove_21 24 rfl (c_X4_copyFrom τ (fun j => a (20 + j)) (fun j => a (10 + j)) tlw tkd tbt tph tcn tno tct tsc trn tlg tdn tzz nlw nkd nbt nph ncn nno nct nsc nrn nlg ndn nzz ) gX5_prove_X4_copyFrom rfl rfl rfl qd_X4_copyFrom rfl ⟨by decide, by decide⟩ ⟨by decide, by decide⟩ rfl (Nat.le_of_ble_eq_true rfl) [11, 12, 13, 14, 15, 16, 17, 4, 5, 6, 7, 8, 9, 10] [0, 1, 2, 3] [0, 1, 2, 3, 11, 12, 13, 14, 15, 16, 17, 4, 5, 6, 7, 8, 9, 10] ((wX τ a rws isv rc)) rfl (by decide) rfl (by decide) (by decide) 4 0 rfl rfl (fun u => ((wX τ a rws isv rc) ++ (wT τ (fun j => a (10 + j)) nlw nkd nbt nph ncn nno nct nsc nrn nlg ndn nzz) ++ (wT τ (fun j => a (20 + j)) u.1 u.2.1 u.2.2.1 u.2.2.2.1 u.2.2.2.2.1 u.2.2.2.2.2.1 u.2.2.2.2.2.2.1 u.2.2.2.2.2.2.2.1 u.2.2.2.2.2.2.2.2.1 u.2.2.2.2.2.2.2.2.2.1 u.2.2.2.2.2.2.2.2.2.2.1 u.2.2.2.2.2.2.2.2.2.2.2))) (fun _ => rfl) (by decide) (fun u3 hX3 => ?_)
    obtain ⟨tlw_3, tkd_3, tbt_3, tph_3, tcn_3, tno_3, tct_3, tsc_3, trn_3, tlg_3, tdn_3, tzz_3⟩ := u3
    simp only [f_X4_copyFrom, Prod.mk.injEq] at hX3
    obtain ⟨rfl, rfl, rfl, rfl, rfl, rfl, rfl, rfl, rfl, rfl, rfl, rfl⟩ := hX3
    refine j_iconst (v := 0) C dX5_prove_24 25 rfl (by decide) ?_
    refine j_istore_n C dX5_prove_25 26 rfl rfl (by decide) [(3, .int 0), (0, .ref (a 0)), (1, .int x1), (2, .int x2)] rfl ?_
    refine j_lv [1, 2, 3, 0] [(0, .ref (a 0)), (1, .int x1), (2, .int x2), (3, .int 0)] rfl (L_X5_prove_26 C a isv rc nlw nkd nbt nph ncn nno nct nsc nrn nlg ndn nzz (va_cpy nlw tlw 0 0 4) (va_cpy nkd tkd 0 0 8) (va_cpy nbt tbt 0 0 8) (va_cpy nph tph 0 0 8) (va_cpy ncn tcn 0 0 8) nct nzz x1 x2 hrc0 hrc hn0 hn (hn) ((in_trialG (by assumption) hn0 hn).1) (trial10 (by assumption) hn0 hn) (fun (o : Int32 × (Nat → Int32) × (Nat → Int32) × Int32 × Int32 × Int32 × Int32) => Rt τ κ cX5_prove .int (fun u : (Nat → Int32) × Int32 × (Nat → Int32) × (Nat → Int32) × (Nat → Int32) × (Nat → Int32) × (Nat → Int32) × (Nat → Int32) × Int32 × Int32 × Int32 × Int32 × Int32 × Int32 => ((wX τ a u.1 isv u.2.1) ++ (wT τ (fun j => a (10 + j)) nlw nkd nbt nph ncn nno nct nsc nrn nlg ndn nzz) ++ (wT τ (fun j => a (20 + j)) u.2.2.1 u.2.2.2.1 u.2.2.2.2.1 u.2.2.2.2.2.1 u.2.2.2.2.2.2.1 u.2.2.2.2.2.2.2.1 u.2.2.2.2.2.2.2.2.1 u.2.2.2.2.2.2.2.2.2.1 u.2.2.2.2.2.2.2.2.2.2.1 u.2.2.2.2.2.2.2.2.2.2.2.1 u.2.2.2.2.2.2.2.2.2.2.2.2.1 u.2.2.2.2.2.2.2.2.2.2.2.2.2))) (pr7 o (fun x3_4 rws_4 tno_4 tsc_4 trn_4 tlg_4 tdn_4 => (x2, rws_4, x2, (va_cpy nlw tlw 0 0 4), (va_cpy nkd tkd 0 0 8), (va_cpy nbt tbt 0 0 8), (va_cpy nph tph 0 0 8), (va_cpy ncn tcn 0 0 8), tno_4, nct, tsc_4, trn_4, tlg_4, tdn_4, nzz)))) (fun x3_4 rws_4 tno_4 tsc_4 trn_4 tlg_4 tdn_4  hR => ?_) 300 (0 : Int32) rws (va_cpy nno tno 0 0 8) nsc nrn nlg ndn (by decide) (by decide) (by decide) hR)
    rw [pr7_mk x3_4 rws_4 tno_4 tsc_4 trn_4 tlg_4 tdn_4] at hR
    refine j_aload_n C dX5_prove_96 97 rfl rfl 0 rfl ?_
    refine j_iload_n C dX5_prove_97 98 rfl rfl 2 rfl ?_
    refine j_put C dX5_prove_98 101 rfl hiX5 tyX5_ok nmX5 0 rfl rfl 6 (by decide) rfl kX5_prove_f73 rfl rfl rfl (Nat.le_of_ble_eq_true rfl) ((wX τ a rws_4 isv x2) ++ (wT τ (fun j => a (10 + j)) nlw nkd nbt nph ncn nno nct nsc nrn nlg ndn nzz) ++ (wT τ (fun j => a (20 + j)) (va_cpy nlw tlw 0 0 4) (va_cpy nkd tkd 0 0 8) (va_cpy nbt tbt 0 0 8) (va_cpy nph tph 0 0 8) (va_cpy ncn tcn 0 0 8) tno_4 nct tsc_4 trn_4 tlg_4 tdn_4 nzz)) rfl ?_
    refine j_iload_n C dX5_prove_101 102 rfl rfl 2 rfl ?_
    exact Rt.ret (hR) rfl dX5_prove_102
  · rw [if_pos c2] at hR
    refine j_iconst (v := (-1)) C dX5_prove_11 12 rfl (by decide) ?_
    exact Rt.ret (hR) rfl dX5_prove_12

-- X5_judge main now tried
def l_X5_judge_26 (rws : Nat → Int32) (rc : Int32) (tlw : Nat → Int32) (tkd : Nat → Int32) (tbt : Nat → Int32) (tph : Nat → Int32) (tcn : Nat → Int32) (tct : Int32) (tzz : Int32) (x1 : Int32) : Nat → Int32 → (Nat → Int32) → Int32 → Int32 → Int32 → Int32 → (Int32 × (Nat → Int32) × Int32 × Int32 × Int32 × Int32) ⊕ (Int32 × (Nat → Int32) × (Nat → Int32) × (Nat → Int32) × (Nat → Int32) × (Nat → Int32) × (Nat → Int32) × Int32 × Int32 × Int32 × Int32 × Int32 × Int32)
  | 0, x2, tno, tsc, trn, tlg, tdn => Sum.inl (x2, tno, tsc, trn, tlg, tdn)
  | N + 1, x2, tno, tsc, trn, tlg, tdn => if (rc ≤ x2) then (Sum.inl (x2, tno, tsc, trn, tlg, tdn)) else (pr6 (f_X4_pass tlw tkd tbt tph tcn tno tct tsc trn tlg tdn) (fun r6 tno_6 tsc_6 trn_6 tlg_6 tdn_6 => if ((rws ((x2 * 3)).toNatClampNeg) = ((r6 >>> (x1 &&& 31)) &&& 1)) then (if ((rws (((x2 * 3) + 1)).toNatClampNeg) = trn_6) then (if ((rws (((x2 * 3) + 2)).toNatClampNeg) = (tno_6 (x1).toNatClampNeg)) then (l_X5_judge_26 rws rc tlw tkd tbt tph tcn tct tzz x1 N (x2 + 1) tno_6 tsc_6 trn_6 tlg_6 tdn_6) else (Sum.inr ((x2 + 1), tlw, tkd, tbt, tph, tcn, tno_6, tct, tsc_6, trn_6, tlg_6, tdn_6, tzz))) else (Sum.inr ((x2 + 1), tlw, tkd, tbt, tph, tcn, tno_6, tct, tsc_6, trn_6, tlg_6, tdn_6, tzz))) else (Sum.inr ((x2 + 1), tlw, tkd, tbt, tph, tcn, tno_6, tct, tsc_6, trn_6, tlg_6, tdn_6, tzz))))
def f_X5_judge (rws : Nat → Int32) (rc : Int32) (nlw : Nat → Int32) (nkd : Nat → Int32) (nbt : Nat → Int32) (nph : Nat → Int32) (ncn : Nat → Int32) (nno : Nat → Int32) (nct : Int32) (nsc : Int32) (nrn : Int32) (nlg : Int32) (ndn : Int32) (nzz : Int32) (tlw : Nat → Int32) (tkd : Nat → Int32) (tbt : Nat → Int32) (tph : Nat → Int32) (tcn : Nat → Int32) (tno : Nat → Int32) (tct : Int32) (tsc : Int32) (trn : Int32) (tlg : Int32) (tdn : Int32) (tzz : Int32) (x1 : Int32) : Int32 × (Nat → Int32) × (Nat → Int32) × (Nat → Int32) × (Nat → Int32) × (Nat → Int32) × (Nat → Int32) × Int32 × Int32 × Int32 × Int32 × Int32 × Int32 := if ((f_X4_has nct x1) = 0) then (((-1) : Int32), tlw, tkd, tbt, tph, tcn, tno, tct, tsc, trn, tlg, tdn, tzz) else (sm (l_X5_judge_26 rws rc (va_cpy nlw tlw 0 0 4) (va_cpy nkd tkd 0 0 8) (va_cpy nbt tbt 0 0 8) (va_cpy nph tph 0 0 8) (va_cpy ncn tcn 0 0 8) nct nzz x1 300 (0 : Int32) (va_cpy nno tno 0 0 8) nsc nrn nlg ndn) (fun (z4 : Int32 × (Nat → Int32) × Int32 × Int32 × Int32 × Int32) => pr6 z4 (fun x2_4 tno_4 tsc_4 trn_4 tlg_4 tdn_4 => ((0 : Int32), (va_cpy nlw tlw 0 0 4), (va_cpy nkd tkd 0 0 8), (va_cpy nbt tbt 0 0 8), (va_cpy nph tph 0 0 8), (va_cpy ncn tcn 0 0 8), tno_4, nct, tsc_4, trn_4, tlg_4, tdn_4, nzz))) (fun X => X))
theorem kX5_judge_f10 : Cond.fieldLink RX5 10 "TwoMinutes" "now" "LTwoMinutes$Town;" ∈ wsX5_judge := by decide +kernel
theorem kX5_judge_f16 : Cond.fieldLink RX5 16 "TwoMinutes" "tried" "LTwoMinutes$Town;" ∈ wsX5_judge := by decide +kernel
theorem kX5_judge_f73 : Cond.fieldLink RX5 73 "TwoMinutes" "rowCount" "I" ∈ wsX5_judge := by decide +kernel
theorem kX5_judge_f29 : Cond.fieldLink RX5 29 "TwoMinutes" "rows" "[I" ∈ wsX5_judge := by decide +kernel
theorem kX5_judge_f142 : Cond.fieldLink RX5 142 "TwoMinutes$Town" "run" "I" ∈ wsX5_judge := by decide +kernel
theorem kX5_judge_f118 : Cond.fieldLink RX5 118 "TwoMinutes$Town" "noises" "[I" ∈ wsX5_judge := by decide +kernel
theorem qd_X5_judge : yX5_judge.cls = RX5 ∧ yX5_judge.cls ≠ "java/lang/invoke/MethodHandle" ∧ yX5_judge.cls ≠ "java/lang/invoke/VarHandle" ∧ (parseMethodDescriptor yX5_judge.desc).map (fun d => d.parameters.length) = some 1 := by decide +kernel
abbrev rmX5_judge : Room := { frames := 5, cells := 0, slots := 0, locals := 107 }
set_option maxHeartbeats 4000000 in
set_option maxRecDepth 100000 in
theorem L_X5_judge_26 {τ : SX} {κ : KX} (C : Cx τ κ cX5_judge RX5 wsX5_judge rmX5_judge 4) (a : Nat → Nat) (rws : Nat → Int32) (isv : Int32) (rc : Int32) (nlw : Nat → Int32) (nkd : Nat → Int32) (nbt : Nat → Int32) (nph : Nat → Int32) (ncn : Nat → Int32) (nno : Nat → Int32) (nct : Int32) (nsc : Int32) (nrn : Int32) (nlg : Int32) (ndn : Int32) (nzz : Int32) (tlw : Nat → Int32) (tkd : Nat → Int32) (tbt : Nat → Int32) (tph : Nat → Int32) (tcn : Nat → Int32) (tct : Int32) (tzz : Int32) (x1 : Int32) (hrc0 : 0 ≤ rc.toInt) (hrc : rc.toInt ≤ 10) (hn0 : 0 ≤ nct.toInt) (hn : nct.toInt ≤ 8) (htc : tct.toInt ≤ 8) (hv : vp_in x1 8) (Φ : (Int32 × (Nat → Int32) × Int32 × Int32 × Int32 × Int32) ⊕ (Int32 × (Nat → Int32) × (Nat → Int32) × (Nat → Int32) × (Nat → Int32) × (Nat → Int32) × (Nat → Int32) × Int32 × Int32 × Int32 × Int32 × Int32 × Int32) → Prop) (hE : ∀ (x2 : Int32) (tno : Nat → Int32) (tsc : Int32) (trn : Int32) (tlg : Int32) (tdn : Int32), Φ (Sum.inl (x2, tno, tsc, trn, tlg, tdn)) → J τ κ 0 0 ((wX τ a rws isv rc) ++ (wT τ (fun j => a (10 + j)) nlw nkd nbt nph ncn nno nct nsc nrn nlg ndn nzz) ++ (wT τ (fun j => a (20 + j)) tlw tkd tbt tph tcn tno tct tsc trn tlg tdn tzz)) [(0, .ref (a 0)), (1, .int x1), (2, .int x2)] 110 []) (hRet : ∀ X, Φ (Sum.inr X) → Rt τ κ cX5_judge .int (fun u : (Nat → Int32) × (Nat → Int32) × (Nat → Int32) × (Nat → Int32) × (Nat → Int32) × (Nat → Int32) × Int32 × Int32 × Int32 × Int32 × Int32 × Int32 => ((wX τ a rws isv rc) ++ (wT τ (fun j => a (10 + j)) nlw nkd nbt nph ncn nno nct nsc nrn nlg ndn nzz) ++ (wT τ (fun j => a (20 + j)) u.1 u.2.1 u.2.2.1 u.2.2.2.1 u.2.2.2.2.1 u.2.2.2.2.2.1 u.2.2.2.2.2.2.1 u.2.2.2.2.2.2.2.1 u.2.2.2.2.2.2.2.2.1 u.2.2.2.2.2.2.2.2.2.1 u.2.2.2.2.2.2.2.2.2.2.1 u.2.2.2.2.2.2.2.2.2.2.2))) (X)) : ∀ (N : Nat) (x2 : Int32) (tno : Nat → Int32) (tsc : Int32) (trn : Int32) (tlg : Int32) (tdn : Int32), ((10 : Int) - x2.toInt).toNat < N → (0 ≤ x2.toInt) → (x2.toInt ≤ 10) → Φ (l_X5_judge_26 rws rc tlw tkd tbt tph tcn tct tzz x1 N x2 tno tsc trn tlg tdn) → J τ κ 0 0 ((wX τ a rws isv rc) ++ (wT τ (fun j => a (10 + j)) nlw nkd nbt nph ncn nno nct nsc nrn nlg ndn nzz) ++ (wT τ (fun j => a (20 + j)) tlw tkd tbt tph tcn tno tct tsc trn tlg tdn tzz)) [(0, .ref (a 0)), (1, .int x1), (2, .int x2)] 26 [] := by
  have hiX4 : ∀ w ∈ wsX40, w ∈ wsX5_judge := fun w h => List.mem_cons_of_mem _ (List.mem_append_right _ h)
  have hiX5 : ∀ w ∈ wsX50, w ∈ wsX5_judge := fun w h => List.mem_cons_of_mem _ (List.mem_append_left _ (List.mem_append_right _ h))
  intro N
  induction N with
  | zero => intro x2 tno tsc trn tlg tdn hm; exact absurd hm (Nat.not_lt_zero _)
  | succ N ih =>
    intro x2 tno tsc trn tlg tdn hm h0 h1 hR
    rw [l_X5_judge_26] at hR
    refine j_iload_n C dX5_judge_26 27 rfl rfl 2 rfl ?_
    refine j_aload_n C dX5_judge_27 28 rfl rfl 0 rfl ?_
    refine j_get C dX5_judge_28 31 rfl hiX5 0 rfl rfl 6 (by decide) rfl kX5_judge_f73 rfl ?_
    refine j_icmp_ge C dX5_judge_31 110 rfl 34 rfl (fun c5 => ?_) (fun c5 => ?_)
    · rw [if_pos c5] at hR
      exact j_lv [0, 1, 2] [(0, .ref (a 0)), (1, .int x1), (2, .int x2)] rfl (hE _ _ _ _ _ _  hR)
    · rw [if_neg c5] at hR
      have hs := cnt_step (B := 10) h0 (hrc) (by decide) c5
      refine j_aload_n C dX5_judge_34 35 rfl rfl 0 rfl ?_
      refine j_get C dX5_judge_35 38 rfl hiX5 0 rfl rfl 1 (by decide) rfl kX5_judge_f16 rfl ?_
      refine j_cvI (na := 0) C dX5_judge_38 41 rfl (c_X4_pass τ (fun j => a (20 + j)) tlw tkd tbt tph tcn tno tct tsc trn tlg tdn tzz (by first | assumption | decide | exact in_has (by assumption) hn0 hn | exact (in_trial (by assumption) hn0 hn).1 | exact (in_trial (by assumption) hn0 hn).2.2 | exact in_isIn4 (by assumption) | exact in_isIn60 (by assumption) | exact in_isIn30 (by assumption) | exact in_sheet (by assumption) | exact in_shelf (by assumption) | exact vp_in_iff.mpr ⟨by omega, by omega⟩ | exact nz_nle (by assumption) | exact nz_lt (by assumption) | omega)) gX5_judge_X4_pass rfl rfl rfl qd_X4_pass rfl ⟨by decide, by decide⟩ ⟨by decide, by decide⟩ rfl (Nat.le_of_ble_eq_true rfl) [11, 12, 13, 14, 15, 16, 17] [0, 1, 2, 3, 4, 5, 6, 7, 8, 9, 10] [0, 1, 2, 3, 4, 5, 6, 7, 8, 9, 10, 11, 12, 13, 14, 15, 16, 17] ((wX τ a rws isv rc) ++ (wT τ (fun j => a (10 + j)) nlw nkd nbt nph ncn nno nct nsc nrn nlg ndn nzz)) rfl (by decide) rfl (by decide) (by decide) 4 0 rfl rfl (fun u => ((wX τ a rws isv rc) ++ (wT τ (fun j => a (10 + j)) nlw nkd nbt nph ncn nno nct nsc nrn nlg ndn nzz) ++ (wT τ (fun j => a (20 + j)) tlw tkd tbt tph tcn u.1 tct u.2.1 u.2.2.1 u.2.2.2.1 u.2.2.2.2 tzz))) (fun _ => rfl) (by decide) (fun r6 u6 hX6 hn6 => ?_)
      obtain ⟨tno_6, tsc_6, trn_6, tlg_6, tdn_6⟩ := u6
      rw [hX6] at hR; rw [pr6_mk r6 tno_6 tsc_6 trn_6 tlg_6 tdn_6] at hR
      refine j_istore_n C dX5_judge_41 42 rfl rfl (by decide) [(3, .int r6), (0, .ref (a 0)), (1, .int x1), (2, .int x2)] rfl ?_
      refine j_aload_n C dX5_judge_42 43 rfl rfl 1 rfl ?_
      refine j_get C dX5_judge_43 46 rfl hiX5 0 rfl rfl 5 (by decide) rfl kX5_judge_f29 rfl ?_
      refine j_iload_n C dX5_judge_46 47 rfl rfl 3 rfl ?_
      refine j_iconst (v := 3) C dX5_judge_47 48 rfl (by decide) ?_
      refine j_imul C dX5_judge_48 49 rfl ?_
      refine j_iald C dX5_judge_49 50 rfl 1 rfl (ix30 h0 (by omega)) ((x2 * 3)).toNatClampNeg rfl ?_
      refine j_iload_n C dX5_judge_50 51 rfl rfl 0 rfl ?_
      refine j_iload_n C dX5_judge_51 52 rfl rfl 2 rfl ?_
      refine j_ishr C dX5_judge_52 53 rfl ?_
      refine j_iconst (v := 1) C dX5_judge_53 54 rfl (by decide) ?_
      refine j_iand C dX5_judge_54 55 rfl ?_
      refine j_icmp_ne C dX5_judge_55 100 rfl 58 rfl (fun c7 => ?_) (fun c7 => ?_)
      · rw [if_neg c7] at hR
        refine j_iload_n C dX5_judge_100 101 rfl rfl 3 rfl ?_
        refine j_iconst (v := 1) C dX5_judge_101 102 rfl (by decide) ?_
        refine j_iadd C dX5_judge_102 103 rfl ?_
        exact Rt.ret (hRet _ hR) rfl dX5_judge_103
      · rw [if_pos c7] at hR
        refine j_aload_n C dX5_judge_58 59 rfl rfl 1 rfl ?_
        refine j_get C dX5_judge_59 62 rfl hiX5 0 rfl rfl 5 (by decide) rfl kX5_judge_f29 rfl ?_
        refine j_iload_n C dX5_judge_62 63 rfl rfl 3 rfl ?_
        refine j_iconst (v := 3) C dX5_judge_63 64 rfl (by decide) ?_
        refine j_imul C dX5_judge_64 65 rfl ?_
        refine j_iconst (v := 1) C dX5_judge_65 66 rfl (by decide) ?_
        refine j_iadd C dX5_judge_66 67 rfl ?_
        refine j_iald C dX5_judge_67 68 rfl 1 rfl (ix3 h0 (by omega) (by decide)) (((x2 * 3) + 1)).toNatClampNeg rfl ?_
        refine j_aload_n C dX5_judge_68 69 rfl rfl 1 rfl ?_
        refine j_get C dX5_judge_69 72 rfl hiX5 0 rfl rfl 1 (by decide) rfl kX5_judge_f16 rfl ?_
        refine j_get C dX5_judge_72 75 rfl hiX4 11 rfl rfl 8 (by decide) rfl kX5_judge_f142 rfl ?_
        refine j_icmp_ne C dX5_judge_75 100 rfl 78 rfl (fun c8 => ?_) (fun c8 => ?_)
        · rw [if_neg c8] at hR
          refine j_iload_n C dX5_judge_100 101 rfl rfl 3 rfl ?_
          refine j_iconst (v := 1) C dX5_judge_101 102 rfl (by decide) ?_
          refine j_iadd C dX5_judge_102 103 rfl ?_
          exact Rt.ret (hRet _ hR) rfl dX5_judge_103
        · rw [if_pos c8] at hR
          refine j_aload_n C dX5_judge_78 79 rfl rfl 1 rfl ?_
          refine j_get C dX5_judge_79 82 rfl hiX5 0 rfl rfl 5 (by decide) rfl kX5_judge_f29 rfl ?_
          refine j_iload_n C dX5_judge_82 83 rfl rfl 3 rfl ?_
          refine j_iconst (v := 3) C dX5_judge_83 84 rfl (by decide) ?_
          refine j_imul C dX5_judge_84 85 rfl ?_
          refine j_iconst (v := 2) C dX5_judge_85 86 rfl (by decide) ?_
          refine j_iadd C dX5_judge_86 87 rfl ?_
          refine j_iald C dX5_judge_87 88 rfl 1 rfl (ix3 h0 (by omega) (by decide)) (((x2 * 3) + 2)).toNatClampNeg rfl ?_
          refine j_aload_n C dX5_judge_88 89 rfl rfl 1 rfl ?_
          refine j_get C dX5_judge_89 92 rfl hiX5 0 rfl rfl 1 (by decide) rfl kX5_judge_f16 rfl ?_
          refine j_get C dX5_judge_92 95 rfl hiX4 11 rfl rfl 5 (by decide) rfl kX5_judge_f118 rfl ?_
          refine j_iload_n C dX5_judge_95 96 rfl rfl 2 rfl ?_
          refine j_iald C dX5_judge_96 97 rfl 17 rfl (by assumption) (x1).toNatClampNeg rfl ?_
          refine j_icmp_eq C dX5_judge_97 104 rfl 100 rfl (fun c9 => ?_) (fun c9 => ?_)
          · rw [if_pos c9] at hR
            refine j_iinc (v := (x2 + 1)) C dX5_judge_104 107 rfl 3 rfl rfl (by decide) [(2, .int (x2 + 1)), (3, .int r6), (0, .ref (a 0)), (1, .int x1)] rfl ?_
            refine j_goto C dX5_judge_107 26 rfl ?_
            exact j_lv [2, 3, 0] [(0, .ref (a 0)), (1, .int x1), (2, .int (x2 + 1))] rfl (ih _ _ _ _ _ _ (by have := hs.2.2.1; omega) hs.1 hs.2.1 hR)
          · rw [if_neg c9] at hR
            refine j_iload_n C dX5_judge_100 101 rfl rfl 3 rfl ?_
            refine j_iconst (v := 1) C dX5_judge_101 102 rfl (by decide) ?_
            refine j_iadd C dX5_judge_102 103 rfl ?_
            exact Rt.ret (hRet _ hR) rfl dX5_judge_103
set_option maxHeartbeats 4000000 in
set_option maxRecDepth 100000 in
theorem c_X5_judge (τ : SX) (a : Nat → Nat) (rws : Nat → Int32) (isv : Int32) (rc : Int32) (nlw : Nat → Int32) (nkd : Nat → Int32) (nbt : Nat → Int32) (nph : Nat → Int32) (ncn : Nat → Int32) (nno : Nat → Int32) (nct : Int32) (nsc : Int32) (nrn : Int32) (nlg : Int32) (ndn : Int32) (nzz : Int32) (tlw : Nat → Int32) (tkd : Nat → Int32) (tbt : Nat → Int32) (tph : Nat → Int32) (tcn : Nat → Int32) (tno : Nat → Int32) (tct : Int32) (tsc : Int32) (trn : Int32) (tlg : Int32) (tdn : Int32) (tzz : Int32) (x1 : Int32) (hrc0 : 0 ≤ rc.toInt) (hrc : rc.toInt ≤ 10) (hn0 : 0 ≤ nct.toInt) (hn : nct.toInt ≤ 8) (sz : Nat) : McI τ yX5_judge wsX5_judge rmX5_judge .int [.ref (a 0), .int x1] ((wX τ a rws isv rc) ++ (wT τ (fun j => a (10 + j)) nlw nkd nbt nph ncn nno nct nsc nrn nlg ndn nzz) ++ (wT τ (fun j => a (20 + j)) tlw tkd tbt tph tcn tno tct tsc trn tlg tdn tzz)) (fun u : (Nat → Int32) × (Nat → Int32) × (Nat → Int32) × (Nat → Int32) × (Nat → Int32) × (Nat → Int32) × Int32 × Int32 × Int32 × Int32 × Int32 × Int32 => ((wX τ a rws isv rc) ++ (wT τ (fun j => a (10 + j)) nlw nkd nbt nph ncn nno nct nsc nrn nlg ndn nzz) ++ (wT τ (fun j => a (20 + j)) u.1 u.2.1 u.2.2.1 u.2.2.2.1 u.2.2.2.2.1 u.2.2.2.2.2.1 u.2.2.2.2.2.2.1 u.2.2.2.2.2.2.2.1 u.2.2.2.2.2.2.2.2.1 u.2.2.2.2.2.2.2.2.2.1 u.2.2.2.2.2.2.2.2.2.2.1 u.2.2.2.2.2.2.2.2.2.2.2))) (f_X5_judge rws rc nlw nkd nbt nph ncn nno nct nsc nrn nlg ndn nzz tlw tkd tbt tph tcn tno tct tsc trn tlg tdn tzz x1) sz := by
  refine mc_I (cc := cX5_judge) (own := RX5) [(0, .ref (a 0)), (1, .int x1)] rfl (by decide) rfl rfl (Nat.le_of_ble_eq_true rfl) (fun κ C hR => ?_)
  have hiX4 : ∀ w ∈ wsX40, w ∈ wsX5_judge := fun w h => List.mem_cons_of_mem _ (List.mem_append_right _ h)
  have hiX5 : ∀ w ∈ wsX50, w ∈ wsX5_judge := fun w h => List.mem_cons_of_mem _ (List.mem_append_left _ (List.mem_append_right _ h))
  unfold f_X5_judge at hR
  refine j_aload_n C dX5_judge_0 1 rfl rfl 0 rfl ?_
  refine j_get C dX5_judge_1 4 rfl hiX5 0 rfl rfl 0 (by decide) rfl kX5_judge_f10 rfl ?_
  refine j_iload_n C dX5_judge_4 5 rfl rfl 1 rfl ?_
  refine j_cvI (na := 1) C dX5_judge_5 8 rfl (c_X4_has τ (fun j => a (10 + j)) nlw nkd nbt nph ncn nno nct nsc nrn nlg ndn nzz x1 ) gX5_judge_X4_has rfl rfl rfl qd_X4_has rfl ⟨by decide, by decide⟩ ⟨by decide, by decide⟩ rfl (Nat.le_of_ble_eq_true rfl) [4, 5, 6, 7, 8, 9, 10] [0, 1, 2, 3, 11, 12, 13, 14, 15, 16, 17] [0, 1, 2, 3, 11, 12, 13, 14, 15, 16, 17, 4, 5, 6, 7, 8, 9, 10] ((wX τ a rws isv rc) ++ (wT τ (fun j => a (20 + j)) tlw tkd tbt tph tcn tno tct tsc trn tlg tdn tzz)) rfl (by decide) rfl (by decide) (by decide) 4 0 rfl rfl (fun u => ((wX τ a rws isv rc) ++ (wT τ (fun j => a (10 + j)) nlw nkd nbt nph ncn nno nct nsc nrn nlg ndn nzz) ++ (wT τ (fun j => a (20 + j)) tlw tkd tbt tph tcn tno tct tsc trn tlg tdn tzz))) (fun _ => rfl) (by decide) (fun r1 u1 hX1 hn1 => ?_)
  obtain rfl := (Prod.mk.inj hX1).1
  refine j_if_ne C dX5_judge_8 13 rfl 11 rfl (fun c2 => ?_) (fun c2 => ?_)
  · rw [if_neg c2] at hR
    refine j_aload_n C dX5_judge_13 14 rfl rfl 0 rfl ?_
    refine j_get C dX5_judge_14 17 rfl hiX5 0 rfl rfl 1 (by decide) rfl kX5_judge_f16 rfl ?_
    refine j_aload_n C dX5_judge_17 18 rfl rfl 0 rfl ?_
    refine j_get C dX5_judge_18 21 rfl hiX5 0 rfl rfl 0 (by decide) rfl kX5_judge_f10 rfl ?_
    refine j_cvV (na := 1) C dX5_judge_21 24 rfl (c_X4_copyFrom τ (fun j => a (20 + j)) (fun j => a (10 + j)) tlw tkd tbt tph tcn tno tct tsc trn tlg tdn tzz nlw nkd nbt nph ncn nno nct nsc nrn nlg ndn nzz ) gX5_judge_X4_copyFrom rfl rfl rfl qd_X4_copyFrom rfl ⟨by decide, by decide⟩ ⟨by decide, by decide⟩ rfl (Nat.le_of_ble_eq_true rfl) [11, 12, 13, 14, 15, 16, 17, 4, 5, 6, 7, 8, 9, 10] [0, 1, 2, 3] [0, 1, 2, 3, 11, 12, 13, 14, 15, 16, 17, 4, 5, 6, 7, 8, 9, 10] ((wX τ a rws isv rc)) rfl (by decide) rfl (by decide) (by decide) 4 0 rfl rfl (fun u => ((wX τ a rws isv rc) ++ (wT τ (fun j => a (10 + j)) nlw nkd nbt nph ncn nno nct nsc nrn nlg ndn nzz) ++ (wT τ (fun j => a (20 + j)) u.1 u.2.1 u.2.2.1 u.2.2.2.1 u.2.2.2.2.1 u.2.2.2.2.2.1 u.2.2.2.2.2.2.1 u.2.2.2.2.2.2.2.1 u.2.2.2.2.2.2.2.2.1 u.2.2.2.2.2.2.2.2.2.1 u.2.2.2.2.2.2.2.2.2.2.1 u.2.2.2.2.2.2.2.2.2.2.2))) (fun _ => rfl) (by decide) (fun u3 hX3 => ?_)
    obtain ⟨tlw_3, tkd_3, tbt_3, tph_3, tcn_3, tno_3, tct_3, tsc_3, trn_3, tlg_3, tdn_3, tzz_3⟩ := u3
    simp only [f_X4_copyFrom, Prod.mk.injEq] at hX3
    obtain ⟨rfl, rfl, rfl, rfl, rfl, rfl, rfl, rfl, rfl, rfl, rfl, rfl⟩ := hX3
    refine j_iconst (v := 0) C dX5_judge_24 25 rfl (by decide) ?_
    refine j_istore_n C dX5_judge_25 26 rfl rfl (by decide) [(2, .int 0), (0, .ref (a 0)), (1, .int x1)] rfl ?_
    refine j_lv [1, 2, 0] [(0, .ref (a 0)), (1, .int x1), (2, .int 0)] rfl (L_X5_judge_26 C a rws isv rc nlw nkd nbt nph ncn nno nct nsc nrn nlg ndn nzz (va_cpy nlw tlw 0 0 4) (va_cpy nkd tkd 0 0 8) (va_cpy nbt tbt 0 0 8) (va_cpy nph tph 0 0 8) (va_cpy ncn tcn 0 0 8) nct nzz x1 hrc0 hrc hn0 hn (hn) (in_has (by assumption) hn0 hn) (fun (o : (Int32 × (Nat → Int32) × Int32 × Int32 × Int32 × Int32) ⊕ (Int32 × (Nat → Int32) × (Nat → Int32) × (Nat → Int32) × (Nat → Int32) × (Nat → Int32) × (Nat → Int32) × Int32 × Int32 × Int32 × Int32 × Int32 × Int32)) => Rt τ κ cX5_judge .int (fun u : (Nat → Int32) × (Nat → Int32) × (Nat → Int32) × (Nat → Int32) × (Nat → Int32) × (Nat → Int32) × Int32 × Int32 × Int32 × Int32 × Int32 × Int32 => ((wX τ a rws isv rc) ++ (wT τ (fun j => a (10 + j)) nlw nkd nbt nph ncn nno nct nsc nrn nlg ndn nzz) ++ (wT τ (fun j => a (20 + j)) u.1 u.2.1 u.2.2.1 u.2.2.2.1 u.2.2.2.2.1 u.2.2.2.2.2.1 u.2.2.2.2.2.2.1 u.2.2.2.2.2.2.2.1 u.2.2.2.2.2.2.2.2.1 u.2.2.2.2.2.2.2.2.2.1 u.2.2.2.2.2.2.2.2.2.2.1 u.2.2.2.2.2.2.2.2.2.2.2))) (sm o (fun (z : Int32 × (Nat → Int32) × Int32 × Int32 × Int32 × Int32) => pr6 z (fun x2_4 tno_4 tsc_4 trn_4 tlg_4 tdn_4 => ((0 : Int32), (va_cpy nlw tlw 0 0 4), (va_cpy nkd tkd 0 0 8), (va_cpy nbt tbt 0 0 8), (va_cpy nph tph 0 0 8), (va_cpy ncn tcn 0 0 8), tno_4, nct, tsc_4, trn_4, tlg_4, tdn_4, nzz))) (fun X => X))) (fun x2_4 tno_4 tsc_4 trn_4 tlg_4 tdn_4  hR => ?_) (fun X hR => by rw [sm_inr] at hR; exact hR) 300 (0 : Int32) (va_cpy nno tno 0 0 8) nsc nrn nlg ndn (by decide) (by decide) (by decide) hR)
    rw [sm_inl, pr6_mk x2_4 tno_4 tsc_4 trn_4 tlg_4 tdn_4] at hR
    refine j_iconst (v := 0) C dX5_judge_110 111 rfl (by decide) ?_
    exact Rt.ret (hR) rfl dX5_judge_111
  · rw [if_pos c2] at hR
    refine j_iconst (v := (-1)) C dX5_judge_11 12 rfl (by decide) ?_
    exact Rt.ret (hR) rfl dX5_judge_12

-- X5_greatestDivisor
def l_X5_greatestDivisor_3  : Nat → Int64 → Int64 → Int32 → Int64 × Int64 × Int32
  | 0, x0, x2, x4 => (x0, x2, x4)
  | N + 1, x0, x2, x4 => if (200 ≤ x4) then (x0, x2, x4) else (if ((lg_cmp x2 0) = 0) then (x0, x2, x4) else (l_X5_greatestDivisor_3 N x2 (x0 - x0 / x2 * x2) (x4 + 1)))
def f_X5_greatestDivisor (x0 : Int64) (x2 : Int64) : Int64 := pr3 (l_X5_greatestDivisor_3 300 x0 x2 (0 : Int32)) (fun x0_1 x2_1 x4_1 => x0_1)
theorem qd_X5_greatestDivisor : yX5_greatestDivisor.cls ≠ "java/lang/invoke/MethodHandle" ∧ yX5_greatestDivisor.cls ≠ "java/lang/invoke/VarHandle" ∧ (parseMethodDescriptor yX5_greatestDivisor.desc).map (fun d => d.parameters.length) = some 2 := by decide +kernel
abbrev rmX5_greatestDivisor : Room := { frames := 0, cells := 0, slots := 0, locals := 0 }
set_option maxHeartbeats 4000000 in
set_option maxRecDepth 100000 in
theorem L_X5_greatestDivisor_3 {τ : SX} {κ : KX} (C : Cx τ κ cX5_greatestDivisor RX5 wsX5_greatestDivisor rmX5_greatestDivisor 7) (Φ : Int64 × Int64 × Int32 → Prop) (hE : ∀ (x0 : Int64) (x2 : Int64) (x4 : Int32), Φ (x0, x2, x4) → J τ κ 0 0 [] [(0, .long x0), (2, .long x2), (4, .int x4)] 33 []) : ∀ (N : Nat) (x0 : Int64) (x2 : Int64) (x4 : Int32), ((200 : Int) - x4.toInt).toNat < N → (0 ≤ x4.toInt) → (x4.toInt ≤ 200) → Φ (l_X5_greatestDivisor_3 N x0 x2 x4) → J τ κ 0 0 [] [(0, .long x0), (2, .long x2), (4, .int x4)] 3 [] := by
  intro N
  induction N with
  | zero => intro x0 x2 x4 hm; exact absurd hm (Nat.not_lt_zero _)
  | succ N ih =>
    intro x0 x2 x4 hm h0 h1 hR
    rw [l_X5_greatestDivisor_3] at hR
    refine j_iload C dX5_greatestDivisor_3 5 rfl 2 rfl ?_
    refine j_sipush (v := 200) C dX5_greatestDivisor_5 8 rfl (by decide) ?_
    refine j_icmp_ge C dX5_greatestDivisor_8 33 rfl 11 rfl (fun c2 => ?_) (fun c2 => ?_)
    · rw [if_pos c2] at hR
      exact j_lv [0, 1, 2] [(0, .long x0), (2, .long x2), (4, .int x4)] rfl (hE _ _ _  hR)
    · rw [if_neg c2] at hR
      have hs := cnt_step (B := 200) h0 (by decide) (by decide) c2
      refine j_lload_n C dX5_greatestDivisor_11 12 rfl rfl 1 rfl ?_
      refine j_lconst (v := 0) C dX5_greatestDivisor_12 13 rfl (by decide) ?_
      refine j_lcmp C dX5_greatestDivisor_13 14 rfl ?_
      refine j_if_eq C dX5_greatestDivisor_14 33 rfl 17 rfl (fun c3 => ?_) (fun c3 => ?_)
      · rw [if_pos c3] at hR
        exact j_lv [0, 1, 2] [(0, .long x0), (2, .long x2), (4, .int x4)] rfl (hE _ _ _  hR)
      · rw [if_neg c3] at hR
        refine j_lload_n C dX5_greatestDivisor_17 18 rfl rfl 0 rfl ?_
        refine j_lload_n C dX5_greatestDivisor_18 19 rfl rfl 1 rfl ?_
        refine j_lrem C dX5_greatestDivisor_19 20 rfl (lc_ne (by assumption)) ?_
        refine j_lstore C dX5_greatestDivisor_20 22 rfl (by decide) [(5, .long (x0 - x0 / x2 * x2)), (0, .long x0), (2, .long x2), (4, .int x4)] rfl ?_
        refine j_lload_n C dX5_greatestDivisor_22 23 rfl rfl 2 rfl ?_
        refine j_lstore_n C dX5_greatestDivisor_23 24 rfl rfl (by decide) [(0, .long x2), (5, .long (x0 - x0 / x2 * x2)), (2, .long x2), (4, .int x4)] rfl ?_
        refine j_lload C dX5_greatestDivisor_24 26 rfl 1 rfl ?_
        refine j_lstore_n C dX5_greatestDivisor_26 27 rfl rfl (by decide) [(2, .long (x0 - x0 / x2 * x2)), (0, .long x2), (5, .long (x0 - x0 / x2 * x2)), (4, .int x4)] rfl ?_
        refine j_iinc (v := (x4 + 1)) C dX5_greatestDivisor_27 30 rfl 3 rfl rfl (by decide) [(4, .int (x4 + 1)), (2, .long (x0 - x0 / x2 * x2)), (0, .long x2), (5, .long (x0 - x0 / x2 * x2))] rfl ?_
        refine j_goto C dX5_greatestDivisor_30 3 rfl ?_
        exact j_lv [2, 1, 0] [(0, .long x2), (2, .long (x0 - x0 / x2 * x2)), (4, .int (x4 + 1))] rfl (ih _ _ _ (by have := hs.2.2.1; omega) hs.1 hs.2.1 hR)
set_option maxHeartbeats 4000000 in
set_option maxRecDepth 100000 in
theorem c_X5_greatestDivisor (τ : SX) (x0 : Int64) (x2 : Int64) (sz : Nat) : McL τ yX5_greatestDivisor wsX5_greatestDivisor rmX5_greatestDivisor [.long x0, .long x2] [] (fun _ : Unit => []) (f_X5_greatestDivisor x0 x2, ()) sz := by
  refine mc_L (cc := cX5_greatestDivisor) (own := RX5) [(0, .long x0), (2, .long x2)] rfl (by decide) rfl rfl (Nat.le_of_ble_eq_true rfl) (fun κ C hR => ?_)
  unfold f_X5_greatestDivisor at hR
  refine j_iconst (v := 0) C dX5_greatestDivisor_0 1 rfl (by decide) ?_
  refine j_istore C dX5_greatestDivisor_1 3 rfl (by decide) [(4, .int 0), (0, .long x0), (2, .long x2)] rfl ?_
  refine j_lv [1, 2, 0] [(0, .long x0), (2, .long x2), (4, .int 0)] rfl (L_X5_greatestDivisor_3 C     (fun (o : Int64 × Int64 × Int32) => RtL τ κ cX5_greatestDivisor (fun _ : Unit => []) ((pr3 o (fun x0_1 x2_1 x4_1 => x0_1), ()))) (fun x0_1 x2_1 x4_1  hR => ?_) 300 x0 x2 (0 : Int32) (by decide) (by decide) (by decide) hR)
  rw [pr3_mk x0_1 x2_1 x4_1] at hR
  refine j_lload_n C dX5_greatestDivisor_33 34 rfl rfl 0 rfl ?_
  exact RtL.ret (hR) dX5_greatestDivisor_34

-- X5_partOf
def f_X5_partOf (x0 : Int64) (x2 : Int64) (x4 : Int32) : Int64 := pr1 (if (x4 = 0) then x0 else x2) (fun j9_0 => if ((lg_cmp (f_X5_greatestDivisor x0 x2) 0) = 0) then j9_0 else (j9_0 / (f_X5_greatestDivisor x0 x2)))
theorem kX5_partOf_iRX5 : Cond.initialized yX5_greatestDivisor.cls ∈ wsX5_partOf := by decide +kernel
theorem kX5_partOf_sX5_greatestDivisor : Cond.static yX5_greatestDivisor ∈ wsX5_partOf := by decide +kernel
theorem kX5_partOf_m219 : Cond.methodLink RX5 219 yX5_greatestDivisor ∈ wsX5_partOf := by decide +kernel
theorem qd_X5_partOf : yX5_partOf.cls ≠ "java/lang/invoke/MethodHandle" ∧ yX5_partOf.cls ≠ "java/lang/invoke/VarHandle" ∧ (parseMethodDescriptor yX5_partOf.desc).map (fun d => d.parameters.length) = some 3 := by decide +kernel
abbrev rmX5_partOf : Room := { frames := 1, cells := 0, slots := 0, locals := 26 }
set_option maxHeartbeats 4000000 in
set_option maxRecDepth 100000 in
theorem c_X5_partOf (τ : SX) (x0 : Int64) (x2 : Int64) (x4 : Int32) (sz : Nat) : McL τ yX5_partOf wsX5_partOf rmX5_partOf [.long x0, .long x2, .int x4] [] (fun _ : Unit => []) (f_X5_partOf x0 x2 x4, ()) sz := by
  refine mc_L (cc := cX5_partOf) (own := RX5) [(0, .long x0), (2, .long x2), (4, .int x4)] rfl (by decide) rfl rfl (Nat.le_of_ble_eq_true rfl) (fun κ C hR => ?_)
  unfold f_X5_partOf at hR
  refine j_lload_n C dX5_partOf_0 1 rfl rfl 0 rfl ?_
  refine j_lload_n C dX5_partOf_1 2 rfl rfl 1 rfl ?_
  refine j_cs0L (na := 2) C dX5_partOf_2 5 rfl (c_X5_greatestDivisor τ  x0 x2 ) rfl ggX5_partOf_X5_greatestDivisor rfl rfl rfl kX5_partOf_iRX5 kX5_partOf_m219 kX5_partOf_sX5_greatestDivisor qd_X5_greatestDivisor rfl ⟨by decide, by decide⟩ ⟨by decide, by decide⟩ rfl (Nat.le_of_ble_eq_true rfl) (fun r1 u1 hX1 => ?_)
  obtain rfl := (Prod.mk.inj hX1).1
  refine j_lstore C dX5_partOf_5 7 rfl (by decide) [(5, .long (f_X5_greatestDivisor x0 x2)), (0, .long x0), (2, .long x2), (4, .int x4)] rfl ?_
  refine j_iload C dX5_partOf_7 9 rfl 3 rfl ?_
  have J9 : ∀ (j9_0 : Int64), RtL τ κ cX5_partOf (fun _ : Unit => []) ((if ((lg_cmp (f_X5_greatestDivisor x0 x2) 0) = 0) then j9_0 else (j9_0 / (f_X5_greatestDivisor x0 x2)), ())) → J τ κ 0 0 [] [(0, .long x0), (2, .long x2), (4, .int x4), (5, .long (f_X5_greatestDivisor x0 x2))] 17 [.long j9_0] := by
    intro j9_0  hR
    refine j_lstore C dX5_partOf_17 19 rfl (by decide) [(7, .long j9_0), (0, .long x0), (2, .long x2), (4, .int x4), (5, .long (f_X5_greatestDivisor x0 x2))] rfl ?_
    refine j_lload C dX5_partOf_19 21 rfl 4 rfl ?_
    refine j_lconst (v := 0) C dX5_partOf_21 22 rfl (by decide) ?_
    refine j_lcmp C dX5_partOf_22 23 rfl ?_
    refine j_if_ne C dX5_partOf_23 31 rfl 26 rfl (fun c3 => ?_) (fun c3 => ?_)
    · rw [if_neg c3] at hR
      refine j_lload C dX5_partOf_31 33 rfl 0 rfl ?_
      refine j_lload C dX5_partOf_33 35 rfl 4 rfl ?_
      refine j_ldiv C dX5_partOf_35 36 rfl (lc_ne (by assumption)) ?_
      exact RtL.ret (hR) dX5_partOf_36
    · rw [if_pos c3] at hR
      refine j_lload C dX5_partOf_26 28 rfl 0 rfl ?_
      refine j_goto C dX5_partOf_28 36 rfl ?_
      exact RtL.ret (hR) dX5_partOf_36
  refine j_if_ne C dX5_partOf_9 16 rfl 12 rfl (fun c2 => ?_) (fun c2 => ?_)
  · rw [if_neg c2] at hR
    refine j_lload_n C dX5_partOf_16 17 rfl rfl 2 rfl ?_
    rw [pr1_mk x2] at hR
    exact j_lv [1, 2, 3, 0] [(0, .long x0), (2, .long x2), (4, .int x4), (5, .long (f_X5_greatestDivisor x0 x2))] rfl (J9 _  hR)
  · rw [if_pos c2] at hR
    refine j_lload_n C dX5_partOf_12 13 rfl rfl 1 rfl ?_
    refine j_goto C dX5_partOf_13 17 rfl ?_
    rw [pr1_mk x0] at hR
    exact j_lv [1, 2, 3, 0] [(0, .long x0), (2, .long x2), (4, .int x4), (5, .long (f_X5_greatestDivisor x0 x2))] rfl (J9 _  hR)

theorem odds_n {x : Int32} (c : ¬ f_X5_isIn x 0 8 = 0) : x.toInt ≤ 8 := (in_isIn c).2
theorem odds_k {x y : Int32} (c : ¬ f_X5_isIn x 0 8 = 0) (d : ¬ f_X5_isIn y 0 x = 0) : y.toInt ≤ 8 := Int.le_trans (in_isIn d).2 (in_isIn c).2
-- X5_odds main now
def l_X5_odds_41 (x1 : Int32) (x2 : Int32) : Nat → Int64 → Int32 → Int64 × Int32
  | 0, x4, x8 => (x4, x8)
  | N + 1, x4, x8 => if (x2 < x8) then (x4, x8) else (l_X5_odds_41 x1 x2 N ((x4 * ((((x1 - x2) + x8) : Int32).toInt64)) / ((x8 : Int32).toInt64)) (x8 + 1))
def l_X5_odds_72 (nlw : Nat → Int32) (x1 : Int32) (x2 : Int32) : Nat → Int64 → Int64 → Int32 → Int64 × Int64 × Int32
  | 0, x4, x6, x8 => (x4, x6, x8)
  | N + 1, x4, x6, x8 => if (x1 ≤ x8) then (x4, x6, x8) else (pr1 (if (x2 ≤ x8) then ((((100 : Int32) - (nlw 3)) : Int32).toInt64) else (((nlw 3) : Int32).toInt64)) (fun j83_0 => l_X5_odds_72 nlw x1 x2 N (x4 * j83_0) (x6 * 100) (x8 + 1)))
def f_X5_odds (nlw : Nat → Int32) (x1 : Int32) (x2 : Int32) (x3 : Int32) : Int64 := if ((f_X5_isIn x1 (0 : Int32) (8 : Int32)) = 0) then ((-1) : Int64) else (if ((f_X5_isIn x2 (0 : Int32) x1) = 0) then ((-1) : Int64) else (if ((f_X5_isIn x3 (0 : Int32) (1 : Int32)) = 0) then ((-1) : Int64) else (pr2 (l_X5_odds_41 x1 x2 300 (1 : Int64) (1 : Int32)) (fun x4_7 x8_7 => pr3 (l_X5_odds_72 nlw x1 x2 300 x4_7 (1 : Int64) (0 : Int32)) (fun x4_9 x6_9 x8_9 => (f_X5_partOf x4_9 x6_9 x3))))))
theorem kX5_odds_iRX5 : Cond.initialized yX5_partOf.cls ∈ wsX5_odds := by decide +kernel
theorem kX5_odds_sX5_isIn : Cond.static yX5_isIn ∈ wsX5_odds := by decide +kernel
theorem kX5_odds_m79 : Cond.methodLink RX5 79 yX5_isIn ∈ wsX5_odds := by decide +kernel
theorem kX5_odds_c211 : Cond.constantLong RX5 211 (-1) ∈ wsX5_odds := by decide +kernel
theorem kX5_odds_f10 : Cond.fieldLink RX5 10 "TwoMinutes" "now" "LTwoMinutes$Town;" ∈ wsX5_odds := by decide +kernel
theorem kX5_odds_f89 : Cond.fieldLink RX5 89 "TwoMinutes$Town" "laws" "[I" ∈ wsX5_odds := by decide +kernel
theorem kX5_odds_c213 : Cond.constantLong RX5 213 100 ∈ wsX5_odds := by decide +kernel
theorem kX5_odds_sX5_partOf : Cond.static yX5_partOf ∈ wsX5_odds := by decide +kernel
theorem kX5_odds_m215 : Cond.methodLink RX5 215 yX5_partOf ∈ wsX5_odds := by decide +kernel
theorem qd_X5_odds : yX5_odds.cls = RX5 ∧ yX5_odds.cls ≠ "java/lang/invoke/MethodHandle" ∧ yX5_odds.cls ≠ "java/lang/invoke/VarHandle" ∧ (parseMethodDescriptor yX5_odds.desc).map (fun d => d.parameters.length) = some 3 := by decide +kernel
abbrev rmX5_odds : Room := { frames := 2, cells := 0, slots := 0, locals := 54 }
set_option maxHeartbeats 4000000 in
set_option maxRecDepth 100000 in
theorem L_X5_odds_41 {τ : SX} {κ : KX} (C : Cx τ κ cX5_odds RX5 wsX5_odds rmX5_odds 9) (a : Nat → Nat) (rws : Nat → Int32) (isv : Int32) (rc : Int32) (nlw : Nat → Int32) (nkd : Nat → Int32) (nbt : Nat → Int32) (nph : Nat → Int32) (ncn : Nat → Int32) (nno : Nat → Int32) (nct : Int32) (nsc : Int32) (nrn : Int32) (nlg : Int32) (ndn : Int32) (nzz : Int32) (x1 : Int32) (x2 : Int32) (x3 : Int32) (x6 : Int64) (hrc0 : 0 ≤ rc.toInt) (hrc : rc.toInt ≤ 10) (hn0 : 0 ≤ nct.toInt) (hn : nct.toInt ≤ 8) (hk : x2.toInt ≤ 8) (Φ : Int64 × Int32 → Prop) (hE : ∀ (x4 : Int64) (x8 : Int32), Φ (x4, x8) → J τ κ 0 0 ((wX τ a rws isv rc) ++ (wT τ (fun j => a (10 + j)) nlw nkd nbt nph ncn nno nct nsc nrn nlg ndn nzz)) [(0, .ref (a 0)), (1, .int x1), (2, .int x2), (3, .int x3), (4, .long x4), (6, .long x6), (8, .int x8)] 69 []) : ∀ (N : Nat) (x4 : Int64) (x8 : Int32), ((9 : Int) - x8.toInt).toNat < N → (1 ≤ x8.toInt) → (x8.toInt ≤ 9) → Φ (l_X5_odds_41 x1 x2 N x4 x8) → J τ κ 0 0 ((wX τ a rws isv rc) ++ (wT τ (fun j => a (10 + j)) nlw nkd nbt nph ncn nno nct nsc nrn nlg ndn nzz)) [(0, .ref (a 0)), (1, .int x1), (2, .int x2), (3, .int x3), (4, .long x4), (6, .long x6), (8, .int x8)] 41 [] := by
  have hiX4 : ∀ w ∈ wsX40, w ∈ wsX5_odds := fun w h => List.mem_cons_of_mem _ (List.mem_append_right _ h)
  have hiX5 : ∀ w ∈ wsX50, w ∈ wsX5_odds := fun w h => List.mem_cons_of_mem _ (List.mem_append_left _ (List.mem_append_right _ h))
  intro N
  induction N with
  | zero => intro x4 x8 hm; exact absurd hm (Nat.not_lt_zero _)
  | succ N ih =>
    intro x4 x8 hm h0 h1 hR
    rw [l_X5_odds_41] at hR
    refine j_iload C dX5_odds_41 43 rfl 6 rfl ?_
    refine j_iload_n C dX5_odds_43 44 rfl rfl 2 rfl ?_
    refine j_icmp_gt C dX5_odds_44 69 rfl 47 rfl (fun c8 => ?_) (fun c8 => ?_)
    · rw [if_pos c8] at hR
      exact j_lv [0, 1, 2, 3, 4, 5, 6] [(0, .ref (a 0)), (1, .int x1), (2, .int x2), (3, .int x3), (4, .long x4), (6, .long x6), (8, .int x8)] rfl (hE _ _  hR)
    · rw [if_neg c8] at hR
      have hs := cnt_stepL (B := 9) (i := x8) (b := x2) (by omega) (by omega) (by decide) c8
      have hs2 := i32_add1 (i := x8) (by omega)
      refine j_lload C dX5_odds_47 49 rfl 4 rfl ?_
      refine j_iload_n C dX5_odds_49 50 rfl rfl 1 rfl ?_
      refine j_iload_n C dX5_odds_50 51 rfl rfl 2 rfl ?_
      refine j_isub C dX5_odds_51 52 rfl ?_
      refine j_iload C dX5_odds_52 54 rfl 6 rfl ?_
      refine j_iadd C dX5_odds_54 55 rfl ?_
      refine j_i2l C dX5_odds_55 56 rfl ?_
      refine j_lmul C dX5_odds_56 57 rfl ?_
      refine j_iload C dX5_odds_57 59 rfl 6 rfl ?_
      refine j_i2l C dX5_odds_59 60 rfl ?_
      refine j_ldiv C dX5_odds_60 61 rfl (i64_ne (by omega)) ?_
      refine j_lstore C dX5_odds_61 63 rfl (by decide) [(4, .long ((x4 * ((((x1 - x2) + x8) : Int32).toInt64)) / ((x8 : Int32).toInt64))), (0, .ref (a 0)), (1, .int x1), (2, .int x2), (3, .int x3), (6, .long x6), (8, .int x8)] rfl ?_
      refine j_iinc (v := (x8 + 1)) C dX5_odds_63 66 rfl 6 rfl rfl (by decide) [(8, .int (x8 + 1)), (4, .long ((x4 * ((((x1 - x2) + x8) : Int32).toInt64)) / ((x8 : Int32).toInt64))), (0, .ref (a 0)), (1, .int x1), (2, .int x2), (3, .int x3), (6, .long x6)] rfl ?_
      refine j_goto C dX5_odds_66 41 rfl ?_
      exact j_lv [2, 3, 4, 5, 1, 6, 0] [(0, .ref (a 0)), (1, .int x1), (2, .int x2), (3, .int x3), (4, .long ((x4 * ((((x1 - x2) + x8) : Int32).toInt64)) / ((x8 : Int32).toInt64))), (6, .long x6), (8, .int (x8 + 1))] rfl (ih _ _ (by have := hs.2.2.1; omega) (by omega) hs.2.1 hR)
set_option maxHeartbeats 4000000 in
set_option maxRecDepth 100000 in
theorem L_X5_odds_72 {τ : SX} {κ : KX} (C : Cx τ κ cX5_odds RX5 wsX5_odds rmX5_odds 9) (a : Nat → Nat) (rws : Nat → Int32) (isv : Int32) (rc : Int32) (nlw : Nat → Int32) (nkd : Nat → Int32) (nbt : Nat → Int32) (nph : Nat → Int32) (ncn : Nat → Int32) (nno : Nat → Int32) (nct : Int32) (nsc : Int32) (nrn : Int32) (nlg : Int32) (ndn : Int32) (nzz : Int32) (x1 : Int32) (x2 : Int32) (x3 : Int32) (hrc0 : 0 ≤ rc.toInt) (hrc : rc.toInt ≤ 10) (hn0 : 0 ≤ nct.toInt) (hn : nct.toInt ≤ 8) (hx : x1.toInt ≤ 8) (Φ : Int64 × Int64 × Int32 → Prop) (hE : ∀ (x4 : Int64) (x6 : Int64) (x8 : Int32), Φ (x4, x6, x8) → J τ κ 0 0 ((wX τ a rws isv rc) ++ (wT τ (fun j => a (10 + j)) nlw nkd nbt nph ncn nno nct nsc nrn nlg ndn nzz)) [(0, .ref (a 0)), (1, .int x1), (2, .int x2), (3, .int x3), (4, .long x4), (6, .long x6), (8, .int x8)] 129 []) : ∀ (N : Nat) (x4 : Int64) (x6 : Int64) (x8 : Int32), ((8 : Int) - x8.toInt).toNat < N → (0 ≤ x8.toInt) → (x8.toInt ≤ 8) → Φ (l_X5_odds_72 nlw x1 x2 N x4 x6 x8) → J τ κ 0 0 ((wX τ a rws isv rc) ++ (wT τ (fun j => a (10 + j)) nlw nkd nbt nph ncn nno nct nsc nrn nlg ndn nzz)) [(0, .ref (a 0)), (1, .int x1), (2, .int x2), (3, .int x3), (4, .long x4), (6, .long x6), (8, .int x8)] 72 [] := by
  have hiX4 : ∀ w ∈ wsX40, w ∈ wsX5_odds := fun w h => List.mem_cons_of_mem _ (List.mem_append_right _ h)
  have hiX5 : ∀ w ∈ wsX50, w ∈ wsX5_odds := fun w h => List.mem_cons_of_mem _ (List.mem_append_left _ (List.mem_append_right _ h))
  intro N
  induction N with
  | zero => intro x4 x6 x8 hm; exact absurd hm (Nat.not_lt_zero _)
  | succ N ih =>
    intro x4 x6 x8 hm h0 h1 hR
    rw [l_X5_odds_72] at hR
    refine j_iload C dX5_odds_72 74 rfl 6 rfl ?_
    refine j_iload_n C dX5_odds_74 75 rfl rfl 1 rfl ?_
    refine j_icmp_ge C dX5_odds_75 129 rfl 78 rfl (fun c10 => ?_) (fun c10 => ?_)
    · rw [if_pos c10] at hR
      exact j_lv [0, 1, 2, 3, 4, 5, 6] [(0, .ref (a 0)), (1, .int x1), (2, .int x2), (3, .int x3), (4, .long x4), (6, .long x6), (8, .int x8)] rfl (hE _ _ _  hR)
    · rw [if_neg c10] at hR
      have hs := cnt_step (B := 8) h0 (hx) (by decide) c10
      refine j_lload C dX5_odds_78 80 rfl 4 rfl ?_
      refine j_iload C dX5_odds_80 82 rfl 6 rfl ?_
      refine j_iload_n C dX5_odds_82 83 rfl rfl 2 rfl ?_
      have J83 : ∀ (j83_0 : Int64), Φ (l_X5_odds_72 nlw x1 x2 N (x4 * j83_0) (x6 * 100) (x8 + 1)) → J τ κ 0 0 ((wX τ a rws isv rc) ++ (wT τ (fun j => a (10 + j)) nlw nkd nbt nph ncn nno nct nsc nrn nlg ndn nzz)) [(0, .ref (a 0)), (1, .int x1), (2, .int x2), (3, .int x3), (4, .long x4), (6, .long x6), (8, .int x8)] 112 [.long j83_0, .long x4] := by
        intro j83_0  hR
        refine j_lmul C dX5_odds_112 113 rfl ?_
        refine j_lstore C dX5_odds_113 115 rfl (by decide) [(4, .long (x4 * j83_0)), (0, .ref (a 0)), (1, .int x1), (2, .int x2), (3, .int x3), (6, .long x6), (8, .int x8)] rfl ?_
        refine j_lload C dX5_odds_115 117 rfl 5 rfl ?_
        refine j_ldc2 C dX5_odds_117 120 rfl kX5_odds_c213 ?_
        refine j_lmul C dX5_odds_120 121 rfl ?_
        refine j_lstore C dX5_odds_121 123 rfl (by decide) [(6, .long (x6 * 100)), (4, .long (x4 * j83_0)), (0, .ref (a 0)), (1, .int x1), (2, .int x2), (3, .int x3), (8, .int x8)] rfl ?_
        refine j_iinc (v := (x8 + 1)) C dX5_odds_123 126 rfl 6 rfl rfl (by decide) [(8, .int (x8 + 1)), (6, .long (x6 * 100)), (4, .long (x4 * j83_0)), (0, .ref (a 0)), (1, .int x1), (2, .int x2), (3, .int x3)] rfl ?_
        refine j_goto C dX5_odds_126 72 rfl ?_
        exact j_lv [3, 4, 5, 6, 2, 1, 0] [(0, .ref (a 0)), (1, .int x1), (2, .int x2), (3, .int x3), (4, .long (x4 * j83_0)), (6, .long (x6 * 100)), (8, .int (x8 + 1))] rfl (ih _ _ _ (by have := hs.2.2.1; omega) hs.1 hs.2.1 hR)
      refine j_icmp_ge C dX5_odds_83 99 rfl 86 rfl (fun c11 => ?_) (fun c11 => ?_)
      · rw [if_pos c11] at hR
        refine j_bipush (v := 100) C dX5_odds_99 101 rfl (by decide) ?_
        refine j_aload_n C dX5_odds_101 102 rfl rfl 0 rfl ?_
        refine j_get C dX5_odds_102 105 rfl hiX5 0 rfl rfl 0 (by decide) rfl kX5_odds_f10 rfl ?_
        refine j_get C dX5_odds_105 108 rfl hiX4 4 rfl rfl 0 (by decide) rfl kX5_odds_f89 rfl ?_
        refine j_iconst (v := 3) C dX5_odds_108 109 rfl (by decide) ?_
        refine j_iald C dX5_odds_109 110 rfl 5 rfl (by unfold vp_in; decide) 3 rfl ?_
        refine j_isub C dX5_odds_110 111 rfl ?_
        refine j_i2l C dX5_odds_111 112 rfl ?_
        rw [pr1_mk ((((100 : Int32) - (nlw 3)) : Int32).toInt64)] at hR
        exact j_lv [0, 1, 2, 3, 4, 5, 6] [(0, .ref (a 0)), (1, .int x1), (2, .int x2), (3, .int x3), (4, .long x4), (6, .long x6), (8, .int x8)] rfl (J83 _  hR)
      · rw [if_neg c11] at hR
        refine j_aload_n C dX5_odds_86 87 rfl rfl 0 rfl ?_
        refine j_get C dX5_odds_87 90 rfl hiX5 0 rfl rfl 0 (by decide) rfl kX5_odds_f10 rfl ?_
        refine j_get C dX5_odds_90 93 rfl hiX4 4 rfl rfl 0 (by decide) rfl kX5_odds_f89 rfl ?_
        refine j_iconst (v := 3) C dX5_odds_93 94 rfl (by decide) ?_
        refine j_iald C dX5_odds_94 95 rfl 5 rfl (by unfold vp_in; decide) 3 rfl ?_
        refine j_i2l C dX5_odds_95 96 rfl ?_
        refine j_goto C dX5_odds_96 112 rfl ?_
        rw [pr1_mk (((nlw 3) : Int32).toInt64)] at hR
        exact j_lv [0, 1, 2, 3, 4, 5, 6] [(0, .ref (a 0)), (1, .int x1), (2, .int x2), (3, .int x3), (4, .long x4), (6, .long x6), (8, .int x8)] rfl (J83 _  hR)
set_option maxHeartbeats 4000000 in
set_option maxRecDepth 100000 in
theorem c_X5_odds (τ : SX) (a : Nat → Nat) (rws : Nat → Int32) (isv : Int32) (rc : Int32) (nlw : Nat → Int32) (nkd : Nat → Int32) (nbt : Nat → Int32) (nph : Nat → Int32) (ncn : Nat → Int32) (nno : Nat → Int32) (nct : Int32) (nsc : Int32) (nrn : Int32) (nlg : Int32) (ndn : Int32) (nzz : Int32) (x1 : Int32) (x2 : Int32) (x3 : Int32) (hrc0 : 0 ≤ rc.toInt) (hrc : rc.toInt ≤ 10) (hn0 : 0 ≤ nct.toInt) (hn : nct.toInt ≤ 8) (sz : Nat) : McL τ yX5_odds wsX5_odds rmX5_odds [.ref (a 0), .int x1, .int x2, .int x3] ((wX τ a rws isv rc) ++ (wT τ (fun j => a (10 + j)) nlw nkd nbt nph ncn nno nct nsc nrn nlg ndn nzz)) (fun _ : Unit => ((wX τ a rws isv rc) ++ (wT τ (fun j => a (10 + j)) nlw nkd nbt nph ncn nno nct nsc nrn nlg ndn nzz))) (f_X5_odds nlw x1 x2 x3, ()) sz := by
  refine mc_L (cc := cX5_odds) (own := RX5) [(0, .ref (a 0)), (1, .int x1), (2, .int x2), (3, .int x3)] rfl (by decide) rfl rfl (Nat.le_of_ble_eq_true rfl) (fun κ C hR => ?_)
  have hiX4 : ∀ w ∈ wsX40, w ∈ wsX5_odds := fun w h => List.mem_cons_of_mem _ (List.mem_append_right _ h)
  have hiX5 : ∀ w ∈ wsX50, w ∈ wsX5_odds := fun w h => List.mem_cons_of_mem _ (List.mem_append_left _ (List.mem_append_right _ h))
  unfold f_X5_odds at hR
  refine j_iload_n C dX5_odds_0 1 rfl rfl 1 rfl ?_
  refine j_iconst (v := 0) C dX5_odds_1 2 rfl (by decide) ?_
  refine j_bipush (v := 8) C dX5_odds_2 4 rfl (by decide) ?_
  refine j_cs0I (na := 3) C dX5_odds_4 7 rfl (c_X5_isIn τ  x1 (0 : Int32) (8 : Int32) ) rfl ggX5_odds_X5_isIn rfl rfl rfl kX5_odds_iRX5 kX5_odds_m79 kX5_odds_sX5_isIn qd_X5_isIn rfl ⟨by decide, by decide⟩ ⟨by decide, by decide⟩ rfl (Nat.le_of_ble_eq_true rfl) (fun r1 u1 hX1 hn1 => ?_)
  obtain rfl := (Prod.mk.inj hX1).1
  refine j_if_eq C dX5_odds_7 28 rfl 10 rfl (fun c2 => ?_) (fun c2 => ?_)
  · rw [if_pos c2] at hR
    refine j_ldc2 C dX5_odds_28 31 rfl kX5_odds_c211 ?_
    exact RtL.ret (hR) dX5_odds_31
  · rw [if_neg c2] at hR
    refine j_iload_n C dX5_odds_10 11 rfl rfl 2 rfl ?_
    refine j_iconst (v := 0) C dX5_odds_11 12 rfl (by decide) ?_
    refine j_iload_n C dX5_odds_12 13 rfl rfl 1 rfl ?_
    refine j_cs0I (na := 3) C dX5_odds_13 16 rfl (c_X5_isIn τ  x2 (0 : Int32) x1 ) rfl ggX5_odds_X5_isIn rfl rfl rfl kX5_odds_iRX5 kX5_odds_m79 kX5_odds_sX5_isIn qd_X5_isIn rfl ⟨by decide, by decide⟩ ⟨by decide, by decide⟩ rfl (Nat.le_of_ble_eq_true rfl) (fun r3 u3 hX3 hn3 => ?_)
    obtain rfl := (Prod.mk.inj hX3).1
    refine j_if_eq C dX5_odds_16 28 rfl 19 rfl (fun c4 => ?_) (fun c4 => ?_)
    · rw [if_pos c4] at hR
      refine j_ldc2 C dX5_odds_28 31 rfl kX5_odds_c211 ?_
      exact RtL.ret (hR) dX5_odds_31
    · rw [if_neg c4] at hR
      refine j_iload_n C dX5_odds_19 20 rfl rfl 3 rfl ?_
      refine j_iconst (v := 0) C dX5_odds_20 21 rfl (by decide) ?_
      refine j_iconst (v := 1) C dX5_odds_21 22 rfl (by decide) ?_
      refine j_cs0I (na := 3) C dX5_odds_22 25 rfl (c_X5_isIn τ  x3 (0 : Int32) (1 : Int32) ) rfl ggX5_odds_X5_isIn rfl rfl rfl kX5_odds_iRX5 kX5_odds_m79 kX5_odds_sX5_isIn qd_X5_isIn rfl ⟨by decide, by decide⟩ ⟨by decide, by decide⟩ rfl (Nat.le_of_ble_eq_true rfl) (fun r5 u5 hX5 hn5 => ?_)
      obtain rfl := (Prod.mk.inj hX5).1
      refine j_if_ne C dX5_odds_25 32 rfl 28 rfl (fun c6 => ?_) (fun c6 => ?_)
      · rw [if_neg c6] at hR
        refine j_lconst (v := 1) C dX5_odds_32 33 rfl (by decide) ?_
        refine j_lstore C dX5_odds_33 35 rfl (by decide) [(4, .long 1), (0, .ref (a 0)), (1, .int x1), (2, .int x2), (3, .int x3)] rfl ?_
        refine j_lconst (v := 1) C dX5_odds_35 36 rfl (by decide) ?_
        refine j_lstore C dX5_odds_36 38 rfl (by decide) [(6, .long 1), (4, .long 1), (0, .ref (a 0)), (1, .int x1), (2, .int x2), (3, .int x3)] rfl ?_
        refine j_iconst (v := 1) C dX5_odds_38 39 rfl (by decide) ?_
        refine j_istore C dX5_odds_39 41 rfl (by decide) [(8, .int 1), (6, .long 1), (4, .long 1), (0, .ref (a 0)), (1, .int x1), (2, .int x2), (3, .int x3)] rfl ?_
        refine j_lv [3, 4, 5, 6, 2, 1, 0] [(0, .ref (a 0)), (1, .int x1), (2, .int x2), (3, .int x3), (4, .long 1), (6, .long 1), (8, .int 1)] rfl (L_X5_odds_41 C a rws isv rc nlw nkd nbt nph ncn nno nct nsc nrn nlg ndn nzz x1 x2 x3 (1 : Int64) hrc0 hrc hn0 hn (odds_k (x := x1) (y := x2) c2 c4) (fun (o : Int64 × Int32) => RtL τ κ cX5_odds (fun _ : Unit => ((wX τ a rws isv rc) ++ (wT τ (fun j => a (10 + j)) nlw nkd nbt nph ncn nno nct nsc nrn nlg ndn nzz))) ((pr2 o (fun x4_7 x8_7 => pr3 (l_X5_odds_72 nlw x1 x2 300 x4_7 (1 : Int64) (0 : Int32)) (fun x4_9 x6_9 x8_9 => (f_X5_partOf x4_9 x6_9 x3))), ()))) (fun x4_7 x8_7  hR => ?_) 300 (1 : Int64) (1 : Int32) (by decide) (by decide) (by decide) hR)
        rw [pr2_mk x4_7 x8_7] at hR
        refine j_iconst (v := 0) C dX5_odds_69 70 rfl (by decide) ?_
        refine j_istore C dX5_odds_70 72 rfl (by decide) [(8, .int 0), (0, .ref (a 0)), (1, .int x1), (2, .int x2), (3, .int x3), (4, .long x4_7), (6, .long 1)] rfl ?_
        refine j_lv [1, 2, 3, 4, 5, 6, 0] [(0, .ref (a 0)), (1, .int x1), (2, .int x2), (3, .int x3), (4, .long x4_7), (6, .long 1), (8, .int 0)] rfl (L_X5_odds_72 C a rws isv rc nlw nkd nbt nph ncn nno nct nsc nrn nlg ndn nzz x1 x2 x3 hrc0 hrc hn0 hn (odds_n (x := x1) c2) (fun (o : Int64 × Int64 × Int32) => RtL τ κ cX5_odds (fun _ : Unit => ((wX τ a rws isv rc) ++ (wT τ (fun j => a (10 + j)) nlw nkd nbt nph ncn nno nct nsc nrn nlg ndn nzz))) ((pr3 o (fun x4_9 x6_9 x8_9 => (f_X5_partOf x4_9 x6_9 x3)), ()))) (fun x4_9 x6_9 x8_9  hR => ?_) 300 x4_7 (1 : Int64) (0 : Int32) (by decide) (by decide) (by decide) hR)
        rw [pr3_mk x4_9 x6_9 x8_9] at hR
        refine j_lload C dX5_odds_129 131 rfl 4 rfl ?_
        refine j_lload C dX5_odds_131 133 rfl 5 rfl ?_
        refine j_iload_n C dX5_odds_133 134 rfl rfl 3 rfl ?_
        refine j_cs0L (na := 3) C dX5_odds_134 137 rfl (c_X5_partOf τ  x4_9 x6_9 x3 ) rfl ggX5_odds_X5_partOf rfl rfl rfl kX5_odds_iRX5 kX5_odds_m215 kX5_odds_sX5_partOf qd_X5_partOf rfl ⟨by decide, by decide⟩ ⟨by decide, by decide⟩ rfl (Nat.le_of_ble_eq_true rfl) (fun r12 u12 hX12 => ?_)
        obtain rfl := (Prod.mk.inj hX12).1
        exact RtL.ret (hR) dX5_odds_137
      · rw [if_pos c6] at hR
        refine j_ldc2 C dX5_odds_28 31 rfl kX5_odds_c211 ?_
        exact RtL.ret (hR) dX5_odds_31

-- X5_hope main now
def f_X5_hope (nlw : Nat → Int32) (x1 : Int32) (x2 : Int32) : Int64 := if ((f_X5_isIn x1 (0 : Int32) (99 : Int32)) = 0) then ((-1) : Int64) else (if ((f_X5_isIn x2 (0 : Int32) (1 : Int32)) = 0) then ((-1) : Int64) else (f_X5_partOf (((x1 * (nlw 3)) : Int32).toInt64) (100 : Int64) x2))
theorem kX5_hope_iRX5 : Cond.initialized yX5_partOf.cls ∈ wsX5_hope := by decide +kernel
theorem kX5_hope_sX5_isIn : Cond.static yX5_isIn ∈ wsX5_hope := by decide +kernel
theorem kX5_hope_m79 : Cond.methodLink RX5 79 yX5_isIn ∈ wsX5_hope := by decide +kernel
theorem kX5_hope_c211 : Cond.constantLong RX5 211 (-1) ∈ wsX5_hope := by decide +kernel
theorem kX5_hope_f10 : Cond.fieldLink RX5 10 "TwoMinutes" "now" "LTwoMinutes$Town;" ∈ wsX5_hope := by decide +kernel
theorem kX5_hope_f89 : Cond.fieldLink RX5 89 "TwoMinutes$Town" "laws" "[I" ∈ wsX5_hope := by decide +kernel
theorem kX5_hope_c213 : Cond.constantLong RX5 213 100 ∈ wsX5_hope := by decide +kernel
theorem kX5_hope_sX5_partOf : Cond.static yX5_partOf ∈ wsX5_hope := by decide +kernel
theorem kX5_hope_m215 : Cond.methodLink RX5 215 yX5_partOf ∈ wsX5_hope := by decide +kernel
theorem qd_X5_hope : yX5_hope.cls = RX5 ∧ yX5_hope.cls ≠ "java/lang/invoke/MethodHandle" ∧ yX5_hope.cls ≠ "java/lang/invoke/VarHandle" ∧ (parseMethodDescriptor yX5_hope.desc).map (fun d => d.parameters.length) = some 2 := by decide +kernel
abbrev rmX5_hope : Room := { frames := 2, cells := 0, slots := 0, locals := 54 }
set_option maxHeartbeats 4000000 in
set_option maxRecDepth 100000 in
theorem c_X5_hope (τ : SX) (a : Nat → Nat) (rws : Nat → Int32) (isv : Int32) (rc : Int32) (nlw : Nat → Int32) (nkd : Nat → Int32) (nbt : Nat → Int32) (nph : Nat → Int32) (ncn : Nat → Int32) (nno : Nat → Int32) (nct : Int32) (nsc : Int32) (nrn : Int32) (nlg : Int32) (ndn : Int32) (nzz : Int32) (x1 : Int32) (x2 : Int32) (hrc0 : 0 ≤ rc.toInt) (hrc : rc.toInt ≤ 10) (hn0 : 0 ≤ nct.toInt) (hn : nct.toInt ≤ 8) (sz : Nat) : McL τ yX5_hope wsX5_hope rmX5_hope [.ref (a 0), .int x1, .int x2] ((wX τ a rws isv rc) ++ (wT τ (fun j => a (10 + j)) nlw nkd nbt nph ncn nno nct nsc nrn nlg ndn nzz)) (fun _ : Unit => ((wX τ a rws isv rc) ++ (wT τ (fun j => a (10 + j)) nlw nkd nbt nph ncn nno nct nsc nrn nlg ndn nzz))) (f_X5_hope nlw x1 x2, ()) sz := by
  refine mc_L (cc := cX5_hope) (own := RX5) [(0, .ref (a 0)), (1, .int x1), (2, .int x2)] rfl (by decide) rfl rfl (Nat.le_of_ble_eq_true rfl) (fun κ C hR => ?_)
  have hiX4 : ∀ w ∈ wsX40, w ∈ wsX5_hope := fun w h => List.mem_cons_of_mem _ (List.mem_append_right _ h)
  have hiX5 : ∀ w ∈ wsX50, w ∈ wsX5_hope := fun w h => List.mem_cons_of_mem _ (List.mem_append_left _ (List.mem_append_right _ h))
  unfold f_X5_hope at hR
  refine j_iload_n C dX5_hope_0 1 rfl rfl 1 rfl ?_
  refine j_iconst (v := 0) C dX5_hope_1 2 rfl (by decide) ?_
  refine j_bipush (v := 99) C dX5_hope_2 4 rfl (by decide) ?_
  refine j_cs0I (na := 3) C dX5_hope_4 7 rfl (c_X5_isIn τ  x1 (0 : Int32) (99 : Int32) ) rfl ggX5_hope_X5_isIn rfl rfl rfl kX5_hope_iRX5 kX5_hope_m79 kX5_hope_sX5_isIn qd_X5_isIn rfl ⟨by decide, by decide⟩ ⟨by decide, by decide⟩ rfl (Nat.le_of_ble_eq_true rfl) (fun r1 u1 hX1 hn1 => ?_)
  obtain rfl := (Prod.mk.inj hX1).1
  refine j_if_eq C dX5_hope_7 19 rfl 10 rfl (fun c2 => ?_) (fun c2 => ?_)
  · rw [if_pos c2] at hR
    refine j_ldc2 C dX5_hope_19 22 rfl kX5_hope_c211 ?_
    exact RtL.ret (hR) dX5_hope_22
  · rw [if_neg c2] at hR
    refine j_iload_n C dX5_hope_10 11 rfl rfl 2 rfl ?_
    refine j_iconst (v := 0) C dX5_hope_11 12 rfl (by decide) ?_
    refine j_iconst (v := 1) C dX5_hope_12 13 rfl (by decide) ?_
    refine j_cs0I (na := 3) C dX5_hope_13 16 rfl (c_X5_isIn τ  x2 (0 : Int32) (1 : Int32) ) rfl ggX5_hope_X5_isIn rfl rfl rfl kX5_hope_iRX5 kX5_hope_m79 kX5_hope_sX5_isIn qd_X5_isIn rfl ⟨by decide, by decide⟩ ⟨by decide, by decide⟩ rfl (Nat.le_of_ble_eq_true rfl) (fun r3 u3 hX3 hn3 => ?_)
    obtain rfl := (Prod.mk.inj hX3).1
    refine j_if_ne C dX5_hope_16 23 rfl 19 rfl (fun c4 => ?_) (fun c4 => ?_)
    · rw [if_neg c4] at hR
      refine j_iload_n C dX5_hope_23 24 rfl rfl 1 rfl ?_
      refine j_aload_n C dX5_hope_24 25 rfl rfl 0 rfl ?_
      refine j_get C dX5_hope_25 28 rfl hiX5 0 rfl rfl 0 (by decide) rfl kX5_hope_f10 rfl ?_
      refine j_get C dX5_hope_28 31 rfl hiX4 4 rfl rfl 0 (by decide) rfl kX5_hope_f89 rfl ?_
      refine j_iconst (v := 3) C dX5_hope_31 32 rfl (by decide) ?_
      refine j_iald C dX5_hope_32 33 rfl 5 rfl (by unfold vp_in; decide) 3 rfl ?_
      refine j_imul C dX5_hope_33 34 rfl ?_
      refine j_i2l C dX5_hope_34 35 rfl ?_
      refine j_ldc2 C dX5_hope_35 38 rfl kX5_hope_c213 ?_
      refine j_iload_n C dX5_hope_38 39 rfl rfl 2 rfl ?_
      refine j_cs0L (na := 3) C dX5_hope_39 42 rfl (c_X5_partOf τ  (((x1 * (nlw 3)) : Int32).toInt64) (100 : Int64) x2 ) rfl ggX5_hope_X5_partOf rfl rfl rfl kX5_hope_iRX5 kX5_hope_m215 kX5_hope_sX5_partOf qd_X5_partOf rfl ⟨by decide, by decide⟩ ⟨by decide, by decide⟩ rfl (Nat.le_of_ble_eq_true rfl) (fun r5 u5 hX5 => ?_)
      obtain rfl := (Prod.mk.inj hX5).1
      exact RtL.ret (hR) dX5_hope_42
    · rw [if_pos c4] at hR
      refine j_ldc2 C dX5_hope_19 22 rfl kX5_hope_c211 ?_
      exact RtL.ret (hR) dX5_hope_22

-- X1_become
def l_X1_become_21  : Nat → Int32 → (Nat → Int64) → Int32 × (Nat → Int64)
  | 0, x3, it => (x3, it)
  | N + 1, x3, it => if (40 ≤ x3) then (x3, it) else (l_X1_become_21 N (x3 + 1) (vp_updL it (x3).toNatClampNeg 0))
def f_X1_become (it : Nat → Int64) (x1 : Int32) (x2 : Int32) : (Nat → Int64) × Int32 × Int32 := pr2 (l_X1_become_21 300 (0 : Int32) it) (fun x3_1 it_1 => (it_1, x1, (if (0 : Int32) < (if x2 < (40 : Int32) then x2 else (40 : Int32)) then (if x2 < (40 : Int32) then x2 else (40 : Int32)) else (0 : Int32))))
theorem kX1_become_f15 : Cond.fieldLink RX1 15 "TwoMinutes$Sheet" "sort" "I" ∈ wsX1_become := by decide +kernel
theorem kX1_become_m19 : Cond.methodLink RX1 19 Lib.Math.min.name ∈ wsX1_become := by decide +kernel
theorem kX1_become_smin : Cond.static Lib.Math.min.name ∈ wsX1_become := by decide +kernel
theorem kX1_become_iMath : Cond.initialized "java/lang/Math" ∈ wsX1_become := by decide +kernel
theorem kX1_become_omin : Cond.code Lib.Math.min.name Lib.Math.min.code 2 (some .int) ∈ wsX1_become := by decide +kernel
theorem kX1_become_m25 : Cond.methodLink RX1 25 Lib.Math.max.name ∈ wsX1_become := by decide +kernel
theorem kX1_become_smax : Cond.static Lib.Math.max.name ∈ wsX1_become := by decide +kernel
theorem kX1_become_omax : Cond.code Lib.Math.max.name Lib.Math.max.code 2 (some .int) ∈ wsX1_become := by decide +kernel
theorem kX1_become_f28 : Cond.fieldLink RX1 28 "TwoMinutes$Sheet" "size" "I" ∈ wsX1_become := by decide +kernel
theorem kX1_become_f9 : Cond.fieldLink RX1 9 "TwoMinutes$Sheet" "items" "[J" ∈ wsX1_become := by decide +kernel
theorem qd_X1_become : yX1_become.cls = RX1 ∧ yX1_become.cls ≠ "java/lang/invoke/MethodHandle" ∧ yX1_become.cls ≠ "java/lang/invoke/VarHandle" ∧ (parseMethodDescriptor yX1_become.desc).map (fun d => d.parameters.length) = some 2 := by decide +kernel
abbrev rmX1_become : Room := { frames := 1, cells := 0, slots := 0, locals := 21 }
set_option maxHeartbeats 4000000 in
set_option maxRecDepth 100000 in
theorem L_X1_become_21 {τ : SX} {κ : KX} (C : Cx τ κ cX1_become RX1 wsX1_become rmX1_become 4) (a : Nat → Nat) (sr : Int32) (si : Int32) (x1 : Int32) (x2 : Int32) (Φ : Int32 × (Nat → Int64) → Prop) (hE : ∀ (x3 : Int32) (it : Nat → Int64), Φ (x3, it) → J τ κ 0 0 (wS τ a it sr si) [(0, .ref (a 0)), (1, .int x1), (2, .int x2), (3, .int x3)] 40 []) : ∀ (N : Nat) (x3 : Int32) (it : Nat → Int64), ((40 : Int) - x3.toInt).toNat < N → (0 ≤ x3.toInt) → (x3.toInt ≤ 40) → Φ (l_X1_become_21 N x3 it) → J τ κ 0 0 (wS τ a it sr si) [(0, .ref (a 0)), (1, .int x1), (2, .int x2), (3, .int x3)] 21 [] := by
  have hiX1 : ∀ w ∈ wsX10, w ∈ wsX1_become := fun w h => List.mem_cons_of_mem _ (List.mem_append_right _ h)
  intro N
  induction N with
  | zero => intro x3 it hm; exact absurd hm (Nat.not_lt_zero _)
  | succ N ih =>
    intro x3 it hm h0 h1 hR
    rw [l_X1_become_21] at hR
    refine j_iload_n C dX1_become_21 22 rfl rfl 3 rfl ?_
    refine j_bipush (v := 40) C dX1_become_22 24 rfl (by decide) ?_
    refine j_icmp_ge C dX1_become_24 40 rfl 27 rfl (fun c2 => ?_) (fun c2 => ?_)
    · rw [if_pos c2] at hR
      exact j_lv [0, 1, 2, 3] [(0, .ref (a 0)), (1, .int x1), (2, .int x2), (3, .int x3)] rfl (hE _ _  hR)
    · rw [if_neg c2] at hR
      have hs := cnt_step (B := 40) h0 (by decide) (by decide) c2
      refine j_aload_n C dX1_become_27 28 rfl rfl 0 rfl ?_
      refine j_get C dX1_become_28 31 rfl hiX1 0 rfl rfl 0 (by decide) rfl kX1_become_f9 rfl ?_
      refine j_iload_n C dX1_become_31 32 rfl rfl 3 rfl ?_
      refine j_lconst (v := 0) C dX1_become_32 33 rfl (by decide) ?_
      refine j_last C dX1_become_33 34 rfl 1 rfl (by first | assumption | decide | exact in_has (by assumption) hn0 hn | exact (in_trial (by assumption) hn0 hn).1 | exact (in_trial (by assumption) hn0 hn).2.2 | exact in_isIn4 (by assumption) | exact in_isIn60 (by assumption) | exact in_isIn30 (by assumption) | exact in_sheet (by assumption) | exact in_shelf (by assumption) | exact vp_in_iff.mpr ⟨by omega, by omega⟩ | exact nz_nle (by assumption) | exact nz_lt (by assumption) | omega) (x3).toNatClampNeg rfl (wS τ a (vp_updL it (x3).toNatClampNeg 0) sr si) rfl ?_
      refine j_iinc (v := (x3 + 1)) C dX1_become_34 37 rfl 3 rfl rfl (by decide) [(3, .int (x3 + 1)), (0, .ref (a 0)), (1, .int x1), (2, .int x2)] rfl ?_
      refine j_goto C dX1_become_37 21 rfl ?_
      exact j_lv [1, 2, 3, 0] [(0, .ref (a 0)), (1, .int x1), (2, .int x2), (3, .int (x3 + 1))] rfl (ih _ _ (by have := hs.2.2.1; omega) hs.1 hs.2.1 hR)
set_option maxHeartbeats 4000000 in
set_option maxRecDepth 100000 in
theorem c_X1_become (τ : SX) (a : Nat → Nat) (it : Nat → Int64) (sr : Int32) (si : Int32) (x1 : Int32) (x2 : Int32) (sz : Nat) : McV τ yX1_become wsX1_become rmX1_become [.ref (a 0), .int x1, .int x2] (wS τ a it sr si) (fun u : (Nat → Int64) × Int32 × Int32 => (wS τ a u.1 u.2.1 u.2.2)) (f_X1_become it x1 x2) 0 0 sz := by
  refine mc_V (cc := cX1_become) (own := RX1) [(0, .ref (a 0)), (1, .int x1), (2, .int x2)] rfl (by decide) rfl rfl (Nat.le_of_ble_eq_true rfl) (fun κ C _ hR => ?_)
  have hiX1 : ∀ w ∈ wsX10, w ∈ wsX1_become := fun w h => List.mem_cons_of_mem _ (List.mem_append_right _ h)
  unfold f_X1_become at hR
  refine j_aload_n C dX1_become_0 1 rfl rfl 0 rfl ?_
  refine j_iload_n C dX1_become_1 2 rfl rfl 1 rfl ?_
  refine j_put C dX1_become_2 5 rfl hiX1 tyX1_ok nmX1 0 rfl rfl 1 (by decide) rfl kX1_become_f15 rfl rfl rfl (Nat.le_of_ble_eq_true rfl) (wS τ a it x1 si) rfl ?_
  refine j_aload_n C dX1_become_5 6 rfl rfl 0 rfl ?_
  refine j_iconst (v := 0) C dX1_become_6 7 rfl (by decide) ?_
  refine j_bipush (v := 40) C dX1_become_7 9 rfl (by decide) ?_
  refine j_iload_n C dX1_become_9 10 rfl rfl 2 rfl ?_
  refine j_mmin C dX1_become_10 13 rfl kX1_become_m19 kX1_become_smin kX1_become_iMath kX1_become_omin (by decide) (Nat.le_of_ble_eq_true rfl) (by decide) (by decide) ?_
  refine j_mmax C dX1_become_13 16 rfl kX1_become_m25 kX1_become_smax kX1_become_iMath kX1_become_omax (by decide) (Nat.le_of_ble_eq_true rfl) (by decide) (by decide) ?_
  refine j_put C dX1_become_16 19 rfl hiX1 tyX1_ok nmX1 0 rfl rfl 2 (by decide) rfl kX1_become_f28 rfl rfl rfl (Nat.le_of_ble_eq_true rfl) (wS τ a it x1 (if (0 : Int32) < (if x2 < (40 : Int32) then x2 else (40 : Int32)) then (if x2 < (40 : Int32) then x2 else (40 : Int32)) else (0 : Int32))) rfl ?_
  refine j_iconst (v := 0) C dX1_become_19 20 rfl (by decide) ?_
  refine j_istore_n C dX1_become_20 21 rfl rfl (by decide) [(3, .int 0), (0, .ref (a 0)), (1, .int x1), (2, .int x2)] rfl ?_
  refine j_lv [1, 2, 3, 0] [(0, .ref (a 0)), (1, .int x1), (2, .int x2), (3, .int 0)] rfl (L_X1_become_21 C a x1 (if (0 : Int32) < (if x2 < (40 : Int32) then x2 else (40 : Int32)) then (if x2 < (40 : Int32) then x2 else (40 : Int32)) else (0 : Int32)) x1 x2  (fun (o : Int32 × (Nat → Int64)) => RtV τ κ cX1_become 0 0 (fun u : (Nat → Int64) × Int32 × Int32 => (wS τ a u.1 u.2.1 u.2.2)) (pr2 o (fun x3_1 it_1 => (it_1, x1, (if (0 : Int32) < (if x2 < (40 : Int32) then x2 else (40 : Int32)) then (if x2 < (40 : Int32) then x2 else (40 : Int32)) else (0 : Int32)))))) (fun x3_1 it_1  hR => ?_) 300 (0 : Int32) it (by decide) (by decide) (by decide) hR)
  rw [pr2_mk x3_1 it_1] at hR
  exact hR _ _ dX1_become_40

-- X1_narrowed
def f_X1_narrowed (sr : Int32) (x1 : Int32) : Int64 := (if sr = 0 then ((((x1 : Int32).toInt8.toInt32) : Int32).toInt64) else (if sr = 1 then ((((x1 : Int32).toInt16.toInt32) : Int32).toInt64) else ((x1 : Int32).toInt64)))
theorem kX1_narrowed_f15 : Cond.fieldLink RX1 15 "TwoMinutes$Sheet" "sort" "I" ∈ wsX1_narrowed := by decide +kernel
theorem qd_X1_narrowed : yX1_narrowed.cls = RX1 ∧ yX1_narrowed.cls ≠ "java/lang/invoke/MethodHandle" ∧ yX1_narrowed.cls ≠ "java/lang/invoke/VarHandle" ∧ (parseMethodDescriptor yX1_narrowed.desc).map (fun d => d.parameters.length) = some 1 := by decide +kernel
abbrev rmX1_narrowed : Room := { frames := 0, cells := 0, slots := 0, locals := 0 }
set_option maxHeartbeats 4000000 in
set_option maxRecDepth 100000 in
theorem c_X1_narrowed (τ : SX) (a : Nat → Nat) (it : Nat → Int64) (sr : Int32) (si : Int32) (x1 : Int32) (sz : Nat) : McL τ yX1_narrowed wsX1_narrowed rmX1_narrowed [.ref (a 0), .int x1] (wS τ a it sr si) (fun _ : Unit => (wS τ a it sr si)) (f_X1_narrowed sr x1, ()) sz := by
  refine mc_L (cc := cX1_narrowed) (own := RX1) [(0, .ref (a 0)), (1, .int x1)] rfl (by decide) rfl rfl (Nat.le_of_ble_eq_true rfl) (fun κ C hR => ?_)
  have hiX1 : ∀ w ∈ wsX10, w ∈ wsX1_narrowed := fun w h => List.mem_cons_of_mem _ (List.mem_append_right _ h)
  unfold f_X1_narrowed at hR
  refine j_aload_n C dX1_narrowed_0 1 rfl rfl 0 rfl ?_
  refine j_get C dX1_narrowed_1 4 rfl hiX1 0 rfl rfl 1 (by decide) rfl kX1_narrowed_f15 rfl ?_
  by_cases c1 : sr = 0
  · rw [if_pos c1] at hR
    refine j_lookup C dX1_narrowed_4 (by decide) (by rw [c1] <;> rfl) 32 rfl ?_
    refine j_iload_n C dX1_narrowed_32 33 rfl rfl 1 rfl ?_
    refine j_i2b C dX1_narrowed_33 34 rfl ?_
    refine j_i2l C dX1_narrowed_34 35 rfl ?_
    exact RtL.ret (hR) dX1_narrowed_35
  rw [if_neg c1] at hR
  by_cases c2 : sr = 1
  · rw [if_pos c2] at hR
    refine j_lookup C dX1_narrowed_4 (by decide) (by rw [c2] <;> rfl) 36 rfl ?_
    refine j_iload_n C dX1_narrowed_36 37 rfl rfl 1 rfl ?_
    refine j_i2s C dX1_narrowed_37 38 rfl ?_
    refine j_i2l C dX1_narrowed_38 39 rfl ?_
    exact RtL.ret (hR) dX1_narrowed_39
  rw [if_neg c2] at hR
  refine j_lookup C dX1_narrowed_4 (by decide) ((lv_osw (a := 0) c1 (by decide)).trans ((lv_osw (a := 1) c2 (by decide)).trans rfl)) 40 rfl ?_
  refine j_iload_n C dX1_narrowed_40 41 rfl rfl 1 rfl ?_
  refine j_i2l C dX1_narrowed_41 42 rfl ?_
  exact RtL.ret (hR) dX1_narrowed_42

-- X2_holdPerson
def f_X2_holdPerson (x1 : Int32) : Int32 × Int32 := ((0 : Int32), x1)
theorem kX2_holdPerson_f9 : Cond.fieldLink RX2 9 "TwoMinutes$Shelf" "what" "I" ∈ wsX2_holdPerson := by decide +kernel
theorem kX2_holdPerson_f15 : Cond.fieldLink RX2 15 "TwoMinutes$Shelf" "number" "I" ∈ wsX2_holdPerson := by decide +kernel
theorem qd_X2_holdPerson : yX2_holdPerson.cls = RX2 ∧ yX2_holdPerson.cls ≠ "java/lang/invoke/MethodHandle" ∧ yX2_holdPerson.cls ≠ "java/lang/invoke/VarHandle" ∧ (parseMethodDescriptor yX2_holdPerson.desc).map (fun d => d.parameters.length) = some 1 := by decide +kernel
abbrev rmX2_holdPerson : Room := { frames := 0, cells := 0, slots := 0, locals := 0 }
set_option maxHeartbeats 4000000 in
set_option maxRecDepth 100000 in
theorem c_X2_holdPerson (τ : SX) (a : Nat → Nat) (vw : Int32) (vn : Int32) (vs : Int32) (vz : Int32) (x1 : Int32) (sz : Nat) : McV τ yX2_holdPerson wsX2_holdPerson rmX2_holdPerson [.ref (a 0), .int x1] (wH τ a vw vn vs vz) (fun u : Int32 × Int32 => (wH τ a u.1 u.2 vs vz)) (f_X2_holdPerson x1) 0 0 sz := by
  refine mc_V (cc := cX2_holdPerson) (own := RX2) [(0, .ref (a 0)), (1, .int x1)] rfl (by decide) rfl rfl (Nat.le_of_ble_eq_true rfl) (fun κ C _ hR => ?_)
  have hiX2 : ∀ w ∈ wsX20, w ∈ wsX2_holdPerson := fun w h => List.mem_cons_of_mem _ (List.mem_append_right _ h)
  unfold f_X2_holdPerson at hR
  refine j_aload_n C dX2_holdPerson_0 1 rfl rfl 0 rfl ?_
  refine j_iconst (v := 0) C dX2_holdPerson_1 2 rfl (by decide) ?_
  refine j_put C dX2_holdPerson_2 5 rfl hiX2 tyX2_ok nmX2 0 rfl rfl 0 (by decide) rfl kX2_holdPerson_f9 rfl rfl rfl (Nat.le_of_ble_eq_true rfl) (wH τ a 0 vn vs vz) rfl ?_
  refine j_aload_n C dX2_holdPerson_5 6 rfl rfl 0 rfl ?_
  refine j_iload_n C dX2_holdPerson_6 7 rfl rfl 1 rfl ?_
  refine j_put C dX2_holdPerson_7 10 rfl hiX2 tyX2_ok nmX2 0 rfl rfl 1 (by decide) rfl kX2_holdPerson_f15 rfl rfl rfl (Nat.le_of_ble_eq_true rfl) (wH τ a 0 x1 vs vz) rfl ?_
  exact hR _ _ dX2_holdPerson_10

-- X2_holdRow
def f_X2_holdRow (x1 : Int32) (x2 : Int32) : Int32 × Int32 × Int32 := ((1 : Int32), x1, x2)
theorem kX2_holdRow_f9 : Cond.fieldLink RX2 9 "TwoMinutes$Shelf" "what" "I" ∈ wsX2_holdRow := by decide +kernel
theorem kX2_holdRow_f18 : Cond.fieldLink RX2 18 "TwoMinutes$Shelf" "sort" "I" ∈ wsX2_holdRow := by decide +kernel
theorem kX2_holdRow_f21 : Cond.fieldLink RX2 21 "TwoMinutes$Shelf" "size" "I" ∈ wsX2_holdRow := by decide +kernel
theorem qd_X2_holdRow : yX2_holdRow.cls = RX2 ∧ yX2_holdRow.cls ≠ "java/lang/invoke/MethodHandle" ∧ yX2_holdRow.cls ≠ "java/lang/invoke/VarHandle" ∧ (parseMethodDescriptor yX2_holdRow.desc).map (fun d => d.parameters.length) = some 2 := by decide +kernel
abbrev rmX2_holdRow : Room := { frames := 0, cells := 0, slots := 0, locals := 0 }
set_option maxHeartbeats 4000000 in
set_option maxRecDepth 100000 in
theorem c_X2_holdRow (τ : SX) (a : Nat → Nat) (vw : Int32) (vn : Int32) (vs : Int32) (vz : Int32) (x1 : Int32) (x2 : Int32) (sz : Nat) : McV τ yX2_holdRow wsX2_holdRow rmX2_holdRow [.ref (a 0), .int x1, .int x2] (wH τ a vw vn vs vz) (fun u : Int32 × Int32 × Int32 => (wH τ a u.1 vn u.2.1 u.2.2)) (f_X2_holdRow x1 x2) 0 0 sz := by
  refine mc_V (cc := cX2_holdRow) (own := RX2) [(0, .ref (a 0)), (1, .int x1), (2, .int x2)] rfl (by decide) rfl rfl (Nat.le_of_ble_eq_true rfl) (fun κ C _ hR => ?_)
  have hiX2 : ∀ w ∈ wsX20, w ∈ wsX2_holdRow := fun w h => List.mem_cons_of_mem _ (List.mem_append_right _ h)
  unfold f_X2_holdRow at hR
  refine j_aload_n C dX2_holdRow_0 1 rfl rfl 0 rfl ?_
  refine j_iconst (v := 1) C dX2_holdRow_1 2 rfl (by decide) ?_
  refine j_put C dX2_holdRow_2 5 rfl hiX2 tyX2_ok nmX2 0 rfl rfl 0 (by decide) rfl kX2_holdRow_f9 rfl rfl rfl (Nat.le_of_ble_eq_true rfl) (wH τ a 1 vn vs vz) rfl ?_
  refine j_aload_n C dX2_holdRow_5 6 rfl rfl 0 rfl ?_
  refine j_iload_n C dX2_holdRow_6 7 rfl rfl 1 rfl ?_
  refine j_put C dX2_holdRow_7 10 rfl hiX2 tyX2_ok nmX2 0 rfl rfl 2 (by decide) rfl kX2_holdRow_f18 rfl rfl rfl (Nat.le_of_ble_eq_true rfl) (wH τ a 1 vn x1 vz) rfl ?_
  refine j_aload_n C dX2_holdRow_10 11 rfl rfl 0 rfl ?_
  refine j_iload_n C dX2_holdRow_11 12 rfl rfl 2 rfl ?_
  refine j_put C dX2_holdRow_12 15 rfl hiX2 tyX2_ok nmX2 0 rfl rfl 3 (by decide) rfl kX2_holdRow_f21 rfl rfl rfl (Nat.le_of_ble_eq_true rfl) (wH τ a 1 vn x1 x2) rfl ?_
  exact hR _ _ dX2_holdRow_15

-- X2_holdNothing
def f_X2_holdNothing  : Int32 := ((2 : Int32))
theorem kX2_holdNothing_f9 : Cond.fieldLink RX2 9 "TwoMinutes$Shelf" "what" "I" ∈ wsX2_holdNothing := by decide +kernel
theorem qd_X2_holdNothing : yX2_holdNothing.cls = RX2 ∧ yX2_holdNothing.cls ≠ "java/lang/invoke/MethodHandle" ∧ yX2_holdNothing.cls ≠ "java/lang/invoke/VarHandle" ∧ (parseMethodDescriptor yX2_holdNothing.desc).map (fun d => d.parameters.length) = some 0 := by decide +kernel
abbrev rmX2_holdNothing : Room := { frames := 0, cells := 0, slots := 0, locals := 0 }
set_option maxHeartbeats 4000000 in
set_option maxRecDepth 100000 in
theorem c_X2_holdNothing (τ : SX) (a : Nat → Nat) (vw : Int32) (vn : Int32) (vs : Int32) (vz : Int32) (sz : Nat) : McV τ yX2_holdNothing wsX2_holdNothing rmX2_holdNothing [.ref (a 0)] (wH τ a vw vn vs vz) (fun u : Int32 => (wH τ a u vn vs vz)) (f_X2_holdNothing) 0 0 sz := by
  refine mc_V (cc := cX2_holdNothing) (own := RX2) [(0, .ref (a 0))] rfl (by decide) rfl rfl (Nat.le_of_ble_eq_true rfl) (fun κ C _ hR => ?_)
  have hiX2 : ∀ w ∈ wsX20, w ∈ wsX2_holdNothing := fun w h => List.mem_cons_of_mem _ (List.mem_append_right _ h)
  unfold f_X2_holdNothing at hR
  refine j_aload_n C dX2_holdNothing_0 1 rfl rfl 0 rfl ?_
  refine j_iconst (v := 2) C dX2_holdNothing_1 2 rfl (by decide) ?_
  refine j_put C dX2_holdNothing_2 5 rfl hiX2 tyX2_ok nmX2 0 rfl rfl 0 (by decide) rfl kX2_holdNothing_f9 rfl rfl rfl (Nat.le_of_ble_eq_true rfl) (wH τ a 2 vn vs vz) rfl ?_
  exact hR _ _ dX2_holdNothing_5

-- X3_append
def f_X3_append (bs : Nat → Int32) (tz : Int32) (x1 : Int32) : (Nat → Int32) × Int32 := if (200 ≤ tz) then (bs, tz) else ((upd bs (tz).toNatClampNeg x1), (tz + 1))
theorem kX3_append_f15 : Cond.fieldLink RX3 15 "TwoMinutes$Tape" "size" "I" ∈ wsX3_append := by decide +kernel
theorem kX3_append_f11 : Cond.fieldLink RX3 11 "TwoMinutes$Tape" "bytes" "[I" ∈ wsX3_append := by decide +kernel
theorem qd_X3_append : yX3_append.cls = RX3 ∧ yX3_append.cls ≠ "java/lang/invoke/MethodHandle" ∧ yX3_append.cls ≠ "java/lang/invoke/VarHandle" ∧ (parseMethodDescriptor yX3_append.desc).map (fun d => d.parameters.length) = some 1 := by decide +kernel
abbrev rmX3_append : Room := { frames := 0, cells := 0, slots := 0, locals := 0 }
set_option maxHeartbeats 4000000 in
set_option maxRecDepth 100000 in
theorem c_X3_append (τ : SX) (a : Nat → Nat) (bs : Nat → Int32) (tz : Int32) (so : Int32) (fr : Int32) (tt : Int32) (ft : Int32) (x1 : Int32) (htz0 : 0 ≤ tz.toInt) (htz : tz.toInt ≤ 200) (sz : Nat) : McV τ yX3_append wsX3_append rmX3_append [.ref (a 0), .int x1] (wP τ a bs tz so fr tt ft) (fun u : (Nat → Int32) × Int32 => (wP τ a u.1 u.2 so fr tt ft)) (f_X3_append bs tz x1) 0 0 sz := by
  refine mc_V (cc := cX3_append) (own := RX3) [(0, .ref (a 0)), (1, .int x1)] rfl (by decide) rfl rfl (Nat.le_of_ble_eq_true rfl) (fun κ C _ hR => ?_)
  have hiX3 : ∀ w ∈ wsX30, w ∈ wsX3_append := fun w h => List.mem_cons_of_mem _ (List.mem_append_right _ h)
  unfold f_X3_append at hR
  refine j_aload_n C dX3_append_0 1 rfl rfl 0 rfl ?_
  refine j_get C dX3_append_1 4 rfl hiX3 0 rfl rfl 1 (by decide) rfl kX3_append_f15 rfl ?_
  refine j_sipush (v := 200) C dX3_append_4 7 rfl (by decide) ?_
  refine j_icmp_ge C dX3_append_7 30 rfl 10 rfl (fun c1 => ?_) (fun c1 => ?_)
  · rw [if_pos c1] at hR
    exact hR _ _ dX3_append_30
  · rw [if_neg c1] at hR
    have hlt := mt i32_le.mpr c1
    have e200 : (200 : Int32).toInt = 200 := rfl
    refine j_aload_n C dX3_append_10 11 rfl rfl 0 rfl ?_
    refine j_get C dX3_append_11 14 rfl hiX3 0 rfl rfl 0 (by decide) rfl kX3_append_f11 rfl ?_
    refine j_aload_n C dX3_append_14 15 rfl rfl 0 rfl ?_
    refine j_get C dX3_append_15 18 rfl hiX3 0 rfl rfl 1 (by decide) rfl kX3_append_f15 rfl ?_
    refine j_iload_n C dX3_append_18 19 rfl rfl 1 rfl ?_
    refine j_iast C dX3_append_19 20 rfl 1 rfl (by first | assumption | decide | exact in_has (by assumption) hn0 hn | exact (in_trial (by assumption) hn0 hn).1 | exact (in_trial (by assumption) hn0 hn).2.2 | exact in_isIn4 (by assumption) | exact in_isIn60 (by assumption) | exact in_isIn30 (by assumption) | exact in_sheet (by assumption) | exact in_shelf (by assumption) | exact vp_in_iff.mpr ⟨by omega, by omega⟩ | exact nz_nle (by assumption) | exact nz_lt (by assumption) | omega) (tz).toNatClampNeg rfl (wP τ a (upd bs (tz).toNatClampNeg x1) tz so fr tt ft) rfl ?_
    refine j_aload_n C dX3_append_20 21 rfl rfl 0 rfl ?_
    refine j_dup C dX3_append_21 22 rfl rfl ?_
    refine j_get C dX3_append_22 25 rfl hiX3 0 rfl rfl 1 (by decide) rfl kX3_append_f15 rfl ?_
    refine j_iconst (v := 1) C dX3_append_25 26 rfl (by decide) ?_
    refine j_iadd C dX3_append_26 27 rfl ?_
    refine j_put C dX3_append_27 30 rfl hiX3 tyX3_ok nmX3 0 rfl rfl 1 (by decide) rfl kX3_append_f15 rfl rfl rfl (Nat.le_of_ble_eq_true rfl) (wP τ a (upd bs (tz).toNatClampNeg x1) (tz + 1) so fr tt ft) rfl ?_
    exact hR _ _ dX3_append_30

-- X5_keep main saved now
def f_X5_keep (nlw : Nat → Int32) (nkd : Nat → Int32) (nbt : Nat → Int32) (nph : Nat → Int32) (ncn : Nat → Int32) (nno : Nat → Int32) (nct : Int32) (nsc : Int32) (nrn : Int32) (nlg : Int32) (ndn : Int32) (nzz : Int32) (slw : Nat → Int32) (skd : Nat → Int32) (sbt : Nat → Int32) (sph : Nat → Int32) (scn : Nat → Int32) (sno : Nat → Int32) : Int32 × Int32 × (Nat → Int32) × (Nat → Int32) × (Nat → Int32) × (Nat → Int32) × (Nat → Int32) × (Nat → Int32) × Int32 × Int32 × Int32 × Int32 × Int32 × Int32 := ((1 : Int32), (1 : Int32), (va_cpy nlw slw 0 0 4), (va_cpy nkd skd 0 0 8), (va_cpy nbt sbt 0 0 8), (va_cpy nph sph 0 0 8), (va_cpy ncn scn 0 0 8), (va_cpy nno sno 0 0 8), nct, nsc, nrn, nlg, ndn, nzz)
theorem kX5_keep_f19 : Cond.fieldLink RX5 19 "TwoMinutes" "saved" "LTwoMinutes$Town;" ∈ wsX5_keep := by decide +kernel
theorem kX5_keep_f10 : Cond.fieldLink RX5 10 "TwoMinutes" "now" "LTwoMinutes$Town;" ∈ wsX5_keep := by decide +kernel
theorem kX5_keep_f289 : Cond.fieldLink RX5 289 "TwoMinutes" "isSaved" "Z" ∈ wsX5_keep := by decide +kernel
theorem qd_X5_keep : yX5_keep.cls = RX5 ∧ yX5_keep.cls ≠ "java/lang/invoke/MethodHandle" ∧ yX5_keep.cls ≠ "java/lang/invoke/VarHandle" ∧ (parseMethodDescriptor yX5_keep.desc).map (fun d => d.parameters.length) = some 0 := by decide +kernel
abbrev rmX5_keep : Room := { frames := 2, cells := 0, slots := 0, locals := 47 }
set_option maxHeartbeats 4000000 in
set_option maxRecDepth 100000 in
theorem c_X5_keep (τ : SX) (a : Nat → Nat) (rws : Nat → Int32) (isv : Int32) (rc : Int32) (nlw : Nat → Int32) (nkd : Nat → Int32) (nbt : Nat → Int32) (nph : Nat → Int32) (ncn : Nat → Int32) (nno : Nat → Int32) (nct : Int32) (nsc : Int32) (nrn : Int32) (nlg : Int32) (ndn : Int32) (nzz : Int32) (slw : Nat → Int32) (skd : Nat → Int32) (sbt : Nat → Int32) (sph : Nat → Int32) (scn : Nat → Int32) (sno : Nat → Int32) (sct : Int32) (ssc : Int32) (srn : Int32) (slg : Int32) (sdn : Int32) (szz : Int32) (hrc0 : 0 ≤ rc.toInt) (hrc : rc.toInt ≤ 10) (hn0 : 0 ≤ nct.toInt) (hn : nct.toInt ≤ 8) (sz : Nat) : McI τ yX5_keep wsX5_keep rmX5_keep .int [.ref (a 0)] ((wX τ a rws isv rc) ++ (wT τ (fun j => a (10 + j)) nlw nkd nbt nph ncn nno nct nsc nrn nlg ndn nzz) ++ (wT τ (fun j => a (30 + j)) slw skd sbt sph scn sno sct ssc srn slg sdn szz)) (fun u : Int32 × (Nat → Int32) × (Nat → Int32) × (Nat → Int32) × (Nat → Int32) × (Nat → Int32) × (Nat → Int32) × Int32 × Int32 × Int32 × Int32 × Int32 × Int32 => ((wX τ a rws u.1 rc) ++ (wT τ (fun j => a (10 + j)) nlw nkd nbt nph ncn nno nct nsc nrn nlg ndn nzz) ++ (wT τ (fun j => a (30 + j)) u.2.1 u.2.2.1 u.2.2.2.1 u.2.2.2.2.1 u.2.2.2.2.2.1 u.2.2.2.2.2.2.1 u.2.2.2.2.2.2.2.1 u.2.2.2.2.2.2.2.2.1 u.2.2.2.2.2.2.2.2.2.1 u.2.2.2.2.2.2.2.2.2.2.1 u.2.2.2.2.2.2.2.2.2.2.2.1 u.2.2.2.2.2.2.2.2.2.2.2.2))) (f_X5_keep nlw nkd nbt nph ncn nno nct nsc nrn nlg ndn nzz slw skd sbt sph scn sno) sz := by
  refine mc_I (cc := cX5_keep) (own := RX5) [(0, .ref (a 0))] rfl (by decide) rfl rfl (Nat.le_of_ble_eq_true rfl) (fun κ C hR => ?_)
  have hiX4 : ∀ w ∈ wsX40, w ∈ wsX5_keep := fun w h => List.mem_cons_of_mem _ (List.mem_append_right _ h)
  have hiX5 : ∀ w ∈ wsX50, w ∈ wsX5_keep := fun w h => List.mem_cons_of_mem _ (List.mem_append_left _ (List.mem_append_right _ h))
  unfold f_X5_keep at hR
  refine j_aload_n C dX5_keep_0 1 rfl rfl 0 rfl ?_
  refine j_get C dX5_keep_1 4 rfl hiX5 0 rfl rfl 2 (by decide) rfl kX5_keep_f19 rfl ?_
  refine j_aload_n C dX5_keep_4 5 rfl rfl 0 rfl ?_
  refine j_get C dX5_keep_5 8 rfl hiX5 0 rfl rfl 0 (by decide) rfl kX5_keep_f10 rfl ?_
  refine j_cvV (na := 1) C dX5_keep_8 11 rfl (c_X4_copyFrom τ (fun j => a (30 + j)) (fun j => a (10 + j)) slw skd sbt sph scn sno sct ssc srn slg sdn szz nlw nkd nbt nph ncn nno nct nsc nrn nlg ndn nzz ) gX5_keep_X4_copyFrom rfl rfl rfl qd_X4_copyFrom rfl ⟨by decide, by decide⟩ ⟨by decide, by decide⟩ rfl (Nat.le_of_ble_eq_true rfl) [11, 12, 13, 14, 15, 16, 17, 4, 5, 6, 7, 8, 9, 10] [0, 1, 2, 3] [0, 1, 2, 3, 11, 12, 13, 14, 15, 16, 17, 4, 5, 6, 7, 8, 9, 10] ((wX τ a rws isv rc)) rfl (by decide) rfl (by decide) (by decide) 4 0 rfl rfl (fun u => ((wX τ a rws isv rc) ++ (wT τ (fun j => a (10 + j)) nlw nkd nbt nph ncn nno nct nsc nrn nlg ndn nzz) ++ (wT τ (fun j => a (30 + j)) u.1 u.2.1 u.2.2.1 u.2.2.2.1 u.2.2.2.2.1 u.2.2.2.2.2.1 u.2.2.2.2.2.2.1 u.2.2.2.2.2.2.2.1 u.2.2.2.2.2.2.2.2.1 u.2.2.2.2.2.2.2.2.2.1 u.2.2.2.2.2.2.2.2.2.2.1 u.2.2.2.2.2.2.2.2.2.2.2))) (fun _ => rfl) (by decide) (fun u1 hX1 => ?_)
  obtain ⟨slw_1, skd_1, sbt_1, sph_1, scn_1, sno_1, sct_1, ssc_1, srn_1, slg_1, sdn_1, szz_1⟩ := u1
  simp only [f_X4_copyFrom, Prod.mk.injEq] at hX1
  obtain ⟨rfl, rfl, rfl, rfl, rfl, rfl, rfl, rfl, rfl, rfl, rfl, rfl⟩ := hX1
  refine j_aload_n C dX5_keep_11 12 rfl rfl 0 rfl ?_
  refine j_iconst (v := 1) C dX5_keep_12 13 rfl (by decide) ?_
  refine j_put C dX5_keep_13 16 rfl hiX5 tyX5_ok nmX5 0 rfl rfl 3 (by decide) rfl kX5_keep_f289 rfl rfl rfl (Nat.le_of_ble_eq_true rfl) ((wX τ a rws 1 rc) ++ (wT τ (fun j => a (10 + j)) nlw nkd nbt nph ncn nno nct nsc nrn nlg ndn nzz) ++ (wT τ (fun j => a (30 + j)) (va_cpy nlw slw 0 0 4) (va_cpy nkd skd 0 0 8) (va_cpy nbt sbt 0 0 8) (va_cpy nph sph 0 0 8) (va_cpy ncn scn 0 0 8) (va_cpy nno sno 0 0 8) nct nsc nrn nlg ndn nzz)) rfl ?_
  refine j_iconst (v := 1) C dX5_keep_16 17 rfl (by decide) ?_
  exact Rt.ret (hR) rfl dX5_keep_17

-- X5_again main now saved
def f_X5_again (isv : Int32) (nlw : Nat → Int32) (nkd : Nat → Int32) (nbt : Nat → Int32) (nph : Nat → Int32) (ncn : Nat → Int32) (nno : Nat → Int32) (nct : Int32) (nsc : Int32) (nrn : Int32) (nlg : Int32) (ndn : Int32) (nzz : Int32) (slw : Nat → Int32) (skd : Nat → Int32) (sbt : Nat → Int32) (sph : Nat → Int32) (scn : Nat → Int32) (sno : Nat → Int32) (sct : Int32) (ssc : Int32) (srn : Int32) (slg : Int32) (sdn : Int32) (szz : Int32) : Int32 × (Nat → Int32) × (Nat → Int32) × (Nat → Int32) × (Nat → Int32) × (Nat → Int32) × (Nat → Int32) × Int32 × Int32 × Int32 × Int32 × Int32 × Int32 := if (isv = 0) then (((-3) : Int32), nlw, nkd, nbt, nph, ncn, nno, nct, nsc, nrn, nlg, ndn, nzz) else (sct, (va_cpy slw nlw 0 0 4), (va_cpy skd nkd 0 0 8), (va_cpy sbt nbt 0 0 8), (va_cpy sph nph 0 0 8), (va_cpy scn ncn 0 0 8), (va_cpy sno nno 0 0 8), sct, ssc, srn, slg, sdn, szz)
theorem kX5_again_f289 : Cond.fieldLink RX5 289 "TwoMinutes" "isSaved" "Z" ∈ wsX5_again := by decide +kernel
theorem kX5_again_f10 : Cond.fieldLink RX5 10 "TwoMinutes" "now" "LTwoMinutes$Town;" ∈ wsX5_again := by decide +kernel
theorem kX5_again_f19 : Cond.fieldLink RX5 19 "TwoMinutes" "saved" "LTwoMinutes$Town;" ∈ wsX5_again := by decide +kernel
theorem kX5_again_f76 : Cond.fieldLink RX5 76 "TwoMinutes$Town" "count" "I" ∈ wsX5_again := by decide +kernel
theorem qd_X5_again : yX5_again.cls = RX5 ∧ yX5_again.cls ≠ "java/lang/invoke/MethodHandle" ∧ yX5_again.cls ≠ "java/lang/invoke/VarHandle" ∧ (parseMethodDescriptor yX5_again.desc).map (fun d => d.parameters.length) = some 0 := by decide +kernel
abbrev rmX5_again : Room := { frames := 2, cells := 0, slots := 0, locals := 47 }
set_option maxHeartbeats 4000000 in
set_option maxRecDepth 100000 in
theorem c_X5_again (τ : SX) (a : Nat → Nat) (rws : Nat → Int32) (isv : Int32) (rc : Int32) (nlw : Nat → Int32) (nkd : Nat → Int32) (nbt : Nat → Int32) (nph : Nat → Int32) (ncn : Nat → Int32) (nno : Nat → Int32) (nct : Int32) (nsc : Int32) (nrn : Int32) (nlg : Int32) (ndn : Int32) (nzz : Int32) (slw : Nat → Int32) (skd : Nat → Int32) (sbt : Nat → Int32) (sph : Nat → Int32) (scn : Nat → Int32) (sno : Nat → Int32) (sct : Int32) (ssc : Int32) (srn : Int32) (slg : Int32) (sdn : Int32) (szz : Int32) (hrc0 : 0 ≤ rc.toInt) (hrc : rc.toInt ≤ 10) (hn0 : 0 ≤ nct.toInt) (hn : nct.toInt ≤ 8) (sz : Nat) : McI τ yX5_again wsX5_again rmX5_again .int [.ref (a 0)] ((wX τ a rws isv rc) ++ (wT τ (fun j => a (10 + j)) nlw nkd nbt nph ncn nno nct nsc nrn nlg ndn nzz) ++ (wT τ (fun j => a (30 + j)) slw skd sbt sph scn sno sct ssc srn slg sdn szz)) (fun u : (Nat → Int32) × (Nat → Int32) × (Nat → Int32) × (Nat → Int32) × (Nat → Int32) × (Nat → Int32) × Int32 × Int32 × Int32 × Int32 × Int32 × Int32 => ((wX τ a rws isv rc) ++ (wT τ (fun j => a (10 + j)) u.1 u.2.1 u.2.2.1 u.2.2.2.1 u.2.2.2.2.1 u.2.2.2.2.2.1 u.2.2.2.2.2.2.1 u.2.2.2.2.2.2.2.1 u.2.2.2.2.2.2.2.2.1 u.2.2.2.2.2.2.2.2.2.1 u.2.2.2.2.2.2.2.2.2.2.1 u.2.2.2.2.2.2.2.2.2.2.2) ++ (wT τ (fun j => a (30 + j)) slw skd sbt sph scn sno sct ssc srn slg sdn szz))) (f_X5_again isv nlw nkd nbt nph ncn nno nct nsc nrn nlg ndn nzz slw skd sbt sph scn sno sct ssc srn slg sdn szz) sz := by
  refine mc_I (cc := cX5_again) (own := RX5) [(0, .ref (a 0))] rfl (by decide) rfl rfl (Nat.le_of_ble_eq_true rfl) (fun κ C hR => ?_)
  have hiX4 : ∀ w ∈ wsX40, w ∈ wsX5_again := fun w h => List.mem_cons_of_mem _ (List.mem_append_right _ h)
  have hiX5 : ∀ w ∈ wsX50, w ∈ wsX5_again := fun w h => List.mem_cons_of_mem _ (List.mem_append_left _ (List.mem_append_right _ h))
  unfold f_X5_again at hR
  refine j_aload_n C dX5_again_0 1 rfl rfl 0 rfl ?_
  refine j_get C dX5_again_1 4 rfl hiX5 0 rfl rfl 3 (by decide) rfl kX5_again_f289 rfl ?_
  refine j_if_ne C dX5_again_4 10 rfl 7 rfl (fun c1 => ?_) (fun c1 => ?_)
  · rw [if_neg c1] at hR
    refine j_aload_n C dX5_again_10 11 rfl rfl 0 rfl ?_
    refine j_get C dX5_again_11 14 rfl hiX5 0 rfl rfl 0 (by decide) rfl kX5_again_f10 rfl ?_
    refine j_aload_n C dX5_again_14 15 rfl rfl 0 rfl ?_
    refine j_get C dX5_again_15 18 rfl hiX5 0 rfl rfl 2 (by decide) rfl kX5_again_f19 rfl ?_
    refine j_cvV (na := 1) C dX5_again_18 21 rfl (c_X4_copyFrom τ (fun j => a (10 + j)) (fun j => a (30 + j)) nlw nkd nbt nph ncn nno nct nsc nrn nlg ndn nzz slw skd sbt sph scn sno sct ssc srn slg sdn szz ) gX5_again_X4_copyFrom rfl rfl rfl qd_X4_copyFrom rfl ⟨by decide, by decide⟩ ⟨by decide, by decide⟩ rfl (Nat.le_of_ble_eq_true rfl) [4, 5, 6, 7, 8, 9, 10, 11, 12, 13, 14, 15, 16, 17] [0, 1, 2, 3] [0, 1, 2, 3, 4, 5, 6, 7, 8, 9, 10, 11, 12, 13, 14, 15, 16, 17] ((wX τ a rws isv rc)) rfl (by decide) rfl (by decide) (by decide) 4 0 rfl rfl (fun u => ((wX τ a rws isv rc) ++ (wT τ (fun j => a (10 + j)) u.1 u.2.1 u.2.2.1 u.2.2.2.1 u.2.2.2.2.1 u.2.2.2.2.2.1 u.2.2.2.2.2.2.1 u.2.2.2.2.2.2.2.1 u.2.2.2.2.2.2.2.2.1 u.2.2.2.2.2.2.2.2.2.1 u.2.2.2.2.2.2.2.2.2.2.1 u.2.2.2.2.2.2.2.2.2.2.2) ++ (wT τ (fun j => a (30 + j)) slw skd sbt sph scn sno sct ssc srn slg sdn szz))) (fun _ => rfl) (by decide) (fun u2 hX2 => ?_)
    obtain ⟨nlw_2, nkd_2, nbt_2, nph_2, ncn_2, nno_2, nct_2, nsc_2, nrn_2, nlg_2, ndn_2, nzz_2⟩ := u2
    simp only [f_X4_copyFrom, Prod.mk.injEq] at hX2
    obtain ⟨rfl, rfl, rfl, rfl, rfl, rfl, rfl, rfl, rfl, rfl, rfl, rfl⟩ := hX2
    refine j_aload_n C dX5_again_21 22 rfl rfl 0 rfl ?_
    refine j_get C dX5_again_22 25 rfl hiX5 0 rfl rfl 0 (by decide) rfl kX5_again_f10 rfl ?_
    refine j_get C dX5_again_25 28 rfl hiX4 4 rfl rfl 6 (by decide) rfl kX5_again_f76 rfl ?_
    exact Rt.ret (hR) rfl dX5_again_28
  · rw [if_pos c1] at hR
    refine j_bipush (v := (-3)) C dX5_again_7 9 rfl (by decide) ?_
    exact Rt.ret (hR) rfl dX5_again_9

-- X5_many main now tape actor
def f_X5_many (rc : Int32) (nlw : Nat → Int32) (nkd : Nat → Int32) (nbt : Nat → Int32) (nph : Nat → Int32) (ncn : Nat → Int32) (nno : Nat → Int32) (nct : Int32) (nsc : Int32) (nrn : Int32) (tz : Int32) (bg : Int32) (x1 : Int32) : Int32 := (if x1 = 0 then nct else (if x1 = 1 then (f_J6_bitCount_0f7a4 (f_X4_soundingSet nlw nkd nbt nph nct nsc nrn)) else (if x1 = 2 then (f_X4_cornersTaken ncn nct) else (if x1 = 3 then (f_X4_thoseWithNoise nno nct) else (if x1 = 4 then rc else (if x1 = 5 then tz else (if x1 = 6 then bg else ((-1) : Int32))))))))
theorem kX5_many_f10 : Cond.fieldLink RX5 10 "TwoMinutes" "now" "LTwoMinutes$Town;" ∈ wsX5_many := by decide +kernel
theorem kX5_many_f76 : Cond.fieldLink RX5 76 "TwoMinutes$Town" "count" "I" ∈ wsX5_many := by decide +kernel
theorem kX5_many_iRJ6 : Cond.initialized yJ6_bitCount_0f7a4.cls ∈ wsX5_many := by decide +kernel
theorem kX5_many_sJ6_bitCount_0f7a4 : Cond.static yJ6_bitCount_0f7a4 ∈ wsX5_many := by decide +kernel
theorem kX5_many_m184 : Cond.methodLink RX5 184 yJ6_bitCount_0f7a4 ∈ wsX5_many := by decide +kernel
theorem kX5_many_f73 : Cond.fieldLink RX5 73 "TwoMinutes" "rowCount" "I" ∈ wsX5_many := by decide +kernel
theorem kX5_many_f25 : Cond.fieldLink RX5 25 "TwoMinutes" "tape" "LTwoMinutes$Tape;" ∈ wsX5_many := by decide +kernel
theorem kX5_many_f54 : Cond.fieldLink RX5 54 "TwoMinutes$Tape" "size" "I" ∈ wsX5_many := by decide +kernel
theorem kX5_many_f48 : Cond.fieldLink RX5 48 "TwoMinutes" "actor" "LTwoMinutes$Actor;" ∈ wsX5_many := by decide +kernel
theorem kX5_many_f270 : Cond.fieldLink RX5 270 "TwoMinutes$Actor" "begun" "I" ∈ wsX5_many := by decide +kernel
theorem qd_X5_many : yX5_many.cls = RX5 ∧ yX5_many.cls ≠ "java/lang/invoke/MethodHandle" ∧ yX5_many.cls ≠ "java/lang/invoke/VarHandle" ∧ (parseMethodDescriptor yX5_many.desc).map (fun d => d.parameters.length) = some 1 := by decide +kernel
abbrev rmX5_many : Room := { frames := 4, cells := 0, slots := 0, locals := 86 }
set_option maxHeartbeats 4000000 in
set_option maxRecDepth 100000 in
theorem c_X5_many (τ : SX) (a : Nat → Nat) (rws : Nat → Int32) (isv : Int32) (rc : Int32) (nlw : Nat → Int32) (nkd : Nat → Int32) (nbt : Nat → Int32) (nph : Nat → Int32) (ncn : Nat → Int32) (nno : Nat → Int32) (nct : Int32) (nsc : Int32) (nrn : Int32) (nlg : Int32) (ndn : Int32) (nzz : Int32) (bs : Nat → Int32) (tz : Int32) (so : Int32) (fr : Int32) (tt : Int32) (ft : Int32) (bo : Nat → Int32) (bg : Int32) (ak : Int32) (an : Int32) (aa : Int32) (ip : Int32) (x1 : Int32) (hrc0 : 0 ≤ rc.toInt) (hrc : rc.toInt ≤ 10) (hn0 : 0 ≤ nct.toInt) (hn : nct.toInt ≤ 8) (htz0 : 0 ≤ tz.toInt) (htz : tz.toInt ≤ 200) (hbg0 : 0 ≤ bg.toInt) (hbg : bg.toInt ≤ 30) (sz : Nat) : McI τ yX5_many wsX5_many rmX5_many .int [.ref (a 0), .int x1] ((wX τ a rws isv rc) ++ (wT τ (fun j => a (10 + j)) nlw nkd nbt nph ncn nno nct nsc nrn nlg ndn nzz) ++ (wP τ (fun j => a (40 + j)) bs tz so fr tt ft) ++ (wA τ (fun j => a (50 + j)) bo bg ak an aa ip)) (fun _ : Unit => ((wX τ a rws isv rc) ++ (wT τ (fun j => a (10 + j)) nlw nkd nbt nph ncn nno nct nsc nrn nlg ndn nzz) ++ (wP τ (fun j => a (40 + j)) bs tz so fr tt ft) ++ (wA τ (fun j => a (50 + j)) bo bg ak an aa ip))) (f_X5_many rc nlw nkd nbt nph ncn nno nct nsc nrn tz bg x1, ()) sz := by
  refine mc_I (cc := cX5_many) (own := RX5) [(0, .ref (a 0)), (1, .int x1)] rfl (by decide) rfl rfl (Nat.le_of_ble_eq_true rfl) (fun κ C hR => ?_)
  have hiX0 : ∀ w ∈ wsX00, w ∈ wsX5_many := fun w h => List.mem_cons_of_mem _ (List.mem_append_right _ h)
  have hiX3 : ∀ w ∈ wsX30, w ∈ wsX5_many := fun w h => List.mem_cons_of_mem _ (List.mem_append_left _ (List.mem_append_right _ h))
  have hiX4 : ∀ w ∈ wsX40, w ∈ wsX5_many := fun w h => List.mem_cons_of_mem _ (List.mem_append_left _ (List.mem_append_left _ (List.mem_append_right _ h)))
  have hiX5 : ∀ w ∈ wsX50, w ∈ wsX5_many := fun w h => List.mem_cons_of_mem _ (List.mem_append_left _ (List.mem_append_left _ (List.mem_append_left _ (List.mem_append_right _ h))))
  unfold f_X5_many at hR
  refine j_iload_n C dX5_many_0 1 rfl rfl 1 rfl ?_
  by_cases c1 : x1 = 0
  · rw [if_pos c1] at hR
    refine j_tabIn C dX5_many_1 (by rw [c1]; decide) (by rw [c1]; decide) (by rw [c1]; rfl) 44 rfl ?_
    refine j_aload_n C dX5_many_44 45 rfl rfl 0 rfl ?_
    refine j_get C dX5_many_45 48 rfl hiX5 0 rfl rfl 0 (by decide) rfl kX5_many_f10 rfl ?_
    refine j_get C dX5_many_48 51 rfl hiX4 4 rfl rfl 6 (by decide) rfl kX5_many_f76 rfl ?_
    exact Rt.ret (hR) rfl dX5_many_51
  rw [if_neg c1] at hR
  by_cases c4 : x1 = 1
  · rw [if_pos c4] at hR
    refine j_tabIn C dX5_many_1 (by rw [c4]; decide) (by rw [c4]; decide) (by rw [c4]; rfl) 52 rfl ?_
    refine j_aload_n C dX5_many_52 53 rfl rfl 0 rfl ?_
    refine j_get C dX5_many_53 56 rfl hiX5 0 rfl rfl 0 (by decide) rfl kX5_many_f10 rfl ?_
    refine j_cvI (na := 0) C dX5_many_56 59 rfl (c_X4_soundingSet τ (fun j => a (10 + j)) nlw nkd nbt nph ncn nno nct nsc nrn nlg ndn nzz (by first | assumption | decide | exact in_has (by assumption) hn0 hn | exact (in_trial (by assumption) hn0 hn).1 | exact (in_trial (by assumption) hn0 hn).2.2 | exact in_isIn4 (by assumption) | exact in_isIn60 (by assumption) | exact in_isIn30 (by assumption) | exact in_sheet (by assumption) | exact in_shelf (by assumption) | exact vp_in_iff.mpr ⟨by omega, by omega⟩ | exact nz_nle (by assumption) | exact nz_lt (by assumption) | omega)) gX5_many_X4_soundingSet rfl rfl rfl qd_X4_soundingSet rfl ⟨by decide, by decide⟩ ⟨by decide, by decide⟩ rfl (Nat.le_of_ble_eq_true rfl) [4, 5, 6, 7, 8, 9, 10] [0, 1, 2, 3, 11, 12, 13, 14] [0, 1, 2, 3, 8, 9, 10, 11, 12, 13, 14, 4, 5, 6, 7] ((wX τ a rws isv rc) ++ (wP τ (fun j => a (40 + j)) bs tz so fr tt ft) ++ (wA τ (fun j => a (50 + j)) bo bg ak an aa ip)) rfl (by decide) rfl (by decide) (by decide) 4 0 rfl rfl (fun u => ((wX τ a rws isv rc) ++ (wT τ (fun j => a (10 + j)) nlw nkd nbt nph ncn nno nct nsc nrn nlg ndn nzz) ++ (wP τ (fun j => a (40 + j)) bs tz so fr tt ft) ++ (wA τ (fun j => a (50 + j)) bo bg ak an aa ip))) (fun _ => rfl) (by decide) (fun r2 u2 hX2 hn2 => ?_)
    obtain rfl := (Prod.mk.inj hX2).1
    refine j_cs0I (na := 1) C dX5_many_59 62 rfl (c_J6_bitCount_0f7a4 τ  (f_X4_soundingSet nlw nkd nbt nph nct nsc nrn) ) rfl ggX5_many_J6_bitCount_0f7a4 rfl rfl rfl kX5_many_iRJ6 kX5_many_m184 kX5_many_sJ6_bitCount_0f7a4 qd_J6_bitCount_0f7a4 rfl ⟨by decide, by decide⟩ ⟨by decide, by decide⟩ rfl (Nat.le_of_ble_eq_true rfl) (fun r3 u3 hX3 hn3 => ?_)
    obtain rfl := (Prod.mk.inj hX3).1
    exact Rt.ret (hR) rfl dX5_many_62
  rw [if_neg c4] at hR
  by_cases c6 : x1 = 2
  · rw [if_pos c6] at hR
    refine j_tabIn C dX5_many_1 (by rw [c6]; decide) (by rw [c6]; decide) (by rw [c6]; rfl) 63 rfl ?_
    refine j_aload_n C dX5_many_63 64 rfl rfl 0 rfl ?_
    refine j_get C dX5_many_64 67 rfl hiX5 0 rfl rfl 0 (by decide) rfl kX5_many_f10 rfl ?_
    refine j_cvI (na := 0) C dX5_many_67 70 rfl (c_X4_cornersTaken τ (fun j => a (10 + j)) nlw nkd nbt nph ncn nno nct nsc nrn nlg ndn nzz (by first | assumption | decide | exact in_has (by assumption) hn0 hn | exact (in_trial (by assumption) hn0 hn).1 | exact (in_trial (by assumption) hn0 hn).2.2 | exact in_isIn4 (by assumption) | exact in_isIn60 (by assumption) | exact in_isIn30 (by assumption) | exact in_sheet (by assumption) | exact in_shelf (by assumption) | exact vp_in_iff.mpr ⟨by omega, by omega⟩ | exact nz_nle (by assumption) | exact nz_lt (by assumption) | omega)) gX5_many_X4_cornersTaken rfl rfl rfl qd_X4_cornersTaken rfl ⟨by decide, by decide⟩ ⟨by decide, by decide⟩ rfl (Nat.le_of_ble_eq_true rfl) [4, 5, 6, 7, 8, 9, 10] [0, 1, 2, 3, 11, 12, 13, 14] [0, 1, 2, 3, 8, 9, 10, 11, 12, 13, 14, 4, 5, 6, 7] ((wX τ a rws isv rc) ++ (wP τ (fun j => a (40 + j)) bs tz so fr tt ft) ++ (wA τ (fun j => a (50 + j)) bo bg ak an aa ip)) rfl (by decide) rfl (by decide) (by decide) 4 0 rfl rfl (fun u => ((wX τ a rws isv rc) ++ (wT τ (fun j => a (10 + j)) nlw nkd nbt nph ncn nno nct nsc nrn nlg ndn nzz) ++ (wP τ (fun j => a (40 + j)) bs tz so fr tt ft) ++ (wA τ (fun j => a (50 + j)) bo bg ak an aa ip))) (fun _ => rfl) (by decide) (fun r5 u5 hX5 hn5 => ?_)
    obtain rfl := (Prod.mk.inj hX5).1
    exact Rt.ret (hR) rfl dX5_many_70
  rw [if_neg c6] at hR
  by_cases c8 : x1 = 3
  · rw [if_pos c8] at hR
    refine j_tabIn C dX5_many_1 (by rw [c8]; decide) (by rw [c8]; decide) (by rw [c8]; rfl) 71 rfl ?_
    refine j_aload_n C dX5_many_71 72 rfl rfl 0 rfl ?_
    refine j_get C dX5_many_72 75 rfl hiX5 0 rfl rfl 0 (by decide) rfl kX5_many_f10 rfl ?_
    refine j_cvI (na := 0) C dX5_many_75 78 rfl (c_X4_thoseWithNoise τ (fun j => a (10 + j)) nlw nkd nbt nph ncn nno nct nsc nrn nlg ndn nzz (by first | assumption | decide | exact in_has (by assumption) hn0 hn | exact (in_trial (by assumption) hn0 hn).1 | exact (in_trial (by assumption) hn0 hn).2.2 | exact in_isIn4 (by assumption) | exact in_isIn60 (by assumption) | exact in_isIn30 (by assumption) | exact in_sheet (by assumption) | exact in_shelf (by assumption) | exact vp_in_iff.mpr ⟨by omega, by omega⟩ | exact nz_nle (by assumption) | exact nz_lt (by assumption) | omega)) gX5_many_X4_thoseWithNoise rfl rfl rfl qd_X4_thoseWithNoise rfl ⟨by decide, by decide⟩ ⟨by decide, by decide⟩ rfl (Nat.le_of_ble_eq_true rfl) [4, 5, 6, 7, 8, 9, 10] [0, 1, 2, 3, 11, 12, 13, 14] [0, 1, 2, 3, 8, 9, 10, 11, 12, 13, 14, 4, 5, 6, 7] ((wX τ a rws isv rc) ++ (wP τ (fun j => a (40 + j)) bs tz so fr tt ft) ++ (wA τ (fun j => a (50 + j)) bo bg ak an aa ip)) rfl (by decide) rfl (by decide) (by decide) 4 0 rfl rfl (fun u => ((wX τ a rws isv rc) ++ (wT τ (fun j => a (10 + j)) nlw nkd nbt nph ncn nno nct nsc nrn nlg ndn nzz) ++ (wP τ (fun j => a (40 + j)) bs tz so fr tt ft) ++ (wA τ (fun j => a (50 + j)) bo bg ak an aa ip))) (fun _ => rfl) (by decide) (fun r7 u7 hX7 hn7 => ?_)
    obtain rfl := (Prod.mk.inj hX7).1
    exact Rt.ret (hR) rfl dX5_many_78
  rw [if_neg c8] at hR
  by_cases c9 : x1 = 4
  · rw [if_pos c9] at hR
    refine j_tabIn C dX5_many_1 (by rw [c9]; decide) (by rw [c9]; decide) (by rw [c9]; rfl) 79 rfl ?_
    refine j_aload_n C dX5_many_79 80 rfl rfl 0 rfl ?_
    refine j_get C dX5_many_80 83 rfl hiX5 0 rfl rfl 6 (by decide) rfl kX5_many_f73 rfl ?_
    exact Rt.ret (hR) rfl dX5_many_83
  rw [if_neg c9] at hR
  by_cases c10 : x1 = 5
  · rw [if_pos c10] at hR
    refine j_tabIn C dX5_many_1 (by rw [c10]; decide) (by rw [c10]; decide) (by rw [c10]; rfl) 84 rfl ?_
    refine j_aload_n C dX5_many_84 85 rfl rfl 0 rfl ?_
    refine j_get C dX5_many_85 88 rfl hiX5 0 rfl rfl 4 (by decide) rfl kX5_many_f25 rfl ?_
    refine j_get C dX5_many_88 91 rfl hiX3 11 rfl rfl 1 (by decide) rfl kX5_many_f54 rfl ?_
    exact Rt.ret (hR) rfl dX5_many_91
  rw [if_neg c10] at hR
  by_cases c11 : x1 = 6
  · rw [if_pos c11] at hR
    refine j_tabIn C dX5_many_1 (by rw [c11]; decide) (by rw [c11]; decide) (by rw [c11]; rfl) 92 rfl ?_
    refine j_aload_n C dX5_many_92 93 rfl rfl 0 rfl ?_
    refine j_get C dX5_many_93 96 rfl hiX5 0 rfl rfl 9 (by decide) rfl kX5_many_f48 rfl ?_
    refine j_get C dX5_many_96 99 rfl hiX0 13 rfl rfl 1 (by decide) rfl kX5_many_f270 rfl ?_
    exact Rt.ret (hR) rfl dX5_many_99
  rw [if_neg c11] at hR
  refine j_tabOut C dX5_many_1 (by have n1 := lv_neT (a := 0) c1 (by decide); have n4 := lv_neT (a := 1) c4 (by decide); have n6 := lv_neT (a := 2) c6 (by decide); have n8 := lv_neT (a := 3) c8 (by decide); have n9 := lv_neT (a := 4) c9 (by decide); have n10 := lv_neT (a := 5) c10 (by decide); have n11 := lv_neT (a := 6) c11 (by decide); omega) 100 rfl ?_
  refine j_iconst (v := (-1)) C dX5_many_100 101 rfl (by decide) ?_
  exact Rt.ret (hR) rfl dX5_many_101

-- X5_trace main actor
def f_X5_trace (bo : Nat → Int32) (bg : Int32) (x1 : Int32) : Int32 := if ((f_X5_isIn x1 (0 : Int32) (bg - 1)) = 0) then ((-3) : Int32) else (bo (x1).toNatClampNeg)
theorem kX5_trace_f48 : Cond.fieldLink RX5 48 "TwoMinutes" "actor" "LTwoMinutes$Actor;" ∈ wsX5_trace := by decide +kernel
theorem kX5_trace_f270 : Cond.fieldLink RX5 270 "TwoMinutes$Actor" "begun" "I" ∈ wsX5_trace := by decide +kernel
theorem kX5_trace_iRX5 : Cond.initialized yX5_isIn.cls ∈ wsX5_trace := by decide +kernel
theorem kX5_trace_sX5_isIn : Cond.static yX5_isIn ∈ wsX5_trace := by decide +kernel
theorem kX5_trace_m79 : Cond.methodLink RX5 79 yX5_isIn ∈ wsX5_trace := by decide +kernel
theorem kX5_trace_f277 : Cond.fieldLink RX5 277 "TwoMinutes$Actor" "bodies" "[I" ∈ wsX5_trace := by decide +kernel
theorem qd_X5_trace : yX5_trace.cls = RX5 ∧ yX5_trace.cls ≠ "java/lang/invoke/MethodHandle" ∧ yX5_trace.cls ≠ "java/lang/invoke/VarHandle" ∧ (parseMethodDescriptor yX5_trace.desc).map (fun d => d.parameters.length) = some 1 := by decide +kernel
abbrev rmX5_trace : Room := { frames := 1, cells := 0, slots := 0, locals := 22 }
set_option maxHeartbeats 4000000 in
set_option maxRecDepth 100000 in
theorem c_X5_trace (τ : SX) (a : Nat → Nat) (rws : Nat → Int32) (isv : Int32) (rc : Int32) (bo : Nat → Int32) (bg : Int32) (ak : Int32) (an : Int32) (aa : Int32) (ip : Int32) (x1 : Int32) (hrc0 : 0 ≤ rc.toInt) (hrc : rc.toInt ≤ 10) (hbg0 : 0 ≤ bg.toInt) (hbg : bg.toInt ≤ 30) (sz : Nat) : McI τ yX5_trace wsX5_trace rmX5_trace .int [.ref (a 0), .int x1] ((wX τ a rws isv rc) ++ (wA τ (fun j => a (50 + j)) bo bg ak an aa ip)) (fun _ : Unit => ((wX τ a rws isv rc) ++ (wA τ (fun j => a (50 + j)) bo bg ak an aa ip))) (f_X5_trace bo bg x1, ()) sz := by
  refine mc_I (cc := cX5_trace) (own := RX5) [(0, .ref (a 0)), (1, .int x1)] rfl (by decide) rfl rfl (Nat.le_of_ble_eq_true rfl) (fun κ C hR => ?_)
  have hiX0 : ∀ w ∈ wsX00, w ∈ wsX5_trace := fun w h => List.mem_cons_of_mem _ (List.mem_append_right _ h)
  have hiX5 : ∀ w ∈ wsX50, w ∈ wsX5_trace := fun w h => List.mem_cons_of_mem _ (List.mem_append_left _ (List.mem_append_right _ h))
  unfold f_X5_trace at hR
  refine j_iload_n C dX5_trace_0 1 rfl rfl 1 rfl ?_
  refine j_iconst (v := 0) C dX5_trace_1 2 rfl (by decide) ?_
  refine j_aload_n C dX5_trace_2 3 rfl rfl 0 rfl ?_
  refine j_get C dX5_trace_3 6 rfl hiX5 0 rfl rfl 9 (by decide) rfl kX5_trace_f48 rfl ?_
  refine j_get C dX5_trace_6 9 rfl hiX0 4 rfl rfl 1 (by decide) rfl kX5_trace_f270 rfl ?_
  refine j_iconst (v := 1) C dX5_trace_9 10 rfl (by decide) ?_
  refine j_isub C dX5_trace_10 11 rfl ?_
  refine j_cs0I (na := 3) C dX5_trace_11 14 rfl (c_X5_isIn τ  x1 (0 : Int32) (bg - 1) ) rfl ggX5_trace_X5_isIn rfl rfl rfl kX5_trace_iRX5 kX5_trace_m79 kX5_trace_sX5_isIn qd_X5_isIn rfl ⟨by decide, by decide⟩ ⟨by decide, by decide⟩ rfl (Nat.le_of_ble_eq_true rfl) (fun r1 u1 hX1 hn1 => ?_)
  obtain rfl := (Prod.mk.inj hX1).1
  refine j_if_eq C dX5_trace_14 29 rfl 17 rfl (fun c2 => ?_) (fun c2 => ?_)
  · rw [if_pos c2] at hR
    refine j_bipush (v := (-3)) C dX5_trace_29 31 rfl (by decide) ?_
    exact Rt.ret (hR) rfl dX5_trace_31
  · rw [if_neg c2] at hR
    refine j_aload_n C dX5_trace_17 18 rfl rfl 0 rfl ?_
    refine j_get C dX5_trace_18 21 rfl hiX5 0 rfl rfl 9 (by decide) rfl kX5_trace_f48 rfl ?_
    refine j_get C dX5_trace_21 24 rfl hiX0 4 rfl rfl 0 (by decide) rfl kX5_trace_f277 rfl ?_
    refine j_iload_n C dX5_trace_24 25 rfl rfl 1 rfl ?_
    refine j_iald C dX5_trace_25 26 rfl 5 rfl (by first | assumption | exact vps30 (by assumption) hbg0 hbg) (x1).toNatClampNeg rfl ?_
    refine j_goto C dX5_trace_26 31 rfl ?_
    exact Rt.ret (hR) rfl dX5_trace_31

