theorem hold_lt {nct vw vn : Int32} (c : ¬ f_X5_holdsPerson nct vw vn = 0) (h0 : 0 ≤ nct.toInt) : ((vn.toNatClampNeg : Nat) : Int) < nct.toInt := by
  unfold f_X5_holdsPerson at c
  by_cases c1 : vw = 0
  · rw [if_pos c1] at c
    by_cases c2 : f_X4_has nct vn = 0
    · rw [if_pos c2] at c; exact absurd rfl c
    · have h := in_hasI c2 h0
      show ((vn.toInt.toNat : Nat) : Int) < nct.toInt
      omega
  · rw [if_neg c1] at c; exact absurd rfl c

-- X5_act main actor shelves now
def f_X5_act (nkd : Nat → Int32) (nbt : Nat → Int32) (nct : Int32) (bo : Nat → Int32) (ak : Int32) (an : Int32) (aa : Int32) (ip : Int32) (shw : Nat → Int32) (shn : Nat → Int32) (x1 : Int32) (x2 : Int32) (x3 : Int32) : Int32 × (Nat → Int32) × Int32 × Int32 × Int32 × Int32 × Int32 := if ((f_X5_isShelf x1) = 0) then ((0 : Int32), bo, (0 : Int32), ak, an, aa, ip) else (if ((f_X5_isIn x2 (0 : Int32) (3 : Int32)) = 0) then ((0 : Int32), bo, (0 : Int32), ak, an, aa, ip) else (if ((f_X5_holdsPerson nct (shw (x1).toNatClampNeg) (shn (x1).toNatClampNeg)) = 0) then ((0 : Int32), bo, (0 : Int32), ak, an, aa, ip) else (pr7 (f_X0_play bo (nkd ((shn (x1).toNatClampNeg)).toNatClampNeg) (shn (x1).toNatClampNeg) (nbt ((shn (x1).toNatClampNeg)).toNatClampNeg) x2 x3) (fun r7 bo_7 bg_7 ak_7 an_7 aa_7 ip_7 => (r7, bo_7, bg_7, ak_7, an_7, aa_7, ip_7)))))
theorem kX5_act_f48 : Cond.fieldLink RX5 48 "TwoMinutes" "actor" "LTwoMinutes$Actor;" ∈ wsX5_act := by decide +kernel
theorem kX5_act_f270 : Cond.fieldLink RX5 270 "TwoMinutes$Actor" "begun" "I" ∈ wsX5_act := by decide +kernel
theorem kX5_act_iRX5 : Cond.initialized yX5_isIn.cls ∈ wsX5_act := by decide +kernel
theorem kX5_act_sX5_isShelf : Cond.static yX5_isShelf ∈ wsX5_act := by decide +kernel
theorem kX5_act_m243 : Cond.methodLink RX5 243 yX5_isShelf ∈ wsX5_act := by decide +kernel
theorem kX5_act_sX5_isIn : Cond.static yX5_isIn ∈ wsX5_act := by decide +kernel
theorem kX5_act_m79 : Cond.methodLink RX5 79 yX5_isIn ∈ wsX5_act := by decide +kernel
theorem kX5_act_f41 : Cond.fieldLink RX5 41 "TwoMinutes" "shelves" "[LTwoMinutes$Shelf;" ∈ wsX5_act := by decide +kernel
theorem kX5_act_f264 : Cond.fieldLink RX5 264 "TwoMinutes$Shelf" "number" "I" ∈ wsX5_act := by decide +kernel
theorem kX5_act_f10 : Cond.fieldLink RX5 10 "TwoMinutes" "now" "LTwoMinutes$Town;" ∈ wsX5_act := by decide +kernel
theorem kX5_act_f106 : Cond.fieldLink RX5 106 "TwoMinutes$Town" "kinds" "[I" ∈ wsX5_act := by decide +kernel
theorem kX5_act_f109 : Cond.fieldLink RX5 109 "TwoMinutes$Town" "beats" "[I" ∈ wsX5_act := by decide +kernel
theorem qd_X5_act : yX5_act.cls = RX5 ∧ yX5_act.cls ≠ "java/lang/invoke/MethodHandle" ∧ yX5_act.cls ≠ "java/lang/invoke/VarHandle" ∧ (parseMethodDescriptor yX5_act.desc).map (fun d => d.parameters.length) = some 3 := by decide +kernel
abbrev rmX5_act : Room := { frames := 11, cells := 0, slots := 0, locals := 259 }
set_option maxHeartbeats 4000000 in
set_option maxRecDepth 100000 in
theorem c_X5_act (τ : SX) (a : Nat → Nat) (rws : Nat → Int32) (isv : Int32) (rc : Int32) (nlw : Nat → Int32) (nkd : Nat → Int32) (nbt : Nat → Int32) (nph : Nat → Int32) (ncn : Nat → Int32) (nno : Nat → Int32) (nct : Int32) (nsc : Int32) (nrn : Int32) (nlg : Int32) (ndn : Int32) (nzz : Int32) (bo : Nat → Int32) (bg : Int32) (ak : Int32) (an : Int32) (aa : Int32) (ip : Int32) (shw : Nat → Int32) (shn : Nat → Int32) (shs : Nat → Int32) (shz : Nat → Int32) (x1 : Int32) (x2 : Int32) (x3 : Int32) (hrc0 : 0 ≤ rc.toInt) (hrc : rc.toInt ≤ 10) (hn0 : 0 ≤ nct.toInt) (hn : nct.toInt ≤ 8) (hbg0 : 0 ≤ bg.toInt) (hbg : bg.toInt ≤ 30) (hkd : ∀ k : Nat, (k : Int) < nct.toInt → nkd k = 0 ∨ nkd k = 1 ∨ nkd k = 2 ∨ nkd k = 3 ∨ nkd k = 4 ∨ nkd k = 5) (sz : Nat) : McI τ yX5_act wsX5_act rmX5_act .int [.ref (a 0), .int x1, .int x2, .int x3] ((wX τ a rws isv rc) ++ (wT τ (fun j => a (10 + j)) nlw nkd nbt nph ncn nno nct nsc nrn nlg ndn nzz) ++ (wA τ (fun j => a (50 + j)) bo bg ak an aa ip) ++ (wHH τ a shw shn shs shz)) (fun u : (Nat → Int32) × Int32 × Int32 × Int32 × Int32 × Int32 => ((wX τ a rws isv rc) ++ (wT τ (fun j => a (10 + j)) nlw nkd nbt nph ncn nno nct nsc nrn nlg ndn nzz) ++ (wA τ (fun j => a (50 + j)) u.1 u.2.1 u.2.2.1 u.2.2.2.1 u.2.2.2.2.1 u.2.2.2.2.2) ++ (wHH τ a shw shn shs shz))) (f_X5_act nkd nbt nct bo ak an aa ip shw shn x1 x2 x3) sz := by
  refine mc_I (cc := cX5_act) (own := RX5) [(0, .ref (a 0)), (1, .int x1), (2, .int x2), (3, .int x3)] rfl (by decide) rfl rfl (Nat.le_of_ble_eq_true rfl) (fun κ C hR => ?_)
  have hiX4 : ∀ w ∈ wsX40, w ∈ wsX5_act := fun w h => List.mem_cons_of_mem _ (List.mem_append_right _ h)
  have hiX2 : ∀ w ∈ wsX20, w ∈ wsX5_act := fun w h => List.mem_cons_of_mem _ (List.mem_append_left _ (List.mem_append_right _ h))
  have hiX0 : ∀ w ∈ wsX00, w ∈ wsX5_act := fun w h => List.mem_cons_of_mem _ (List.mem_append_left _ (List.mem_append_left _ (List.mem_append_right _ h)))
  have hiX5 : ∀ w ∈ wsX50, w ∈ wsX5_act := fun w h => List.mem_cons_of_mem _ (List.mem_append_left _ (List.mem_append_left _ (List.mem_append_left _ (List.mem_append_right _ h))))
  unfold f_X5_act at hR
  refine j_aload_n C dX5_act_0 1 rfl rfl 0 rfl ?_
  refine j_get C dX5_act_1 4 rfl hiX5 0 rfl rfl 9 (by decide) rfl kX5_act_f48 rfl ?_
  refine j_iconst (v := 0) C dX5_act_4 5 rfl (by decide) ?_
  refine j_put C dX5_act_5 8 rfl hiX0 tyX0_ok nmX0 11 rfl rfl 1 (by decide) rfl kX5_act_f270 rfl rfl rfl (Nat.le_of_ble_eq_true rfl) ((wX τ a rws isv rc) ++ (wT τ (fun j => a (10 + j)) nlw nkd nbt nph ncn nno nct nsc nrn nlg ndn nzz) ++ (wA τ (fun j => a (50 + j)) bo 0 ak an aa ip) ++ (wHH τ a shw shn shs shz)) rfl ?_
  refine j_iload_n C dX5_act_8 9 rfl rfl 1 rfl ?_
  refine j_cs0I (na := 1) C dX5_act_9 12 rfl (c_X5_isShelf τ  x1 ) rfl ggX5_act_X5_isShelf rfl rfl rfl kX5_act_iRX5 kX5_act_m243 kX5_act_sX5_isShelf qd_X5_isShelf rfl ⟨by decide, by decide⟩ ⟨by decide, by decide⟩ rfl (Nat.le_of_ble_eq_true rfl) (fun r1 u1 hX1 hn1 => ?_)
  obtain rfl := (Prod.mk.inj hX1).1
  refine j_if_eq C dX5_act_12 37 rfl 15 rfl (fun c2 => ?_) (fun c2 => ?_)
  · rw [if_pos c2] at hR
    refine j_iconst (v := 0) C dX5_act_37 38 rfl (by decide) ?_
    exact Rt.ret (hR) rfl dX5_act_38
  · rw [if_neg c2] at hR
    refine j_iload_n C dX5_act_15 16 rfl rfl 2 rfl ?_
    refine j_iconst (v := 0) C dX5_act_16 17 rfl (by decide) ?_
    refine j_iconst (v := 3) C dX5_act_17 18 rfl (by decide) ?_
    refine j_cs0I (na := 3) C dX5_act_18 21 rfl (c_X5_isIn τ  x2 (0 : Int32) (3 : Int32) ) rfl ggX5_act_X5_isIn rfl rfl rfl kX5_act_iRX5 kX5_act_m79 kX5_act_sX5_isIn qd_X5_isIn rfl ⟨by decide, by decide⟩ ⟨by decide, by decide⟩ rfl (Nat.le_of_ble_eq_true rfl) (fun r3 u3 hX3 hn3 => ?_)
    obtain rfl := (Prod.mk.inj hX3).1
    refine j_if_eq C dX5_act_21 37 rfl 24 rfl (fun c4 => ?_) (fun c4 => ?_)
    · rw [if_pos c4] at hR
      refine j_iconst (v := 0) C dX5_act_37 38 rfl (by decide) ?_
      exact Rt.ret (hR) rfl dX5_act_38
    · rw [if_neg c4] at hR
      refine j_aload_n C dX5_act_24 25 rfl rfl 0 rfl ?_
      refine j_aload_n C dX5_act_25 26 rfl rfl 0 rfl ?_
      refine j_get C dX5_act_26 29 rfl hiX5 0 rfl rfl 8 (by decide) rfl kX5_act_f41 rfl ?_
      refine j_iload_n C dX5_act_29 30 rfl rfl 1 rfl ?_
      rcases four_of (n := x1) (in_shelf c2) with rfl | rfl | rfl | rfl
      · try rw [show (0 : Int32).toNatClampNeg = 0 from rfl] at hR
        refine j_aald (t0 := 3) (b := (a 70)) (N := 4) C dX5_act_30 31 rfl 3 rfl rfl (by unfold vp_in; decide) (by rfl) ?_
        refine j_cvI (na := 1) C dX5_act_31 34 rfl (c_X5_holdsPerson τ a (fun j => a (70 + j)) rws isv rc nlw nkd nbt nph ncn nno nct nsc nrn nlg ndn nzz (shw 0) (shn 0) (shs 0) (shz 0) (by first | assumption | (unfold vp_in; decide)) (by first | assumption | (unfold vp_in; decide)) (by first | assumption | (unfold vp_in; decide)) (by first | assumption | (unfold vp_in; decide))) gX5_act_X5_holdsPerson rfl rfl rfl qd_X5_holdsPerson rfl ⟨by decide, by decide⟩ ⟨by decide, by decide⟩ rfl (Nat.le_of_ble_eq_true rfl) [0, 1, 2, 3, 4, 5, 6, 7, 8, 9, 10, 13] [11, 12, 14, 15, 16] [5, 6, 7, 8, 9, 10, 11, 12, 13, 14, 15, 0, 1, 16, 2, 3, 4] ((wA τ (fun j => a (50 + j)) bo 0 ak an aa ip) ++ [(a 71, .inr (2, [.int (shw 1), .int (shn 1), .int (shs 1), .int (shz 1)])), (a 72, .inr (2, [.int (shw 2), .int (shn 2), .int (shs 2), .int (shz 2)])), (a 73, .inr (2, [.int (shw 3), .int (shn 3), .int (shs 3), .int (shz 3)]))]) rfl (by decide) rfl (by decide) (by decide) 5 0 rfl rfl (fun u => ((wX τ a rws isv rc) ++ (wT τ (fun j => a (10 + j)) nlw nkd nbt nph ncn nno nct nsc nrn nlg ndn nzz) ++ (wA τ (fun j => a (50 + j)) bo 0 ak an aa ip) ++ (wHH τ a shw shn shs shz))) (fun _ => rfl) (by decide) (fun r8 u8 hX8 hn8 => ?_)
        obtain rfl := (Prod.mk.inj hX8).1
        refine j_if_ne C dX5_act_34 39 rfl 37 rfl (fun c9 => ?_) (fun c9 => ?_)
        · rw [if_neg c9] at hR
          refine j_aload_n C dX5_act_39 40 rfl rfl 0 rfl ?_
          refine j_get C dX5_act_40 43 rfl hiX5 0 rfl rfl 8 (by decide) rfl kX5_act_f41 rfl ?_
          refine j_iload_n C dX5_act_43 44 rfl rfl 1 rfl ?_
          refine j_aald (t0 := 3) (b := (a 70)) (N := 4) C dX5_act_44 45 rfl 3 rfl rfl (by unfold vp_in; decide) (by rfl) ?_
          refine j_get C dX5_act_45 48 rfl hiX2 13 rfl rfl 1 (by decide) rfl kX5_act_f264 rfl ?_
          refine j_istore C dX5_act_48 50 rfl (by decide) [(4, .int (shn 0)), (0, .ref (a 0)), (1, .int 0), (2, .int x2), (3, .int x3)] rfl ?_
          refine j_aload_n C dX5_act_50 51 rfl rfl 1 rfl ?_
          refine j_get C dX5_act_51 54 rfl hiX5 0 rfl rfl 9 (by decide) rfl kX5_act_f48 rfl ?_
          refine j_aload_n C dX5_act_54 55 rfl rfl 1 rfl ?_
          refine j_get C dX5_act_55 58 rfl hiX5 0 rfl rfl 0 (by decide) rfl kX5_act_f10 rfl ?_
          refine j_get C dX5_act_58 61 rfl hiX4 4 rfl rfl 1 (by decide) rfl kX5_act_f106 rfl ?_
          refine j_iload C dX5_act_61 63 rfl 0 rfl ?_
          refine j_iald C dX5_act_63 64 rfl 6 rfl (hold_in c9 hn0 hn) ((shn 0)).toNatClampNeg rfl ?_
          refine j_iload C dX5_act_64 66 rfl 0 rfl ?_
          refine j_aload_n C dX5_act_66 67 rfl rfl 1 rfl ?_
          refine j_get C dX5_act_67 70 rfl hiX5 0 rfl rfl 0 (by decide) rfl kX5_act_f10 rfl ?_
          refine j_get C dX5_act_70 73 rfl hiX4 4 rfl rfl 2 (by decide) rfl kX5_act_f109 rfl ?_
          refine j_iload C dX5_act_73 75 rfl 0 rfl ?_
          refine j_iald C dX5_act_75 76 rfl 7 rfl (hold_in c9 hn0 hn) ((shn 0)).toNatClampNeg rfl ?_
          refine j_iload_n C dX5_act_76 77 rfl rfl 3 rfl ?_
          refine j_iload_n C dX5_act_77 78 rfl rfl 4 rfl ?_
          refine j_cvI (na := 5) C dX5_act_78 81 rfl (c_X0_play τ (fun j => a (50 + j)) bo 0 ak an aa ip (nkd ((shn 0)).toNatClampNeg) (shn 0) (nbt ((shn 0)).toNatClampNeg) x2 x3 (hkd _ (hold_lt c9 hn0)) (four_of (in_isIn4 c4))) gX5_act_X0_play rfl rfl rfl qd_X0_play rfl ⟨by decide, by decide⟩ ⟨by decide, by decide⟩ rfl (Nat.le_of_ble_eq_true rfl) [11, 12] [0, 1, 2, 3, 4, 5, 6, 7, 8, 9, 10, 13, 14, 15, 16] [0, 1, 2, 3, 4, 5, 6, 7, 8, 9, 10, 15, 16, 11, 12, 13, 14] ((wX τ a rws isv rc) ++ (wT τ (fun j => a (10 + j)) nlw nkd nbt nph ncn nno nct nsc nrn nlg ndn nzz) ++ (wHH τ a shw shn shs shz)) rfl (by decide) rfl (by decide) (by decide) 0 0 rfl rfl (fun u => ((wX τ a rws isv rc) ++ (wT τ (fun j => a (10 + j)) nlw nkd nbt nph ncn nno nct nsc nrn nlg ndn nzz) ++ (wA τ (fun j => a (50 + j)) u.1 u.2.1 u.2.2.1 u.2.2.2.1 u.2.2.2.2.1 u.2.2.2.2.2) ++ (wHH τ a shw shn shs shz))) (fun _ => rfl) (by decide) (fun r10 u10 hX10 hn10 => ?_)
          obtain ⟨bo_10, bg_10, ak_10, an_10, aa_10, ip_10⟩ := u10
          rw [hX10] at hR; rw [pr7_mk r10 bo_10 bg_10 ak_10 an_10 aa_10 ip_10] at hR
          exact Rt.ret (hR) rfl dX5_act_81
        · rw [if_pos c9] at hR
          refine j_iconst (v := 0) C dX5_act_37 38 rfl (by decide) ?_
          exact Rt.ret (hR) rfl dX5_act_38
      · try rw [show (1 : Int32).toNatClampNeg = 1 from rfl] at hR
        refine j_aald (t0 := 3) (b := (a 71)) (N := 4) C dX5_act_30 31 rfl 3 rfl rfl (by unfold vp_in; decide) (by rfl) ?_
        refine j_cvI (na := 1) C dX5_act_31 34 rfl (c_X5_holdsPerson τ a (fun j => a (71 + j)) rws isv rc nlw nkd nbt nph ncn nno nct nsc nrn nlg ndn nzz (shw 1) (shn 1) (shs 1) (shz 1) (by first | assumption | (unfold vp_in; decide)) (by first | assumption | (unfold vp_in; decide)) (by first | assumption | (unfold vp_in; decide)) (by first | assumption | (unfold vp_in; decide))) gX5_act_X5_holdsPerson rfl rfl rfl qd_X5_holdsPerson rfl ⟨by decide, by decide⟩ ⟨by decide, by decide⟩ rfl (Nat.le_of_ble_eq_true rfl) [0, 1, 2, 3, 4, 5, 6, 7, 8, 9, 10, 14] [11, 12, 13, 15, 16] [5, 6, 7, 8, 9, 10, 11, 12, 13, 14, 15, 0, 1, 2, 16, 3, 4] ((wA τ (fun j => a (50 + j)) bo 0 ak an aa ip) ++ [(a 70, .inr (2, [.int (shw 0), .int (shn 0), .int (shs 0), .int (shz 0)])), (a 72, .inr (2, [.int (shw 2), .int (shn 2), .int (shs 2), .int (shz 2)])), (a 73, .inr (2, [.int (shw 3), .int (shn 3), .int (shs 3), .int (shz 3)]))]) rfl (by decide) rfl (by decide) (by decide) 5 0 rfl rfl (fun u => ((wX τ a rws isv rc) ++ (wT τ (fun j => a (10 + j)) nlw nkd nbt nph ncn nno nct nsc nrn nlg ndn nzz) ++ (wA τ (fun j => a (50 + j)) bo 0 ak an aa ip) ++ (wHH τ a shw shn shs shz))) (fun _ => rfl) (by decide) (fun r11 u11 hX11 hn11 => ?_)
        obtain rfl := (Prod.mk.inj hX11).1
        refine j_if_ne C dX5_act_34 39 rfl 37 rfl (fun c12 => ?_) (fun c12 => ?_)
        · rw [if_neg c12] at hR
          refine j_aload_n C dX5_act_39 40 rfl rfl 0 rfl ?_
          refine j_get C dX5_act_40 43 rfl hiX5 0 rfl rfl 8 (by decide) rfl kX5_act_f41 rfl ?_
          refine j_iload_n C dX5_act_43 44 rfl rfl 1 rfl ?_
          refine j_aald (t0 := 3) (b := (a 71)) (N := 4) C dX5_act_44 45 rfl 3 rfl rfl (by unfold vp_in; decide) (by rfl) ?_
          refine j_get C dX5_act_45 48 rfl hiX2 14 rfl rfl 1 (by decide) rfl kX5_act_f264 rfl ?_
          refine j_istore C dX5_act_48 50 rfl (by decide) [(4, .int (shn 1)), (0, .ref (a 0)), (1, .int 1), (2, .int x2), (3, .int x3)] rfl ?_
          refine j_aload_n C dX5_act_50 51 rfl rfl 1 rfl ?_
          refine j_get C dX5_act_51 54 rfl hiX5 0 rfl rfl 9 (by decide) rfl kX5_act_f48 rfl ?_
          refine j_aload_n C dX5_act_54 55 rfl rfl 1 rfl ?_
          refine j_get C dX5_act_55 58 rfl hiX5 0 rfl rfl 0 (by decide) rfl kX5_act_f10 rfl ?_
          refine j_get C dX5_act_58 61 rfl hiX4 4 rfl rfl 1 (by decide) rfl kX5_act_f106 rfl ?_
          refine j_iload C dX5_act_61 63 rfl 0 rfl ?_
          refine j_iald C dX5_act_63 64 rfl 6 rfl (hold_in c12 hn0 hn) ((shn 1)).toNatClampNeg rfl ?_
          refine j_iload C dX5_act_64 66 rfl 0 rfl ?_
          refine j_aload_n C dX5_act_66 67 rfl rfl 1 rfl ?_
          refine j_get C dX5_act_67 70 rfl hiX5 0 rfl rfl 0 (by decide) rfl kX5_act_f10 rfl ?_
          refine j_get C dX5_act_70 73 rfl hiX4 4 rfl rfl 2 (by decide) rfl kX5_act_f109 rfl ?_
          refine j_iload C dX5_act_73 75 rfl 0 rfl ?_
          refine j_iald C dX5_act_75 76 rfl 7 rfl (hold_in c12 hn0 hn) ((shn 1)).toNatClampNeg rfl ?_
          refine j_iload_n C dX5_act_76 77 rfl rfl 3 rfl ?_
          refine j_iload_n C dX5_act_77 78 rfl rfl 4 rfl ?_
          refine j_cvI (na := 5) C dX5_act_78 81 rfl (c_X0_play τ (fun j => a (50 + j)) bo 0 ak an aa ip (nkd ((shn 1)).toNatClampNeg) (shn 1) (nbt ((shn 1)).toNatClampNeg) x2 x3 (hkd _ (hold_lt c12 hn0)) (four_of (in_isIn4 c4))) gX5_act_X0_play rfl rfl rfl qd_X0_play rfl ⟨by decide, by decide⟩ ⟨by decide, by decide⟩ rfl (Nat.le_of_ble_eq_true rfl) [11, 12] [0, 1, 2, 3, 4, 5, 6, 7, 8, 9, 10, 13, 14, 15, 16] [0, 1, 2, 3, 4, 5, 6, 7, 8, 9, 10, 15, 16, 11, 12, 13, 14] ((wX τ a rws isv rc) ++ (wT τ (fun j => a (10 + j)) nlw nkd nbt nph ncn nno nct nsc nrn nlg ndn nzz) ++ (wHH τ a shw shn shs shz)) rfl (by decide) rfl (by decide) (by decide) 0 0 rfl rfl (fun u => ((wX τ a rws isv rc) ++ (wT τ (fun j => a (10 + j)) nlw nkd nbt nph ncn nno nct nsc nrn nlg ndn nzz) ++ (wA τ (fun j => a (50 + j)) u.1 u.2.1 u.2.2.1 u.2.2.2.1 u.2.2.2.2.1 u.2.2.2.2.2) ++ (wHH τ a shw shn shs shz))) (fun _ => rfl) (by decide) (fun r13 u13 hX13 hn13 => ?_)
          obtain ⟨bo_13, bg_13, ak_13, an_13, aa_13, ip_13⟩ := u13
          rw [hX13] at hR; rw [pr7_mk r13 bo_13 bg_13 ak_13 an_13 aa_13 ip_13] at hR
          exact Rt.ret (hR) rfl dX5_act_81
        · rw [if_pos c12] at hR
          refine j_iconst (v := 0) C dX5_act_37 38 rfl (by decide) ?_
          exact Rt.ret (hR) rfl dX5_act_38
      · try rw [show (2 : Int32).toNatClampNeg = 2 from rfl] at hR
        refine j_aald (t0 := 3) (b := (a 72)) (N := 4) C dX5_act_30 31 rfl 3 rfl rfl (by unfold vp_in; decide) (by rfl) ?_
        refine j_cvI (na := 1) C dX5_act_31 34 rfl (c_X5_holdsPerson τ a (fun j => a (72 + j)) rws isv rc nlw nkd nbt nph ncn nno nct nsc nrn nlg ndn nzz (shw 2) (shn 2) (shs 2) (shz 2) (by first | assumption | (unfold vp_in; decide)) (by first | assumption | (unfold vp_in; decide)) (by first | assumption | (unfold vp_in; decide)) (by first | assumption | (unfold vp_in; decide))) gX5_act_X5_holdsPerson rfl rfl rfl qd_X5_holdsPerson rfl ⟨by decide, by decide⟩ ⟨by decide, by decide⟩ rfl (Nat.le_of_ble_eq_true rfl) [0, 1, 2, 3, 4, 5, 6, 7, 8, 9, 10, 15] [11, 12, 13, 14, 16] [5, 6, 7, 8, 9, 10, 11, 12, 13, 14, 15, 0, 1, 2, 3, 16, 4] ((wA τ (fun j => a (50 + j)) bo 0 ak an aa ip) ++ [(a 70, .inr (2, [.int (shw 0), .int (shn 0), .int (shs 0), .int (shz 0)])), (a 71, .inr (2, [.int (shw 1), .int (shn 1), .int (shs 1), .int (shz 1)])), (a 73, .inr (2, [.int (shw 3), .int (shn 3), .int (shs 3), .int (shz 3)]))]) rfl (by decide) rfl (by decide) (by decide) 5 0 rfl rfl (fun u => ((wX τ a rws isv rc) ++ (wT τ (fun j => a (10 + j)) nlw nkd nbt nph ncn nno nct nsc nrn nlg ndn nzz) ++ (wA τ (fun j => a (50 + j)) bo 0 ak an aa ip) ++ (wHH τ a shw shn shs shz))) (fun _ => rfl) (by decide) (fun r14 u14 hX14 hn14 => ?_)
        obtain rfl := (Prod.mk.inj hX14).1
        refine j_if_ne C dX5_act_34 39 rfl 37 rfl (fun c15 => ?_) (fun c15 => ?_)
        · rw [if_neg c15] at hR
          refine j_aload_n C dX5_act_39 40 rfl rfl 0 rfl ?_
          refine j_get C dX5_act_40 43 rfl hiX5 0 rfl rfl 8 (by decide) rfl kX5_act_f41 rfl ?_
          refine j_iload_n C dX5_act_43 44 rfl rfl 1 rfl ?_
          refine j_aald (t0 := 3) (b := (a 72)) (N := 4) C dX5_act_44 45 rfl 3 rfl rfl (by unfold vp_in; decide) (by rfl) ?_
          refine j_get C dX5_act_45 48 rfl hiX2 15 rfl rfl 1 (by decide) rfl kX5_act_f264 rfl ?_
          refine j_istore C dX5_act_48 50 rfl (by decide) [(4, .int (shn 2)), (0, .ref (a 0)), (1, .int 2), (2, .int x2), (3, .int x3)] rfl ?_
          refine j_aload_n C dX5_act_50 51 rfl rfl 1 rfl ?_
          refine j_get C dX5_act_51 54 rfl hiX5 0 rfl rfl 9 (by decide) rfl kX5_act_f48 rfl ?_
          refine j_aload_n C dX5_act_54 55 rfl rfl 1 rfl ?_
          refine j_get C dX5_act_55 58 rfl hiX5 0 rfl rfl 0 (by decide) rfl kX5_act_f10 rfl ?_
          refine j_get C dX5_act_58 61 rfl hiX4 4 rfl rfl 1 (by decide) rfl kX5_act_f106 rfl ?_
          refine j_iload C dX5_act_61 63 rfl 0 rfl ?_
          refine j_iald C dX5_act_63 64 rfl 6 rfl (hold_in c15 hn0 hn) ((shn 2)).toNatClampNeg rfl ?_
          refine j_iload C dX5_act_64 66 rfl 0 rfl ?_
          refine j_aload_n C dX5_act_66 67 rfl rfl 1 rfl ?_
          refine j_get C dX5_act_67 70 rfl hiX5 0 rfl rfl 0 (by decide) rfl kX5_act_f10 rfl ?_
          refine j_get C dX5_act_70 73 rfl hiX4 4 rfl rfl 2 (by decide) rfl kX5_act_f109 rfl ?_
          refine j_iload C dX5_act_73 75 rfl 0 rfl ?_
          refine j_iald C dX5_act_75 76 rfl 7 rfl (hold_in c15 hn0 hn) ((shn 2)).toNatClampNeg rfl ?_
          refine j_iload_n C dX5_act_76 77 rfl rfl 3 rfl ?_
          refine j_iload_n C dX5_act_77 78 rfl rfl 4 rfl ?_
          refine j_cvI (na := 5) C dX5_act_78 81 rfl (c_X0_play τ (fun j => a (50 + j)) bo 0 ak an aa ip (nkd ((shn 2)).toNatClampNeg) (shn 2) (nbt ((shn 2)).toNatClampNeg) x2 x3 (hkd _ (hold_lt c15 hn0)) (four_of (in_isIn4 c4))) gX5_act_X0_play rfl rfl rfl qd_X0_play rfl ⟨by decide, by decide⟩ ⟨by decide, by decide⟩ rfl (Nat.le_of_ble_eq_true rfl) [11, 12] [0, 1, 2, 3, 4, 5, 6, 7, 8, 9, 10, 13, 14, 15, 16] [0, 1, 2, 3, 4, 5, 6, 7, 8, 9, 10, 15, 16, 11, 12, 13, 14] ((wX τ a rws isv rc) ++ (wT τ (fun j => a (10 + j)) nlw nkd nbt nph ncn nno nct nsc nrn nlg ndn nzz) ++ (wHH τ a shw shn shs shz)) rfl (by decide) rfl (by decide) (by decide) 0 0 rfl rfl (fun u => ((wX τ a rws isv rc) ++ (wT τ (fun j => a (10 + j)) nlw nkd nbt nph ncn nno nct nsc nrn nlg ndn nzz) ++ (wA τ (fun j => a (50 + j)) u.1 u.2.1 u.2.2.1 u.2.2.2.1 u.2.2.2.2.1 u.2.2.2.2.2) ++ (wHH τ a shw shn shs shz))) (fun _ => rfl) (by decide) (fun r16 u16 hX16 hn16 => ?_)
          obtain ⟨bo_16, bg_16, ak_16, an_16, aa_16, ip_16⟩ := u16
          rw [hX16] at hR; rw [pr7_mk r16 bo_16 bg_16 ak_16 an_16 aa_16 ip_16] at hR
          exact Rt.ret (hR) rfl dX5_act_81
        · rw [if_pos c15] at hR
          refine j_iconst (v := 0) C dX5_act_37 38 rfl (by decide) ?_
          exact Rt.ret (hR) rfl dX5_act_38
      · try rw [show (3 : Int32).toNatClampNeg = 3 from rfl] at hR
        refine j_aald (t0 := 3) (b := (a 73)) (N := 4) C dX5_act_30 31 rfl 3 rfl rfl (by unfold vp_in; decide) (by rfl) ?_
        refine j_cvI (na := 1) C dX5_act_31 34 rfl (c_X5_holdsPerson τ a (fun j => a (73 + j)) rws isv rc nlw nkd nbt nph ncn nno nct nsc nrn nlg ndn nzz (shw 3) (shn 3) (shs 3) (shz 3) (by first | assumption | (unfold vp_in; decide)) (by first | assumption | (unfold vp_in; decide)) (by first | assumption | (unfold vp_in; decide)) (by first | assumption | (unfold vp_in; decide))) gX5_act_X5_holdsPerson rfl rfl rfl qd_X5_holdsPerson rfl ⟨by decide, by decide⟩ ⟨by decide, by decide⟩ rfl (Nat.le_of_ble_eq_true rfl) [0, 1, 2, 3, 4, 5, 6, 7, 8, 9, 10, 16] [11, 12, 13, 14, 15] [5, 6, 7, 8, 9, 10, 11, 12, 13, 14, 15, 0, 1, 2, 3, 4, 16] ((wA τ (fun j => a (50 + j)) bo 0 ak an aa ip) ++ [(a 70, .inr (2, [.int (shw 0), .int (shn 0), .int (shs 0), .int (shz 0)])), (a 71, .inr (2, [.int (shw 1), .int (shn 1), .int (shs 1), .int (shz 1)])), (a 72, .inr (2, [.int (shw 2), .int (shn 2), .int (shs 2), .int (shz 2)]))]) rfl (by decide) rfl (by decide) (by decide) 5 0 rfl rfl (fun u => ((wX τ a rws isv rc) ++ (wT τ (fun j => a (10 + j)) nlw nkd nbt nph ncn nno nct nsc nrn nlg ndn nzz) ++ (wA τ (fun j => a (50 + j)) bo 0 ak an aa ip) ++ (wHH τ a shw shn shs shz))) (fun _ => rfl) (by decide) (fun r17 u17 hX17 hn17 => ?_)
        obtain rfl := (Prod.mk.inj hX17).1
        refine j_if_ne C dX5_act_34 39 rfl 37 rfl (fun c18 => ?_) (fun c18 => ?_)
        · rw [if_neg c18] at hR
          refine j_aload_n C dX5_act_39 40 rfl rfl 0 rfl ?_
          refine j_get C dX5_act_40 43 rfl hiX5 0 rfl rfl 8 (by decide) rfl kX5_act_f41 rfl ?_
          refine j_iload_n C dX5_act_43 44 rfl rfl 1 rfl ?_
          refine j_aald (t0 := 3) (b := (a 73)) (N := 4) C dX5_act_44 45 rfl 3 rfl rfl (by unfold vp_in; decide) (by rfl) ?_
          refine j_get C dX5_act_45 48 rfl hiX2 16 rfl rfl 1 (by decide) rfl kX5_act_f264 rfl ?_
          refine j_istore C dX5_act_48 50 rfl (by decide) [(4, .int (shn 3)), (0, .ref (a 0)), (1, .int 3), (2, .int x2), (3, .int x3)] rfl ?_
          refine j_aload_n C dX5_act_50 51 rfl rfl 1 rfl ?_
          refine j_get C dX5_act_51 54 rfl hiX5 0 rfl rfl 9 (by decide) rfl kX5_act_f48 rfl ?_
          refine j_aload_n C dX5_act_54 55 rfl rfl 1 rfl ?_
          refine j_get C dX5_act_55 58 rfl hiX5 0 rfl rfl 0 (by decide) rfl kX5_act_f10 rfl ?_
          refine j_get C dX5_act_58 61 rfl hiX4 4 rfl rfl 1 (by decide) rfl kX5_act_f106 rfl ?_
          refine j_iload C dX5_act_61 63 rfl 0 rfl ?_
          refine j_iald C dX5_act_63 64 rfl 6 rfl (hold_in c18 hn0 hn) ((shn 3)).toNatClampNeg rfl ?_
          refine j_iload C dX5_act_64 66 rfl 0 rfl ?_
          refine j_aload_n C dX5_act_66 67 rfl rfl 1 rfl ?_
          refine j_get C dX5_act_67 70 rfl hiX5 0 rfl rfl 0 (by decide) rfl kX5_act_f10 rfl ?_
          refine j_get C dX5_act_70 73 rfl hiX4 4 rfl rfl 2 (by decide) rfl kX5_act_f109 rfl ?_
          refine j_iload C dX5_act_73 75 rfl 0 rfl ?_
          refine j_iald C dX5_act_75 76 rfl 7 rfl (hold_in c18 hn0 hn) ((shn 3)).toNatClampNeg rfl ?_
          refine j_iload_n C dX5_act_76 77 rfl rfl 3 rfl ?_
          refine j_iload_n C dX5_act_77 78 rfl rfl 4 rfl ?_
          refine j_cvI (na := 5) C dX5_act_78 81 rfl (c_X0_play τ (fun j => a (50 + j)) bo 0 ak an aa ip (nkd ((shn 3)).toNatClampNeg) (shn 3) (nbt ((shn 3)).toNatClampNeg) x2 x3 (hkd _ (hold_lt c18 hn0)) (four_of (in_isIn4 c4))) gX5_act_X0_play rfl rfl rfl qd_X0_play rfl ⟨by decide, by decide⟩ ⟨by decide, by decide⟩ rfl (Nat.le_of_ble_eq_true rfl) [11, 12] [0, 1, 2, 3, 4, 5, 6, 7, 8, 9, 10, 13, 14, 15, 16] [0, 1, 2, 3, 4, 5, 6, 7, 8, 9, 10, 15, 16, 11, 12, 13, 14] ((wX τ a rws isv rc) ++ (wT τ (fun j => a (10 + j)) nlw nkd nbt nph ncn nno nct nsc nrn nlg ndn nzz) ++ (wHH τ a shw shn shs shz)) rfl (by decide) rfl (by decide) (by decide) 0 0 rfl rfl (fun u => ((wX τ a rws isv rc) ++ (wT τ (fun j => a (10 + j)) nlw nkd nbt nph ncn nno nct nsc nrn nlg ndn nzz) ++ (wA τ (fun j => a (50 + j)) u.1 u.2.1 u.2.2.1 u.2.2.2.1 u.2.2.2.2.1 u.2.2.2.2.2) ++ (wHH τ a shw shn shs shz))) (fun _ => rfl) (by decide) (fun r19 u19 hX19 hn19 => ?_)
          obtain ⟨bo_19, bg_19, ak_19, an_19, aa_19, ip_19⟩ := u19
          rw [hX19] at hR; rw [pr7_mk r19 bo_19 bg_19 ak_19 an_19 aa_19 ip_19] at hR
          exact Rt.ret (hR) rfl dX5_act_81
        · rw [if_pos c18] at hR
          refine j_iconst (v := 0) C dX5_act_37 38 rfl (by decide) ?_
          exact Rt.ret (hR) rfl dX5_act_38

