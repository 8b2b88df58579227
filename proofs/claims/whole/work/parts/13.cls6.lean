-- X5_taken main shelves now
def f_X5_taken (nkd : Nat → Int32) (nct : Int32) (shw : Nat → Int32) (shn : Nat → Int32) (shs : Nat → Int32) (shz : Nat → Int32) (x1 : Int32) (x2 : Int32) : Int32 := if ((f_X5_isShelf x1) = 0) then ((-1) : Int32) else (if ((f_X5_isKind x2) = 0) then (if ((f_X5_isIn x2 (10 : Int32) (13 : Int32)) = 0) then ((-1) : Int32) else (if ((f_X5_holdsPerson nct (shw (x1).toNatClampNeg) (shn (x1).toNatClampNeg)) = 0) then (if ((shw (x1).toNatClampNeg) = 1) then (if (x2 < 10) then (if ((f_X5_holdsPerson nct (shw (x1).toNatClampNeg) (shn (x1).toNatClampNeg)) = 0) then ((-13) : Int32) else (if ((f_X5_isUnder (nkd ((shn (x1).toNatClampNeg)).toNatClampNeg) x2) = 0) then ((-13) : Int32) else (shn (x1).toNatClampNeg))) else (if ((f_X5_holdsPerson nct (shw (x1).toNatClampNeg) (shn (x1).toNatClampNeg)) = 0) then (if ((shs (x1).toNatClampNeg) = (x2 - 10)) then (shz (x1).toNatClampNeg) else ((-13) : Int32)) else ((-13) : Int32))) else ((-11) : Int32)) else (if (x2 < 10) then (if ((f_X5_holdsPerson nct (shw (x1).toNatClampNeg) (shn (x1).toNatClampNeg)) = 0) then ((-13) : Int32) else (if ((f_X5_isUnder (nkd ((shn (x1).toNatClampNeg)).toNatClampNeg) x2) = 0) then ((-13) : Int32) else (shn (x1).toNatClampNeg))) else (if ((f_X5_holdsPerson nct (shw (x1).toNatClampNeg) (shn (x1).toNatClampNeg)) = 0) then (if ((shs (x1).toNatClampNeg) = (x2 - 10)) then (shz (x1).toNatClampNeg) else ((-13) : Int32)) else ((-13) : Int32))))) else (if ((f_X5_holdsPerson nct (shw (x1).toNatClampNeg) (shn (x1).toNatClampNeg)) = 0) then (if ((shw (x1).toNatClampNeg) = 1) then (if (x2 < 10) then (if ((f_X5_holdsPerson nct (shw (x1).toNatClampNeg) (shn (x1).toNatClampNeg)) = 0) then ((-13) : Int32) else (if ((f_X5_isUnder (nkd ((shn (x1).toNatClampNeg)).toNatClampNeg) x2) = 0) then ((-13) : Int32) else (shn (x1).toNatClampNeg))) else (if ((f_X5_holdsPerson nct (shw (x1).toNatClampNeg) (shn (x1).toNatClampNeg)) = 0) then (if ((shs (x1).toNatClampNeg) = (x2 - 10)) then (shz (x1).toNatClampNeg) else ((-13) : Int32)) else ((-13) : Int32))) else ((-11) : Int32)) else (if (x2 < 10) then (if ((f_X5_holdsPerson nct (shw (x1).toNatClampNeg) (shn (x1).toNatClampNeg)) = 0) then ((-13) : Int32) else (if ((f_X5_isUnder (nkd ((shn (x1).toNatClampNeg)).toNatClampNeg) x2) = 0) then ((-13) : Int32) else (shn (x1).toNatClampNeg))) else (if ((f_X5_holdsPerson nct (shw (x1).toNatClampNeg) (shn (x1).toNatClampNeg)) = 0) then (if ((shs (x1).toNatClampNeg) = (x2 - 10)) then (shz (x1).toNatClampNeg) else ((-13) : Int32)) else ((-13) : Int32)))))
theorem kX5_taken_iRX5 : Cond.initialized yX5_isUnder.cls ∈ wsX5_taken := by decide +kernel
theorem kX5_taken_sX5_isShelf : Cond.static yX5_isShelf ∈ wsX5_taken := by decide +kernel
theorem kX5_taken_m243 : Cond.methodLink RX5 243 yX5_isShelf ∈ wsX5_taken := by decide +kernel
theorem kX5_taken_sX5_isKind : Cond.static yX5_isKind ∈ wsX5_taken := by decide +kernel
theorem kX5_taken_m92 : Cond.methodLink RX5 92 yX5_isKind ∈ wsX5_taken := by decide +kernel
theorem kX5_taken_sX5_isIn : Cond.static yX5_isIn ∈ wsX5_taken := by decide +kernel
theorem kX5_taken_m79 : Cond.methodLink RX5 79 yX5_isIn ∈ wsX5_taken := by decide +kernel
theorem kX5_taken_f41 : Cond.fieldLink RX5 41 "TwoMinutes" "shelves" "[LTwoMinutes$Shelf;" ∈ wsX5_taken := by decide +kernel
theorem kX5_taken_f259 : Cond.fieldLink RX5 259 "TwoMinutes$Shelf" "what" "I" ∈ wsX5_taken := by decide +kernel
theorem kX5_taken_f10 : Cond.fieldLink RX5 10 "TwoMinutes" "now" "LTwoMinutes$Town;" ∈ wsX5_taken := by decide +kernel
theorem kX5_taken_f106 : Cond.fieldLink RX5 106 "TwoMinutes$Town" "kinds" "[I" ∈ wsX5_taken := by decide +kernel
theorem kX5_taken_f264 : Cond.fieldLink RX5 264 "TwoMinutes$Shelf" "number" "I" ∈ wsX5_taken := by decide +kernel
theorem kX5_taken_sX5_isUnder : Cond.static yX5_isUnder ∈ wsX5_taken := by decide +kernel
theorem kX5_taken_m267 : Cond.methodLink RX5 267 yX5_isUnder ∈ wsX5_taken := by decide +kernel
theorem kX5_taken_f262 : Cond.fieldLink RX5 262 "TwoMinutes$Shelf" "sort" "I" ∈ wsX5_taken := by decide +kernel
theorem kX5_taken_f263 : Cond.fieldLink RX5 263 "TwoMinutes$Shelf" "size" "I" ∈ wsX5_taken := by decide +kernel
theorem qd_X5_taken : yX5_taken.cls = RX5 ∧ yX5_taken.cls ≠ "java/lang/invoke/MethodHandle" ∧ yX5_taken.cls ≠ "java/lang/invoke/VarHandle" ∧ (parseMethodDescriptor yX5_taken.desc).map (fun d => d.parameters.length) = some 2 := by decide +kernel
abbrev rmX5_taken : Room := { frames := 3, cells := 0, slots := 0, locals := 65 }
set_option maxHeartbeats 4000000 in
set_option maxRecDepth 100000 in
theorem c_X5_taken (τ : SX) (a : Nat → Nat) (rws : Nat → Int32) (isv : Int32) (rc : Int32) (nlw : Nat → Int32) (nkd : Nat → Int32) (nbt : Nat → Int32) (nph : Nat → Int32) (ncn : Nat → Int32) (nno : Nat → Int32) (nct : Int32) (nsc : Int32) (nrn : Int32) (nlg : Int32) (ndn : Int32) (nzz : Int32) (shw : Nat → Int32) (shn : Nat → Int32) (shs : Nat → Int32) (shz : Nat → Int32) (x1 : Int32) (x2 : Int32) (hrc0 : 0 ≤ rc.toInt) (hrc : rc.toInt ≤ 10) (hn0 : 0 ≤ nct.toInt) (hn : nct.toInt ≤ 8) (sz : Nat) : McI τ yX5_taken wsX5_taken rmX5_taken .int [.ref (a 0), .int x1, .int x2] ((wX τ a rws isv rc) ++ (wT τ (fun j => a (10 + j)) nlw nkd nbt nph ncn nno nct nsc nrn nlg ndn nzz) ++ (wHH τ a shw shn shs shz)) (fun _ : Unit => ((wX τ a rws isv rc) ++ (wT τ (fun j => a (10 + j)) nlw nkd nbt nph ncn nno nct nsc nrn nlg ndn nzz) ++ (wHH τ a shw shn shs shz))) (f_X5_taken nkd nct shw shn shs shz x1 x2, ()) sz := by
  refine mc_I (cc := cX5_taken) (own := RX5) [(0, .ref (a 0)), (1, .int x1), (2, .int x2)] rfl (by decide) rfl rfl (Nat.le_of_ble_eq_true rfl) (fun κ C hR => ?_)
  have hiX4 : ∀ w ∈ wsX40, w ∈ wsX5_taken := fun w h => List.mem_cons_of_mem _ (List.mem_append_right _ h)
  have hiX2 : ∀ w ∈ wsX20, w ∈ wsX5_taken := fun w h => List.mem_cons_of_mem _ (List.mem_append_left _ (List.mem_append_right _ h))
  have hiX5 : ∀ w ∈ wsX50, w ∈ wsX5_taken := fun w h => List.mem_cons_of_mem _ (List.mem_append_left _ (List.mem_append_left _ (List.mem_append_right _ h)))
  unfold f_X5_taken at hR
  refine j_iload_n C dX5_taken_0 1 rfl rfl 1 rfl ?_
  refine j_cs0I (na := 1) C dX5_taken_1 4 rfl (c_X5_isShelf τ  x1 ) rfl ggX5_taken_X5_isShelf rfl rfl rfl kX5_taken_iRX5 kX5_taken_m243 kX5_taken_sX5_isShelf qd_X5_isShelf rfl ⟨by decide, by decide⟩ ⟨by decide, by decide⟩ rfl (Nat.le_of_ble_eq_true rfl) (fun r1 u1 hX1 hn1 => ?_)
  obtain rfl := (Prod.mk.inj hX1).1
  refine j_if_eq C dX5_taken_4 25 rfl 7 rfl (fun c2 => ?_) (fun c2 => ?_)
  · rw [if_pos c2] at hR
    refine j_iconst (v := (-1)) C dX5_taken_25 26 rfl (by decide) ?_
    exact Rt.ret (hR) rfl dX5_taken_26
  · rw [if_neg c2] at hR
    refine j_iload_n C dX5_taken_7 8 rfl rfl 2 rfl ?_
    refine j_cs0I (na := 1) C dX5_taken_8 11 rfl (c_X5_isKind τ  x2 ) rfl ggX5_taken_X5_isKind rfl rfl rfl kX5_taken_iRX5 kX5_taken_m92 kX5_taken_sX5_isKind qd_X5_isKind rfl ⟨by decide, by decide⟩ ⟨by decide, by decide⟩ rfl (Nat.le_of_ble_eq_true rfl) (fun r3 u3 hX3 hn3 => ?_)
    obtain rfl := (Prod.mk.inj hX3).1
    refine j_if_ne C dX5_taken_11 27 rfl 14 rfl (fun c4 => ?_) (fun c4 => ?_)
    · rw [if_neg c4] at hR
      refine j_aload_n C dX5_taken_27 28 rfl rfl 0 rfl ?_
      refine j_get C dX5_taken_28 31 rfl hiX5 0 rfl rfl 8 (by decide) rfl kX5_taken_f41 rfl ?_
      refine j_iload_n C dX5_taken_31 32 rfl rfl 1 rfl ?_
      rcases four_of (n := x1) (in_shelf c2) with rfl | rfl | rfl | rfl
      · try rw [show (0 : Int32).toNatClampNeg = 0 from rfl] at hR
        refine j_aald (t0 := 3) (b := (a 70)) (N := 4) C dX5_taken_32 33 rfl 3 rfl rfl (by unfold vp_in; decide) (by rfl) ?_
        refine j_astore_n C dX5_taken_33 34 rfl rfl (by decide) [(3, .ref (a 70)), (0, .ref (a 0)), (1, .int 0), (2, .int x2)] rfl ?_
        refine j_aload_n C dX5_taken_34 35 rfl rfl 1 rfl ?_
        refine j_aload_n C dX5_taken_35 36 rfl rfl 0 rfl ?_
        refine j_cvI (na := 1) C dX5_taken_36 39 rfl (c_X5_holdsPerson τ a (fun j => a (70 + j)) rws isv rc nlw nkd nbt nph ncn nno nct nsc nrn nlg ndn nzz (shw 0) (shn 0) (shs 0) (shz 0) (by first | assumption | (unfold vp_in; decide)) (by first | assumption | (unfold vp_in; decide)) (by first | assumption | (unfold vp_in; decide)) (by first | assumption | (unfold vp_in; decide))) gX5_taken_X5_holdsPerson rfl rfl rfl qd_X5_holdsPerson rfl ⟨by decide, by decide⟩ ⟨by decide, by decide⟩ rfl (Nat.le_of_ble_eq_true rfl) [0, 1, 2, 3, 4, 5, 6, 7, 8, 9, 10, 11] [12, 13, 14] [3, 4, 5, 6, 7, 8, 9, 10, 11, 12, 13, 14, 0, 1, 2] ([(a 71, .inr (2, [.int (shw 1), .int (shn 1), .int (shs 1), .int (shz 1)])), (a 72, .inr (2, [.int (shw 2), .int (shn 2), .int (shs 2), .int (shz 2)])), (a 73, .inr (2, [.int (shw 3), .int (shn 3), .int (shs 3), .int (shz 3)]))]) rfl (by decide) rfl (by decide) (by decide) 5 0 rfl rfl (fun u => ((wX τ a rws isv rc) ++ (wT τ (fun j => a (10 + j)) nlw nkd nbt nph ncn nno nct nsc nrn nlg ndn nzz) ++ (wHH τ a shw shn shs shz))) (fun _ => rfl) (by decide) (fun r97 u97 hX97 hn97 => ?_)
        obtain rfl := (Prod.mk.inj hX97).1
        refine j_istore C dX5_taken_39 41 rfl (by decide) [(4, .int (f_X5_holdsPerson nct (shw 0) (shn 0))), (3, .ref (a 70)), (0, .ref (a 0)), (1, .int 0), (2, .int x2)] rfl ?_
        refine j_iload C dX5_taken_41 43 rfl 0 rfl ?_
        refine j_if_ne C dX5_taken_43 57 rfl 46 rfl (fun c98 => ?_) (fun c98 => ?_)
        · rw [if_neg c98] at hR
          refine j_iload_n C dX5_taken_57 58 rfl rfl 4 rfl ?_
          refine j_bipush (v := 10) C dX5_taken_58 60 rfl (by decide) ?_
          refine j_icmp_lt C dX5_taken_60 89 rfl 63 rfl (fun c106 => ?_) (fun c106 => ?_)
          · rw [if_pos c106] at hR
            refine j_iload C dX5_taken_89 91 rfl 0 rfl ?_
            refine j_if_eq C dX5_taken_91 120 rfl 94 rfl (fun c107 => ?_) (fun c107 => ?_)
            · rw [if_pos c107] at hR
              refine j_bipush (v := (-13)) C dX5_taken_120 122 rfl (by decide) ?_
              exact Rt.ret (hR) rfl dX5_taken_122
            · rw [if_neg c107] at hR
              refine j_aload_n C dX5_taken_94 95 rfl rfl 2 rfl ?_
              refine j_get C dX5_taken_95 98 rfl hiX5 0 rfl rfl 0 (by decide) rfl kX5_taken_f10 rfl ?_
              refine j_get C dX5_taken_98 101 rfl hiX4 4 rfl rfl 1 (by decide) rfl kX5_taken_f106 rfl ?_
              refine j_aload_n C dX5_taken_101 102 rfl rfl 1 rfl ?_
              refine j_get C dX5_taken_102 105 rfl hiX2 11 rfl rfl 1 (by decide) rfl kX5_taken_f264 rfl ?_
              refine j_iald C dX5_taken_105 106 rfl 6 rfl (hold_in c107 hn0 hn) ((shn 0)).toNatClampNeg rfl ?_
              refine j_iload_n C dX5_taken_106 107 rfl rfl 4 rfl ?_
              refine j_cs0I (na := 2) C dX5_taken_107 110 rfl (c_X5_isUnder τ  (nkd ((shn 0)).toNatClampNeg) x2 ) rfl ggX5_taken_X5_isUnder rfl rfl rfl kX5_taken_iRX5 kX5_taken_m267 kX5_taken_sX5_isUnder qd_X5_isUnder rfl ⟨by decide, by decide⟩ ⟨by decide, by decide⟩ rfl (Nat.le_of_ble_eq_true rfl) (fun r108 u108 hX108 hn108 => ?_)
              obtain rfl := (Prod.mk.inj hX108).1
              refine j_if_eq C dX5_taken_110 120 rfl 113 rfl (fun c109 => ?_) (fun c109 => ?_)
              · rw [if_pos c109] at hR
                refine j_bipush (v := (-13)) C dX5_taken_120 122 rfl (by decide) ?_
                exact Rt.ret (hR) rfl dX5_taken_122
              · rw [if_neg c109] at hR
                refine j_aload_n C dX5_taken_113 114 rfl rfl 1 rfl ?_
                refine j_get C dX5_taken_114 117 rfl hiX2 11 rfl rfl 1 (by decide) rfl kX5_taken_f264 rfl ?_
                refine j_goto C dX5_taken_117 122 rfl ?_
                exact Rt.ret (hR) rfl dX5_taken_122
          · rw [if_neg c106] at hR
            refine j_iload C dX5_taken_63 65 rfl 0 rfl ?_
            refine j_if_ne C dX5_taken_65 86 rfl 68 rfl (fun c110 => ?_) (fun c110 => ?_)
            · rw [if_neg c110] at hR
              refine j_bipush (v := (-13)) C dX5_taken_86 88 rfl (by decide) ?_
              exact Rt.ret (hR) rfl dX5_taken_88
            · rw [if_pos c110] at hR
              refine j_aload_n C dX5_taken_68 69 rfl rfl 1 rfl ?_
              refine j_get C dX5_taken_69 72 rfl hiX2 11 rfl rfl 2 (by decide) rfl kX5_taken_f262 rfl ?_
              refine j_iload_n C dX5_taken_72 73 rfl rfl 4 rfl ?_
              refine j_bipush (v := 10) C dX5_taken_73 75 rfl (by decide) ?_
              refine j_isub C dX5_taken_75 76 rfl ?_
              refine j_icmp_ne C dX5_taken_76 86 rfl 79 rfl (fun c111 => ?_) (fun c111 => ?_)
              · rw [if_neg c111] at hR
                refine j_bipush (v := (-13)) C dX5_taken_86 88 rfl (by decide) ?_
                exact Rt.ret (hR) rfl dX5_taken_88
              · rw [if_pos c111] at hR
                refine j_aload_n C dX5_taken_79 80 rfl rfl 1 rfl ?_
                refine j_get C dX5_taken_80 83 rfl hiX2 11 rfl rfl 3 (by decide) rfl kX5_taken_f263 rfl ?_
                refine j_goto C dX5_taken_83 88 rfl ?_
                exact Rt.ret (hR) rfl dX5_taken_88
        · rw [if_pos c98] at hR
          refine j_aload_n C dX5_taken_46 47 rfl rfl 1 rfl ?_
          refine j_get C dX5_taken_47 50 rfl hiX2 11 rfl rfl 0 (by decide) rfl kX5_taken_f259 rfl ?_
          refine j_iconst (v := 1) C dX5_taken_50 51 rfl (by decide) ?_
          refine j_icmp_eq C dX5_taken_51 57 rfl 54 rfl (fun c99 => ?_) (fun c99 => ?_)
          · rw [if_pos c99] at hR
            refine j_iload_n C dX5_taken_57 58 rfl rfl 4 rfl ?_
            refine j_bipush (v := 10) C dX5_taken_58 60 rfl (by decide) ?_
            refine j_icmp_lt C dX5_taken_60 89 rfl 63 rfl (fun c100 => ?_) (fun c100 => ?_)
            · rw [if_pos c100] at hR
              refine j_iload C dX5_taken_89 91 rfl 0 rfl ?_
              refine j_if_eq C dX5_taken_91 120 rfl 94 rfl (fun c101 => ?_) (fun c101 => ?_)
              · rw [if_pos c101] at hR
                refine j_bipush (v := (-13)) C dX5_taken_120 122 rfl (by decide) ?_
                exact Rt.ret (hR) rfl dX5_taken_122
              · rw [if_neg c101] at hR
                refine j_aload_n C dX5_taken_94 95 rfl rfl 2 rfl ?_
                refine j_get C dX5_taken_95 98 rfl hiX5 0 rfl rfl 0 (by decide) rfl kX5_taken_f10 rfl ?_
                refine j_get C dX5_taken_98 101 rfl hiX4 4 rfl rfl 1 (by decide) rfl kX5_taken_f106 rfl ?_
                refine j_aload_n C dX5_taken_101 102 rfl rfl 1 rfl ?_
                refine j_get C dX5_taken_102 105 rfl hiX2 11 rfl rfl 1 (by decide) rfl kX5_taken_f264 rfl ?_
                refine j_iald C dX5_taken_105 106 rfl 6 rfl (hold_in c101 hn0 hn) ((shn 0)).toNatClampNeg rfl ?_
                refine j_iload_n C dX5_taken_106 107 rfl rfl 4 rfl ?_
                refine j_cs0I (na := 2) C dX5_taken_107 110 rfl (c_X5_isUnder τ  (nkd ((shn 0)).toNatClampNeg) x2 ) rfl ggX5_taken_X5_isUnder rfl rfl rfl kX5_taken_iRX5 kX5_taken_m267 kX5_taken_sX5_isUnder qd_X5_isUnder rfl ⟨by decide, by decide⟩ ⟨by decide, by decide⟩ rfl (Nat.le_of_ble_eq_true rfl) (fun r102 u102 hX102 hn102 => ?_)
                obtain rfl := (Prod.mk.inj hX102).1
                refine j_if_eq C dX5_taken_110 120 rfl 113 rfl (fun c103 => ?_) (fun c103 => ?_)
                · rw [if_pos c103] at hR
                  refine j_bipush (v := (-13)) C dX5_taken_120 122 rfl (by decide) ?_
                  exact Rt.ret (hR) rfl dX5_taken_122
                · rw [if_neg c103] at hR
                  refine j_aload_n C dX5_taken_113 114 rfl rfl 1 rfl ?_
                  refine j_get C dX5_taken_114 117 rfl hiX2 11 rfl rfl 1 (by decide) rfl kX5_taken_f264 rfl ?_
                  refine j_goto C dX5_taken_117 122 rfl ?_
                  exact Rt.ret (hR) rfl dX5_taken_122
            · rw [if_neg c100] at hR
              refine j_iload C dX5_taken_63 65 rfl 0 rfl ?_
              refine j_if_ne C dX5_taken_65 86 rfl 68 rfl (fun c104 => ?_) (fun c104 => ?_)
              · rw [if_neg c104] at hR
                refine j_bipush (v := (-13)) C dX5_taken_86 88 rfl (by decide) ?_
                exact Rt.ret (hR) rfl dX5_taken_88
              · rw [if_pos c104] at hR
                refine j_aload_n C dX5_taken_68 69 rfl rfl 1 rfl ?_
                refine j_get C dX5_taken_69 72 rfl hiX2 11 rfl rfl 2 (by decide) rfl kX5_taken_f262 rfl ?_
                refine j_iload_n C dX5_taken_72 73 rfl rfl 4 rfl ?_
                refine j_bipush (v := 10) C dX5_taken_73 75 rfl (by decide) ?_
                refine j_isub C dX5_taken_75 76 rfl ?_
                refine j_icmp_ne C dX5_taken_76 86 rfl 79 rfl (fun c105 => ?_) (fun c105 => ?_)
                · rw [if_neg c105] at hR
                  refine j_bipush (v := (-13)) C dX5_taken_86 88 rfl (by decide) ?_
                  exact Rt.ret (hR) rfl dX5_taken_88
                · rw [if_pos c105] at hR
                  refine j_aload_n C dX5_taken_79 80 rfl rfl 1 rfl ?_
                  refine j_get C dX5_taken_80 83 rfl hiX2 11 rfl rfl 3 (by decide) rfl kX5_taken_f263 rfl ?_
                  refine j_goto C dX5_taken_83 88 rfl ?_
                  exact Rt.ret (hR) rfl dX5_taken_88
          · rw [if_neg c99] at hR
            refine j_bipush (v := (-11)) C dX5_taken_54 56 rfl (by decide) ?_
            exact Rt.ret (hR) rfl dX5_taken_56
      · try rw [show (1 : Int32).toNatClampNeg = 1 from rfl] at hR
        refine j_aald (t0 := 3) (b := (a 71)) (N := 4) C dX5_taken_32 33 rfl 3 rfl rfl (by unfold vp_in; decide) (by rfl) ?_
        refine j_astore_n C dX5_taken_33 34 rfl rfl (by decide) [(3, .ref (a 71)), (0, .ref (a 0)), (1, .int 1), (2, .int x2)] rfl ?_
        refine j_aload_n C dX5_taken_34 35 rfl rfl 1 rfl ?_
        refine j_aload_n C dX5_taken_35 36 rfl rfl 0 rfl ?_
        refine j_cvI (na := 1) C dX5_taken_36 39 rfl (c_X5_holdsPerson τ a (fun j => a (71 + j)) rws isv rc nlw nkd nbt nph ncn nno nct nsc nrn nlg ndn nzz (shw 1) (shn 1) (shs 1) (shz 1) (by first | assumption | (unfold vp_in; decide)) (by first | assumption | (unfold vp_in; decide)) (by first | assumption | (unfold vp_in; decide)) (by first | assumption | (unfold vp_in; decide))) gX5_taken_X5_holdsPerson rfl rfl rfl qd_X5_holdsPerson rfl ⟨by decide, by decide⟩ ⟨by decide, by decide⟩ rfl (Nat.le_of_ble_eq_true rfl) [0, 1, 2, 3, 4, 5, 6, 7, 8, 9, 10, 12] [11, 13, 14] [3, 4, 5, 6, 7, 8, 9, 10, 11, 12, 13, 0, 14, 1, 2] ([(a 70, .inr (2, [.int (shw 0), .int (shn 0), .int (shs 0), .int (shz 0)])), (a 72, .inr (2, [.int (shw 2), .int (shn 2), .int (shs 2), .int (shz 2)])), (a 73, .inr (2, [.int (shw 3), .int (shn 3), .int (shs 3), .int (shz 3)]))]) rfl (by decide) rfl (by decide) (by decide) 5 0 rfl rfl (fun u => ((wX τ a rws isv rc) ++ (wT τ (fun j => a (10 + j)) nlw nkd nbt nph ncn nno nct nsc nrn nlg ndn nzz) ++ (wHH τ a shw shn shs shz))) (fun _ => rfl) (by decide) (fun r112 u112 hX112 hn112 => ?_)
        obtain rfl := (Prod.mk.inj hX112).1
        refine j_istore C dX5_taken_39 41 rfl (by decide) [(4, .int (f_X5_holdsPerson nct (shw 1) (shn 1))), (3, .ref (a 71)), (0, .ref (a 0)), (1, .int 1), (2, .int x2)] rfl ?_
        refine j_iload C dX5_taken_41 43 rfl 0 rfl ?_
        refine j_if_ne C dX5_taken_43 57 rfl 46 rfl (fun c113 => ?_) (fun c113 => ?_)
        · rw [if_neg c113] at hR
          refine j_iload_n C dX5_taken_57 58 rfl rfl 4 rfl ?_
          refine j_bipush (v := 10) C dX5_taken_58 60 rfl (by decide) ?_
          refine j_icmp_lt C dX5_taken_60 89 rfl 63 rfl (fun c121 => ?_) (fun c121 => ?_)
          · rw [if_pos c121] at hR
            refine j_iload C dX5_taken_89 91 rfl 0 rfl ?_
            refine j_if_eq C dX5_taken_91 120 rfl 94 rfl (fun c122 => ?_) (fun c122 => ?_)
            · rw [if_pos c122] at hR
              refine j_bipush (v := (-13)) C dX5_taken_120 122 rfl (by decide) ?_
              exact Rt.ret (hR) rfl dX5_taken_122
            · rw [if_neg c122] at hR
              refine j_aload_n C dX5_taken_94 95 rfl rfl 2 rfl ?_
              refine j_get C dX5_taken_95 98 rfl hiX5 0 rfl rfl 0 (by decide) rfl kX5_taken_f10 rfl ?_
              refine j_get C dX5_taken_98 101 rfl hiX4 4 rfl rfl 1 (by decide) rfl kX5_taken_f106 rfl ?_
              refine j_aload_n C dX5_taken_101 102 rfl rfl 1 rfl ?_
              refine j_get C dX5_taken_102 105 rfl hiX2 12 rfl rfl 1 (by decide) rfl kX5_taken_f264 rfl ?_
              refine j_iald C dX5_taken_105 106 rfl 6 rfl (hold_in c122 hn0 hn) ((shn 1)).toNatClampNeg rfl ?_
              refine j_iload_n C dX5_taken_106 107 rfl rfl 4 rfl ?_
              refine j_cs0I (na := 2) C dX5_taken_107 110 rfl (c_X5_isUnder τ  (nkd ((shn 1)).toNatClampNeg) x2 ) rfl ggX5_taken_X5_isUnder rfl rfl rfl kX5_taken_iRX5 kX5_taken_m267 kX5_taken_sX5_isUnder qd_X5_isUnder rfl ⟨by decide, by decide⟩ ⟨by decide, by decide⟩ rfl (Nat.le_of_ble_eq_true rfl) (fun r123 u123 hX123 hn123 => ?_)
              obtain rfl := (Prod.mk.inj hX123).1
              refine j_if_eq C dX5_taken_110 120 rfl 113 rfl (fun c124 => ?_) (fun c124 => ?_)
              · rw [if_pos c124] at hR
                refine j_bipush (v := (-13)) C dX5_taken_120 122 rfl (by decide) ?_
                exact Rt.ret (hR) rfl dX5_taken_122
              · rw [if_neg c124] at hR
                refine j_aload_n C dX5_taken_113 114 rfl rfl 1 rfl ?_
                refine j_get C dX5_taken_114 117 rfl hiX2 12 rfl rfl 1 (by decide) rfl kX5_taken_f264 rfl ?_
                refine j_goto C dX5_taken_117 122 rfl ?_
                exact Rt.ret (hR) rfl dX5_taken_122
          · rw [if_neg c121] at hR
            refine j_iload C dX5_taken_63 65 rfl 0 rfl ?_
            refine j_if_ne C dX5_taken_65 86 rfl 68 rfl (fun c125 => ?_) (fun c125 => ?_)
            · rw [if_neg c125] at hR
              refine j_bipush (v := (-13)) C dX5_taken_86 88 rfl (by decide) ?_
              exact Rt.ret (hR) rfl dX5_taken_88
            · rw [if_pos c125] at hR
              refine j_aload_n C dX5_taken_68 69 rfl rfl 1 rfl ?_
              refine j_get C dX5_taken_69 72 rfl hiX2 12 rfl rfl 2 (by decide) rfl kX5_taken_f262 rfl ?_
              refine j_iload_n C dX5_taken_72 73 rfl rfl 4 rfl ?_
              refine j_bipush (v := 10) C dX5_taken_73 75 rfl (by decide) ?_
              refine j_isub C dX5_taken_75 76 rfl ?_
              refine j_icmp_ne C dX5_taken_76 86 rfl 79 rfl (fun c126 => ?_) (fun c126 => ?_)
              · rw [if_neg c126] at hR
                refine j_bipush (v := (-13)) C dX5_taken_86 88 rfl (by decide) ?_
                exact Rt.ret (hR) rfl dX5_taken_88
              · rw [if_pos c126] at hR
                refine j_aload_n C dX5_taken_79 80 rfl rfl 1 rfl ?_
                refine j_get C dX5_taken_80 83 rfl hiX2 12 rfl rfl 3 (by decide) rfl kX5_taken_f263 rfl ?_
                refine j_goto C dX5_taken_83 88 rfl ?_
                exact Rt.ret (hR) rfl dX5_taken_88
        · rw [if_pos c113] at hR
          refine j_aload_n C dX5_taken_46 47 rfl rfl 1 rfl ?_
          refine j_get C dX5_taken_47 50 rfl hiX2 12 rfl rfl 0 (by decide) rfl kX5_taken_f259 rfl ?_
          refine j_iconst (v := 1) C dX5_taken_50 51 rfl (by decide) ?_
          refine j_icmp_eq C dX5_taken_51 57 rfl 54 rfl (fun c114 => ?_) (fun c114 => ?_)
          · rw [if_pos c114] at hR
            refine j_iload_n C dX5_taken_57 58 rfl rfl 4 rfl ?_
            refine j_bipush (v := 10) C dX5_taken_58 60 rfl (by decide) ?_
            refine j_icmp_lt C dX5_taken_60 89 rfl 63 rfl (fun c115 => ?_) (fun c115 => ?_)
            · rw [if_pos c115] at hR
              refine j_iload C dX5_taken_89 91 rfl 0 rfl ?_
              refine j_if_eq C dX5_taken_91 120 rfl 94 rfl (fun c116 => ?_) (fun c116 => ?_)
              · rw [if_pos c116] at hR
                refine j_bipush (v := (-13)) C dX5_taken_120 122 rfl (by decide) ?_
                exact Rt.ret (hR) rfl dX5_taken_122
              · rw [if_neg c116] at hR
                refine j_aload_n C dX5_taken_94 95 rfl rfl 2 rfl ?_
                refine j_get C dX5_taken_95 98 rfl hiX5 0 rfl rfl 0 (by decide) rfl kX5_taken_f10 rfl ?_
                refine j_get C dX5_taken_98 101 rfl hiX4 4 rfl rfl 1 (by decide) rfl kX5_taken_f106 rfl ?_
                refine j_aload_n C dX5_taken_101 102 rfl rfl 1 rfl ?_
                refine j_get C dX5_taken_102 105 rfl hiX2 12 rfl rfl 1 (by decide) rfl kX5_taken_f264 rfl ?_
                refine j_iald C dX5_taken_105 106 rfl 6 rfl (hold_in c116 hn0 hn) ((shn 1)).toNatClampNeg rfl ?_
                refine j_iload_n C dX5_taken_106 107 rfl rfl 4 rfl ?_
                refine j_cs0I (na := 2) C dX5_taken_107 110 rfl (c_X5_isUnder τ  (nkd ((shn 1)).toNatClampNeg) x2 ) rfl ggX5_taken_X5_isUnder rfl rfl rfl kX5_taken_iRX5 kX5_taken_m267 kX5_taken_sX5_isUnder qd_X5_isUnder rfl ⟨by decide, by decide⟩ ⟨by decide, by decide⟩ rfl (Nat.le_of_ble_eq_true rfl) (fun r117 u117 hX117 hn117 => ?_)
                obtain rfl := (Prod.mk.inj hX117).1
                refine j_if_eq C dX5_taken_110 120 rfl 113 rfl (fun c118 => ?_) (fun c118 => ?_)
                · rw [if_pos c118] at hR
                  refine j_bipush (v := (-13)) C dX5_taken_120 122 rfl (by decide) ?_
                  exact Rt.ret (hR) rfl dX5_taken_122
                · rw [if_neg c118] at hR
                  refine j_aload_n C dX5_taken_113 114 rfl rfl 1 rfl ?_
                  refine j_get C dX5_taken_114 117 rfl hiX2 12 rfl rfl 1 (by decide) rfl kX5_taken_f264 rfl ?_
                  refine j_goto C dX5_taken_117 122 rfl ?_
                  exact Rt.ret (hR) rfl dX5_taken_122
            · rw [if_neg c115] at hR
              refine j_iload C dX5_taken_63 65 rfl 0 rfl ?_
              refine j_if_ne C dX5_taken_65 86 rfl 68 rfl (fun c119 => ?_) (fun c119 => ?_)
              · rw [if_neg c119] at hR
                refine j_bipush (v := (-13)) C dX5_taken_86 88 rfl (by decide) ?_
                exact Rt.ret (hR) rfl dX5_taken_88
              · rw [if_pos c119] at hR
                refine j_aload_n C dX5_taken_68 69 rfl rfl 1 rfl ?_
                refine j_get C dX5_taken_69 72 rfl hiX2 12 rfl rfl 2 (by decide) rfl kX5_taken_f262 rfl ?_
                refine j_iload_n C dX5_taken_72 73 rfl rfl 4 rfl ?_
                refine j_bipush (v := 10) C dX5_taken_73 75 rfl (by decide) ?_
                refine j_isub C dX5_taken_75 76 rfl ?_
                refine j_icmp_ne C dX5_taken_76 86 rfl 79 rfl (fun c120 => ?_) (fun c120 => ?_)
                · rw [if_neg c120] at hR
                  refine j_bipush (v := (-13)) C dX5_taken_86 88 rfl (by decide) ?_
                  exact Rt.ret (hR) rfl dX5_taken_88
                · rw [if_pos c120] at hR
                  refine j_aload_n C dX5_taken_79 80 rfl rfl 1 rfl ?_
                  refine j_get C dX5_taken_80 83 rfl hiX2 12 rfl rfl 3 (by decide) rfl kX5_taken_f263 rfl ?_
                  refine j_goto C dX5_taken_83 88 rfl ?_
                  exact Rt.ret (hR) rfl dX5_taken_88
          · rw [if_neg c114] at hR
            refine j_bipush (v := (-11)) C dX5_taken_54 56 rfl (by decide) ?_
            exact Rt.ret (hR) rfl dX5_taken_56
      · try rw [show (2 : Int32).toNatClampNeg = 2 from rfl] at hR
        refine j_aald (t0 := 3) (b := (a 72)) (N := 4) C dX5_taken_32 33 rfl 3 rfl rfl (by unfold vp_in; decide) (by rfl) ?_
        refine j_astore_n C dX5_taken_33 34 rfl rfl (by decide) [(3, .ref (a 72)), (0, .ref (a 0)), (1, .int 2), (2, .int x2)] rfl ?_
        refine j_aload_n C dX5_taken_34 35 rfl rfl 1 rfl ?_
        refine j_aload_n C dX5_taken_35 36 rfl rfl 0 rfl ?_
        refine j_cvI (na := 1) C dX5_taken_36 39 rfl (c_X5_holdsPerson τ a (fun j => a (72 + j)) rws isv rc nlw nkd nbt nph ncn nno nct nsc nrn nlg ndn nzz (shw 2) (shn 2) (shs 2) (shz 2) (by first | assumption | (unfold vp_in; decide)) (by first | assumption | (unfold vp_in; decide)) (by first | assumption | (unfold vp_in; decide)) (by first | assumption | (unfold vp_in; decide))) gX5_taken_X5_holdsPerson rfl rfl rfl qd_X5_holdsPerson rfl ⟨by decide, by decide⟩ ⟨by decide, by decide⟩ rfl (Nat.le_of_ble_eq_true rfl) [0, 1, 2, 3, 4, 5, 6, 7, 8, 9, 10, 13] [11, 12, 14] [3, 4, 5, 6, 7, 8, 9, 10, 11, 12, 13, 0, 1, 14, 2] ([(a 70, .inr (2, [.int (shw 0), .int (shn 0), .int (shs 0), .int (shz 0)])), (a 71, .inr (2, [.int (shw 1), .int (shn 1), .int (shs 1), .int (shz 1)])), (a 73, .inr (2, [.int (shw 3), .int (shn 3), .int (shs 3), .int (shz 3)]))]) rfl (by decide) rfl (by decide) (by decide) 5 0 rfl rfl (fun u => ((wX τ a rws isv rc) ++ (wT τ (fun j => a (10 + j)) nlw nkd nbt nph ncn nno nct nsc nrn nlg ndn nzz) ++ (wHH τ a shw shn shs shz))) (fun _ => rfl) (by decide) (fun r127 u127 hX127 hn127 => ?_)
        obtain rfl := (Prod.mk.inj hX127).1
        refine j_istore C dX5_taken_39 41 rfl (by decide) [(4, .int (f_X5_holdsPerson nct (shw 2) (shn 2))), (3, .ref (a 72)), (0, .ref (a 0)), (1, .int 2), (2, .int x2)] rfl ?_
        refine j_iload C dX5_taken_41 43 rfl 0 rfl ?_
        refine j_if_ne C dX5_taken_43 57 rfl 46 rfl (fun c128 => ?_) (fun c128 => ?_)
        · rw [if_neg c128] at hR
          refine j_iload_n C dX5_taken_57 58 rfl rfl 4 rfl ?_
          refine j_bipush (v := 10) C dX5_taken_58 60 rfl (by decide) ?_
          refine j_icmp_lt C dX5_taken_60 89 rfl 63 rfl (fun c136 => ?_) (fun c136 => ?_)
          · rw [if_pos c136] at hR
            refine j_iload C dX5_taken_89 91 rfl 0 rfl ?_
            refine j_if_eq C dX5_taken_91 120 rfl 94 rfl (fun c137 => ?_) (fun c137 => ?_)
            · rw [if_pos c137] at hR
              refine j_bipush (v := (-13)) C dX5_taken_120 122 rfl (by decide) ?_
              exact Rt.ret (hR) rfl dX5_taken_122
            · rw [if_neg c137] at hR
              refine j_aload_n C dX5_taken_94 95 rfl rfl 2 rfl ?_
              refine j_get C dX5_taken_95 98 rfl hiX5 0 rfl rfl 0 (by decide) rfl kX5_taken_f10 rfl ?_
              refine j_get C dX5_taken_98 101 rfl hiX4 4 rfl rfl 1 (by decide) rfl kX5_taken_f106 rfl ?_
              refine j_aload_n C dX5_taken_101 102 rfl rfl 1 rfl ?_
              refine j_get C dX5_taken_102 105 rfl hiX2 13 rfl rfl 1 (by decide) rfl kX5_taken_f264 rfl ?_
              refine j_iald C dX5_taken_105 106 rfl 6 rfl (hold_in c137 hn0 hn) ((shn 2)).toNatClampNeg rfl ?_
              refine j_iload_n C dX5_taken_106 107 rfl rfl 4 rfl ?_
              refine j_cs0I (na := 2) C dX5_taken_107 110 rfl (c_X5_isUnder τ  (nkd ((shn 2)).toNatClampNeg) x2 ) rfl ggX5_taken_X5_isUnder rfl rfl rfl kX5_taken_iRX5 kX5_taken_m267 kX5_taken_sX5_isUnder qd_X5_isUnder rfl ⟨by decide, by decide⟩ ⟨by decide, by decide⟩ rfl (Nat.le_of_ble_eq_true rfl) (fun r138 u138 hX138 hn138 => ?_)
              obtain rfl := (Prod.mk.inj hX138).1
              refine j_if_eq C dX5_taken_110 120 rfl 113 rfl (fun c139 => ?_) (fun c139 => ?_)
              · rw [if_pos c139] at hR
                refine j_bipush (v := (-13)) C dX5_taken_120 122 rfl (by decide) ?_
                exact Rt.ret (hR) rfl dX5_taken_122
              · rw [if_neg c139] at hR
                refine j_aload_n C dX5_taken_113 114 rfl rfl 1 rfl ?_
                refine j_get C dX5_taken_114 117 rfl hiX2 13 rfl rfl 1 (by decide) rfl kX5_taken_f264 rfl ?_
                refine j_goto C dX5_taken_117 122 rfl ?_
                exact Rt.ret (hR) rfl dX5_taken_122
          · rw [if_neg c136] at hR
            refine j_iload C dX5_taken_63 65 rfl 0 rfl ?_
            refine j_if_ne C dX5_taken_65 86 rfl 68 rfl (fun c140 => ?_) (fun c140 => ?_)
            · rw [if_neg c140] at hR
              refine j_bipush (v := (-13)) C dX5_taken_86 88 rfl (by decide) ?_
              exact Rt.ret (hR) rfl dX5_taken_88
            · rw [if_pos c140] at hR
              refine j_aload_n C dX5_taken_68 69 rfl rfl 1 rfl ?_
              refine j_get C dX5_taken_69 72 rfl hiX2 13 rfl rfl 2 (by decide) rfl kX5_taken_f262 rfl ?_
              refine j_iload_n C dX5_taken_72 73 rfl rfl 4 rfl ?_
              refine j_bipush (v := 10) C dX5_taken_73 75 rfl (by decide) ?_
              refine j_isub C dX5_taken_75 76 rfl ?_
              refine j_icmp_ne C dX5_taken_76 86 rfl 79 rfl (fun c141 => ?_) (fun c141 => ?_)
              · rw [if_neg c141] at hR
                refine j_bipush (v := (-13)) C dX5_taken_86 88 rfl (by decide) ?_
                exact Rt.ret (hR) rfl dX5_taken_88
              · rw [if_pos c141] at hR
                refine j_aload_n C dX5_taken_79 80 rfl rfl 1 rfl ?_
                refine j_get C dX5_taken_80 83 rfl hiX2 13 rfl rfl 3 (by decide) rfl kX5_taken_f263 rfl ?_
                refine j_goto C dX5_taken_83 88 rfl ?_
                exact Rt.ret (hR) rfl dX5_taken_88
        · rw [if_pos c128] at hR
          refine j_aload_n C dX5_taken_46 47 rfl rfl 1 rfl ?_
          refine j_get C dX5_taken_47 50 rfl hiX2 13 rfl rfl 0 (by decide) rfl kX5_taken_f259 rfl ?_
          refine j_iconst (v := 1) C dX5_taken_50 51 rfl (by decide) ?_
          refine j_icmp_eq C dX5_taken_51 57 rfl 54 rfl (fun c129 => ?_) (fun c129 => ?_)
          · rw [if_pos c129] at hR
            refine j_iload_n C dX5_taken_57 58 rfl rfl 4 rfl ?_
            refine j_bipush (v := 10) C dX5_taken_58 60 rfl (by decide) ?_
            refine j_icmp_lt C dX5_taken_60 89 rfl 63 rfl (fun c130 => ?_) (fun c130 => ?_)
            · rw [if_pos c130] at hR
              refine j_iload C dX5_taken_89 91 rfl 0 rfl ?_
              refine j_if_eq C dX5_taken_91 120 rfl 94 rfl (fun c131 => ?_) (fun c131 => ?_)
              · rw [if_pos c131] at hR
                refine j_bipush (v := (-13)) C dX5_taken_120 122 rfl (by decide) ?_
                exact Rt.ret (hR) rfl dX5_taken_122
              · rw [if_neg c131] at hR
                refine j_aload_n C dX5_taken_94 95 rfl rfl 2 rfl ?_
                refine j_get C dX5_taken_95 98 rfl hiX5 0 rfl rfl 0 (by decide) rfl kX5_taken_f10 rfl ?_
                refine j_get C dX5_taken_98 101 rfl hiX4 4 rfl rfl 1 (by decide) rfl kX5_taken_f106 rfl ?_
                refine j_aload_n C dX5_taken_101 102 rfl rfl 1 rfl ?_
                refine j_get C dX5_taken_102 105 rfl hiX2 13 rfl rfl 1 (by decide) rfl kX5_taken_f264 rfl ?_
                refine j_iald C dX5_taken_105 106 rfl 6 rfl (hold_in c131 hn0 hn) ((shn 2)).toNatClampNeg rfl ?_
                refine j_iload_n C dX5_taken_106 107 rfl rfl 4 rfl ?_
                refine j_cs0I (na := 2) C dX5_taken_107 110 rfl (c_X5_isUnder τ  (nkd ((shn 2)).toNatClampNeg) x2 ) rfl ggX5_taken_X5_isUnder rfl rfl rfl kX5_taken_iRX5 kX5_taken_m267 kX5_taken_sX5_isUnder qd_X5_isUnder rfl ⟨by decide, by decide⟩ ⟨by decide, by decide⟩ rfl (Nat.le_of_ble_eq_true rfl) (fun r132 u132 hX132 hn132 => ?_)
                obtain rfl := (Prod.mk.inj hX132).1
                refine j_if_eq C dX5_taken_110 120 rfl 113 rfl (fun c133 => ?_) (fun c133 => ?_)
                · rw [if_pos c133] at hR
                  refine j_bipush (v := (-13)) C dX5_taken_120 122 rfl (by decide) ?_
                  exact Rt.ret (hR) rfl dX5_taken_122
                · rw [if_neg c133] at hR
                  refine j_aload_n C dX5_taken_113 114 rfl rfl 1 rfl ?_
                  refine j_get C dX5_taken_114 117 rfl hiX2 13 rfl rfl 1 (by decide) rfl kX5_taken_f264 rfl ?_
                  refine j_goto C dX5_taken_117 122 rfl ?_
                  exact Rt.ret (hR) rfl dX5_taken_122
            · rw [if_neg c130] at hR
              refine j_iload C dX5_taken_63 65 rfl 0 rfl ?_
              refine j_if_ne C dX5_taken_65 86 rfl 68 rfl (fun c134 => ?_) (fun c134 => ?_)
              · rw [if_neg c134] at hR
                refine j_bipush (v := (-13)) C dX5_taken_86 88 rfl (by decide) ?_
                exact Rt.ret (hR) rfl dX5_taken_88
              · rw [if_pos c134] at hR
                refine j_aload_n C dX5_taken_68 69 rfl rfl 1 rfl ?_
                refine j_get C dX5_taken_69 72 rfl hiX2 13 rfl rfl 2 (by decide) rfl kX5_taken_f262 rfl ?_
                refine j_iload_n C dX5_taken_72 73 rfl rfl 4 rfl ?_
                refine j_bipush (v := 10) C dX5_taken_73 75 rfl (by decide) ?_
                refine j_isub C dX5_taken_75 76 rfl ?_
                refine j_icmp_ne C dX5_taken_76 86 rfl 79 rfl (fun c135 => ?_) (fun c135 => ?_)
                · rw [if_neg c135] at hR
                  refine j_bipush (v := (-13)) C dX5_taken_86 88 rfl (by decide) ?_
                  exact Rt.ret (hR) rfl dX5_taken_88
                · rw [if_pos c135] at hR
                  refine j_aload_n C dX5_taken_79 80 rfl rfl 1 rfl ?_
                  refine j_get C dX5_taken_80 83 rfl hiX2 13 rfl rfl 3 (by decide) rfl kX5_taken_f263 rfl ?_
                  refine j_goto C dX5_taken_83 88 rfl ?_
                  exact Rt.ret (hR) rfl dX5_taken_88
          · rw [if_neg c129] at hR
            refine j_bipush (v := (-11)) C dX5_taken_54 56 rfl (by decide) ?_
            exact Rt.ret (hR) rfl dX5_taken_56
      · try rw [show (3 : Int32).toNatClampNeg = 3 from rfl] at hR
        refine j_aald (t0 := 3) (b := (a 73)) (N := 4) C dX5_taken_32 33 rfl 3 rfl rfl (by unfold vp_in; decide) (by rfl) ?_
        refine j_astore_n C dX5_taken_33 34 rfl rfl (by decide) [(3, .ref (a 73)), (0, .ref (a 0)), (1, .int 3), (2, .int x2)] rfl ?_
        refine j_aload_n C dX5_taken_34 35 rfl rfl 1 rfl ?_
        refine j_aload_n C dX5_taken_35 36 rfl rfl 0 rfl ?_
        refine j_cvI (na := 1) C dX5_taken_36 39 rfl (c_X5_holdsPerson τ a (fun j => a (73 + j)) rws isv rc nlw nkd nbt nph ncn nno nct nsc nrn nlg ndn nzz (shw 3) (shn 3) (shs 3) (shz 3) (by first | assumption | (unfold vp_in; decide)) (by first | assumption | (unfold vp_in; decide)) (by first | assumption | (unfold vp_in; decide)) (by first | assumption | (unfold vp_in; decide))) gX5_taken_X5_holdsPerson rfl rfl rfl qd_X5_holdsPerson rfl ⟨by decide, by decide⟩ ⟨by decide, by decide⟩ rfl (Nat.le_of_ble_eq_true rfl) [0, 1, 2, 3, 4, 5, 6, 7, 8, 9, 10, 14] [11, 12, 13] [3, 4, 5, 6, 7, 8, 9, 10, 11, 12, 13, 0, 1, 2, 14] ([(a 70, .inr (2, [.int (shw 0), .int (shn 0), .int (shs 0), .int (shz 0)])), (a 71, .inr (2, [.int (shw 1), .int (shn 1), .int (shs 1), .int (shz 1)])), (a 72, .inr (2, [.int (shw 2), .int (shn 2), .int (shs 2), .int (shz 2)]))]) rfl (by decide) rfl (by decide) (by decide) 5 0 rfl rfl (fun u => ((wX τ a rws isv rc) ++ (wT τ (fun j => a (10 + j)) nlw nkd nbt nph ncn nno nct nsc nrn nlg ndn nzz) ++ (wHH τ a shw shn shs shz))) (fun _ => rfl) (by decide) (fun r142 u142 hX142 hn142 => ?_)
        obtain rfl := (Prod.mk.inj hX142).1
        refine j_istore C dX5_taken_39 41 rfl (by decide) [(4, .int (f_X5_holdsPerson nct (shw 3) (shn 3))), (3, .ref (a 73)), (0, .ref (a 0)), (1, .int 3), (2, .int x2)] rfl ?_
        refine j_iload C dX5_taken_41 43 rfl 0 rfl ?_
        refine j_if_ne C dX5_taken_43 57 rfl 46 rfl (fun c143 => ?_) (fun c143 => ?_)
        · rw [if_neg c143] at hR
          refine j_iload_n C dX5_taken_57 58 rfl rfl 4 rfl ?_
          refine j_bipush (v := 10) C dX5_taken_58 60 rfl (by decide) ?_
          refine j_icmp_lt C dX5_taken_60 89 rfl 63 rfl (fun c151 => ?_) (fun c151 => ?_)
          · rw [if_pos c151] at hR
            refine j_iload C dX5_taken_89 91 rfl 0 rfl ?_
            refine j_if_eq C dX5_taken_91 120 rfl 94 rfl (fun c152 => ?_) (fun c152 => ?_)
            · rw [if_pos c152] at hR
              refine j_bipush (v := (-13)) C dX5_taken_120 122 rfl (by decide) ?_
              exact Rt.ret (hR) rfl dX5_taken_122
            · rw [if_neg c152] at hR
              refine j_aload_n C dX5_taken_94 95 rfl rfl 2 rfl ?_
              refine j_get C dX5_taken_95 98 rfl hiX5 0 rfl rfl 0 (by decide) rfl kX5_taken_f10 rfl ?_
              refine j_get C dX5_taken_98 101 rfl hiX4 4 rfl rfl 1 (by decide) rfl kX5_taken_f106 rfl ?_
              refine j_aload_n C dX5_taken_101 102 rfl rfl 1 rfl ?_
              refine j_get C dX5_taken_102 105 rfl hiX2 14 rfl rfl 1 (by decide) rfl kX5_taken_f264 rfl ?_
              refine j_iald C dX5_taken_105 106 rfl 6 rfl (hold_in c152 hn0 hn) ((shn 3)).toNatClampNeg rfl ?_
              refine j_iload_n C dX5_taken_106 107 rfl rfl 4 rfl ?_
              refine j_cs0I (na := 2) C dX5_taken_107 110 rfl (c_X5_isUnder τ  (nkd ((shn 3)).toNatClampNeg) x2 ) rfl ggX5_taken_X5_isUnder rfl rfl rfl kX5_taken_iRX5 kX5_taken_m267 kX5_taken_sX5_isUnder qd_X5_isUnder rfl ⟨by decide, by decide⟩ ⟨by decide, by decide⟩ rfl (Nat.le_of_ble_eq_true rfl) (fun r153 u153 hX153 hn153 => ?_)
              obtain rfl := (Prod.mk.inj hX153).1
              refine j_if_eq C dX5_taken_110 120 rfl 113 rfl (fun c154 => ?_) (fun c154 => ?_)
              · rw [if_pos c154] at hR
                refine j_bipush (v := (-13)) C dX5_taken_120 122 rfl (by decide) ?_
                exact Rt.ret (hR) rfl dX5_taken_122
              · rw [if_neg c154] at hR
                refine j_aload_n C dX5_taken_113 114 rfl rfl 1 rfl ?_
                refine j_get C dX5_taken_114 117 rfl hiX2 14 rfl rfl 1 (by decide) rfl kX5_taken_f264 rfl ?_
                refine j_goto C dX5_taken_117 122 rfl ?_
                exact Rt.ret (hR) rfl dX5_taken_122
          · rw [if_neg c151] at hR
            refine j_iload C dX5_taken_63 65 rfl 0 rfl ?_
            refine j_if_ne C dX5_taken_65 86 rfl 68 rfl (fun c155 => ?_) (fun c155 => ?_)
            · rw [if_neg c155] at hR
              refine j_bipush (v := (-13)) C dX5_taken_86 88 rfl (by decide) ?_
              exact Rt.ret (hR) rfl dX5_taken_88
            · rw [if_pos c155] at hR
              refine j_aload_n C dX5_taken_68 69 rfl rfl 1 rfl ?_
              refine j_get C dX5_taken_69 72 rfl hiX2 14 rfl rfl 2 (by decide) rfl kX5_taken_f262 rfl ?_
              refine j_iload_n C dX5_taken_72 73 rfl rfl 4 rfl ?_
              refine j_bipush (v := 10) C dX5_taken_73 75 rfl (by decide) ?_
              refine j_isub C dX5_taken_75 76 rfl ?_
              refine j_icmp_ne C dX5_taken_76 86 rfl 79 rfl (fun c156 => ?_) (fun c156 => ?_)
              · rw [if_neg c156] at hR
                refine j_bipush (v := (-13)) C dX5_taken_86 88 rfl (by decide) ?_
                exact Rt.ret (hR) rfl dX5_taken_88
              · rw [if_pos c156] at hR
                refine j_aload_n C dX5_taken_79 80 rfl rfl 1 rfl ?_
                refine j_get C dX5_taken_80 83 rfl hiX2 14 rfl rfl 3 (by decide) rfl kX5_taken_f263 rfl ?_
                refine j_goto C dX5_taken_83 88 rfl ?_
                exact Rt.ret (hR) rfl dX5_taken_88
        · rw [if_pos c143] at hR
          refine j_aload_n C dX5_taken_46 47 rfl rfl 1 rfl ?_
          refine j_get C dX5_taken_47 50 rfl hiX2 14 rfl rfl 0 (by decide) rfl kX5_taken_f259 rfl ?_
          refine j_iconst (v := 1) C dX5_taken_50 51 rfl (by decide) ?_
          refine j_icmp_eq C dX5_taken_51 57 rfl 54 rfl (fun c144 => ?_) (fun c144 => ?_)
          · rw [if_pos c144] at hR
            refine j_iload_n C dX5_taken_57 58 rfl rfl 4 rfl ?_
            refine j_bipush (v := 10) C dX5_taken_58 60 rfl (by decide) ?_
            refine j_icmp_lt C dX5_taken_60 89 rfl 63 rfl (fun c145 => ?_) (fun c145 => ?_)
            · rw [if_pos c145] at hR
              refine j_iload C dX5_taken_89 91 rfl 0 rfl ?_
              refine j_if_eq C dX5_taken_91 120 rfl 94 rfl (fun c146 => ?_) (fun c146 => ?_)
              · rw [if_pos c146] at hR
                refine j_bipush (v := (-13)) C dX5_taken_120 122 rfl (by decide) ?_
                exact Rt.ret (hR) rfl dX5_taken_122
              · rw [if_neg c146] at hR
                refine j_aload_n C dX5_taken_94 95 rfl rfl 2 rfl ?_
                refine j_get C dX5_taken_95 98 rfl hiX5 0 rfl rfl 0 (by decide) rfl kX5_taken_f10 rfl ?_
                refine j_get C dX5_taken_98 101 rfl hiX4 4 rfl rfl 1 (by decide) rfl kX5_taken_f106 rfl ?_
                refine j_aload_n C dX5_taken_101 102 rfl rfl 1 rfl ?_
                refine j_get C dX5_taken_102 105 rfl hiX2 14 rfl rfl 1 (by decide) rfl kX5_taken_f264 rfl ?_
                refine j_iald C dX5_taken_105 106 rfl 6 rfl (hold_in c146 hn0 hn) ((shn 3)).toNatClampNeg rfl ?_
                refine j_iload_n C dX5_taken_106 107 rfl rfl 4 rfl ?_
                refine j_cs0I (na := 2) C dX5_taken_107 110 rfl (c_X5_isUnder τ  (nkd ((shn 3)).toNatClampNeg) x2 ) rfl ggX5_taken_X5_isUnder rfl rfl rfl kX5_taken_iRX5 kX5_taken_m267 kX5_taken_sX5_isUnder qd_X5_isUnder rfl ⟨by decide, by decide⟩ ⟨by decide, by decide⟩ rfl (Nat.le_of_ble_eq_true rfl) (fun r147 u147 hX147 hn147 => ?_)
                obtain rfl := (Prod.mk.inj hX147).1
                refine j_if_eq C dX5_taken_110 120 rfl 113 rfl (fun c148 => ?_) (fun c148 => ?_)
                · rw [if_pos c148] at hR
                  refine j_bipush (v := (-13)) C dX5_taken_120 122 rfl (by decide) ?_
                  exact Rt.ret (hR) rfl dX5_taken_122
                · rw [if_neg c148] at hR
                  refine j_aload_n C dX5_taken_113 114 rfl rfl 1 rfl ?_
                  refine j_get C dX5_taken_114 117 rfl hiX2 14 rfl rfl 1 (by decide) rfl kX5_taken_f264 rfl ?_
                  refine j_goto C dX5_taken_117 122 rfl ?_
                  exact Rt.ret (hR) rfl dX5_taken_122
            · rw [if_neg c145] at hR
              refine j_iload C dX5_taken_63 65 rfl 0 rfl ?_
              refine j_if_ne C dX5_taken_65 86 rfl 68 rfl (fun c149 => ?_) (fun c149 => ?_)
              · rw [if_neg c149] at hR
                refine j_bipush (v := (-13)) C dX5_taken_86 88 rfl (by decide) ?_
                exact Rt.ret (hR) rfl dX5_taken_88
              · rw [if_pos c149] at hR
                refine j_aload_n C dX5_taken_68 69 rfl rfl 1 rfl ?_
                refine j_get C dX5_taken_69 72 rfl hiX2 14 rfl rfl 2 (by decide) rfl kX5_taken_f262 rfl ?_
                refine j_iload_n C dX5_taken_72 73 rfl rfl 4 rfl ?_
                refine j_bipush (v := 10) C dX5_taken_73 75 rfl (by decide) ?_
                refine j_isub C dX5_taken_75 76 rfl ?_
                refine j_icmp_ne C dX5_taken_76 86 rfl 79 rfl (fun c150 => ?_) (fun c150 => ?_)
                · rw [if_neg c150] at hR
                  refine j_bipush (v := (-13)) C dX5_taken_86 88 rfl (by decide) ?_
                  exact Rt.ret (hR) rfl dX5_taken_88
                · rw [if_pos c150] at hR
                  refine j_aload_n C dX5_taken_79 80 rfl rfl 1 rfl ?_
                  refine j_get C dX5_taken_80 83 rfl hiX2 14 rfl rfl 3 (by decide) rfl kX5_taken_f263 rfl ?_
                  refine j_goto C dX5_taken_83 88 rfl ?_
                  exact Rt.ret (hR) rfl dX5_taken_88
          · rw [if_neg c144] at hR
            refine j_bipush (v := (-11)) C dX5_taken_54 56 rfl (by decide) ?_
            exact Rt.ret (hR) rfl dX5_taken_56
    · rw [if_pos c4] at hR
      refine j_iload_n C dX5_taken_14 15 rfl rfl 2 rfl ?_
      refine j_bipush (v := 10) C dX5_taken_15 17 rfl (by decide) ?_
      refine j_bipush (v := 13) C dX5_taken_17 19 rfl (by decide) ?_
      refine j_cs0I (na := 3) C dX5_taken_19 22 rfl (c_X5_isIn τ  x2 (10 : Int32) (13 : Int32) ) rfl ggX5_taken_X5_isIn rfl rfl rfl kX5_taken_iRX5 kX5_taken_m79 kX5_taken_sX5_isIn qd_X5_isIn rfl ⟨by decide, by decide⟩ ⟨by decide, by decide⟩ rfl (Nat.le_of_ble_eq_true rfl) (fun r5 u5 hX5 hn5 => ?_)
      obtain rfl := (Prod.mk.inj hX5).1
      refine j_if_ne C dX5_taken_22 27 rfl 25 rfl (fun c6 => ?_) (fun c6 => ?_)
      · rw [if_neg c6] at hR
        refine j_aload_n C dX5_taken_27 28 rfl rfl 0 rfl ?_
        refine j_get C dX5_taken_28 31 rfl hiX5 0 rfl rfl 8 (by decide) rfl kX5_taken_f41 rfl ?_
        refine j_iload_n C dX5_taken_31 32 rfl rfl 1 rfl ?_
        rcases four_of (n := x1) (in_shelf c2) with rfl | rfl | rfl | rfl
        · try rw [show (0 : Int32).toNatClampNeg = 0 from rfl] at hR
          refine j_aald (t0 := 3) (b := (a 70)) (N := 4) C dX5_taken_32 33 rfl 3 rfl rfl (by unfold vp_in; decide) (by rfl) ?_
          refine j_astore_n C dX5_taken_33 34 rfl rfl (by decide) [(3, .ref (a 70)), (0, .ref (a 0)), (1, .int 0), (2, .int x2)] rfl ?_
          refine j_aload_n C dX5_taken_34 35 rfl rfl 1 rfl ?_
          refine j_aload_n C dX5_taken_35 36 rfl rfl 0 rfl ?_
          refine j_cvI (na := 1) C dX5_taken_36 39 rfl (c_X5_holdsPerson τ a (fun j => a (70 + j)) rws isv rc nlw nkd nbt nph ncn nno nct nsc nrn nlg ndn nzz (shw 0) (shn 0) (shs 0) (shz 0) (by first | assumption | (unfold vp_in; decide)) (by first | assumption | (unfold vp_in; decide)) (by first | assumption | (unfold vp_in; decide)) (by first | assumption | (unfold vp_in; decide))) gX5_taken_X5_holdsPerson rfl rfl rfl qd_X5_holdsPerson rfl ⟨by decide, by decide⟩ ⟨by decide, by decide⟩ rfl (Nat.le_of_ble_eq_true rfl) [0, 1, 2, 3, 4, 5, 6, 7, 8, 9, 10, 11] [12, 13, 14] [3, 4, 5, 6, 7, 8, 9, 10, 11, 12, 13, 14, 0, 1, 2] ([(a 71, .inr (2, [.int (shw 1), .int (shn 1), .int (shs 1), .int (shz 1)])), (a 72, .inr (2, [.int (shw 2), .int (shn 2), .int (shs 2), .int (shz 2)])), (a 73, .inr (2, [.int (shw 3), .int (shn 3), .int (shs 3), .int (shz 3)]))]) rfl (by decide) rfl (by decide) (by decide) 5 0 rfl rfl (fun u => ((wX τ a rws isv rc) ++ (wT τ (fun j => a (10 + j)) nlw nkd nbt nph ncn nno nct nsc nrn nlg ndn nzz) ++ (wHH τ a shw shn shs shz))) (fun _ => rfl) (by decide) (fun r22 u22 hX22 hn22 => ?_)
          obtain rfl := (Prod.mk.inj hX22).1
          refine j_istore C dX5_taken_39 41 rfl (by decide) [(4, .int (f_X5_holdsPerson nct (shw 0) (shn 0))), (3, .ref (a 70)), (0, .ref (a 0)), (1, .int 0), (2, .int x2)] rfl ?_
          refine j_iload C dX5_taken_41 43 rfl 0 rfl ?_
          refine j_if_ne C dX5_taken_43 57 rfl 46 rfl (fun c23 => ?_) (fun c23 => ?_)
          · rw [if_neg c23] at hR
            refine j_iload_n C dX5_taken_57 58 rfl rfl 4 rfl ?_
            refine j_bipush (v := 10) C dX5_taken_58 60 rfl (by decide) ?_
            refine j_icmp_lt C dX5_taken_60 89 rfl 63 rfl (fun c31 => ?_) (fun c31 => ?_)
            · rw [if_pos c31] at hR
              refine j_iload C dX5_taken_89 91 rfl 0 rfl ?_
              refine j_if_eq C dX5_taken_91 120 rfl 94 rfl (fun c32 => ?_) (fun c32 => ?_)
              · rw [if_pos c32] at hR
                refine j_bipush (v := (-13)) C dX5_taken_120 122 rfl (by decide) ?_
                exact Rt.ret (hR) rfl dX5_taken_122
              · rw [if_neg c32] at hR
                refine j_aload_n C dX5_taken_94 95 rfl rfl 2 rfl ?_
                refine j_get C dX5_taken_95 98 rfl hiX5 0 rfl rfl 0 (by decide) rfl kX5_taken_f10 rfl ?_
                refine j_get C dX5_taken_98 101 rfl hiX4 4 rfl rfl 1 (by decide) rfl kX5_taken_f106 rfl ?_
                refine j_aload_n C dX5_taken_101 102 rfl rfl 1 rfl ?_
                refine j_get C dX5_taken_102 105 rfl hiX2 11 rfl rfl 1 (by decide) rfl kX5_taken_f264 rfl ?_
                refine j_iald C dX5_taken_105 106 rfl 6 rfl (hold_in c32 hn0 hn) ((shn 0)).toNatClampNeg rfl ?_
                refine j_iload_n C dX5_taken_106 107 rfl rfl 4 rfl ?_
                refine j_cs0I (na := 2) C dX5_taken_107 110 rfl (c_X5_isUnder τ  (nkd ((shn 0)).toNatClampNeg) x2 ) rfl ggX5_taken_X5_isUnder rfl rfl rfl kX5_taken_iRX5 kX5_taken_m267 kX5_taken_sX5_isUnder qd_X5_isUnder rfl ⟨by decide, by decide⟩ ⟨by decide, by decide⟩ rfl (Nat.le_of_ble_eq_true rfl) (fun r33 u33 hX33 hn33 => ?_)
                obtain rfl := (Prod.mk.inj hX33).1
                refine j_if_eq C dX5_taken_110 120 rfl 113 rfl (fun c34 => ?_) (fun c34 => ?_)
                · rw [if_pos c34] at hR
                  refine j_bipush (v := (-13)) C dX5_taken_120 122 rfl (by decide) ?_
                  exact Rt.ret (hR) rfl dX5_taken_122
                · rw [if_neg c34] at hR
                  refine j_aload_n C dX5_taken_113 114 rfl rfl 1 rfl ?_
                  refine j_get C dX5_taken_114 117 rfl hiX2 11 rfl rfl 1 (by decide) rfl kX5_taken_f264 rfl ?_
                  refine j_goto C dX5_taken_117 122 rfl ?_
                  exact Rt.ret (hR) rfl dX5_taken_122
            · rw [if_neg c31] at hR
              refine j_iload C dX5_taken_63 65 rfl 0 rfl ?_
              refine j_if_ne C dX5_taken_65 86 rfl 68 rfl (fun c35 => ?_) (fun c35 => ?_)
              · rw [if_neg c35] at hR
                refine j_bipush (v := (-13)) C dX5_taken_86 88 rfl (by decide) ?_
                exact Rt.ret (hR) rfl dX5_taken_88
              · rw [if_pos c35] at hR
                refine j_aload_n C dX5_taken_68 69 rfl rfl 1 rfl ?_
                refine j_get C dX5_taken_69 72 rfl hiX2 11 rfl rfl 2 (by decide) rfl kX5_taken_f262 rfl ?_
                refine j_iload_n C dX5_taken_72 73 rfl rfl 4 rfl ?_
                refine j_bipush (v := 10) C dX5_taken_73 75 rfl (by decide) ?_
                refine j_isub C dX5_taken_75 76 rfl ?_
                refine j_icmp_ne C dX5_taken_76 86 rfl 79 rfl (fun c36 => ?_) (fun c36 => ?_)
                · rw [if_neg c36] at hR
                  refine j_bipush (v := (-13)) C dX5_taken_86 88 rfl (by decide) ?_
                  exact Rt.ret (hR) rfl dX5_taken_88
                · rw [if_pos c36] at hR
                  refine j_aload_n C dX5_taken_79 80 rfl rfl 1 rfl ?_
                  refine j_get C dX5_taken_80 83 rfl hiX2 11 rfl rfl 3 (by decide) rfl kX5_taken_f263 rfl ?_
                  refine j_goto C dX5_taken_83 88 rfl ?_
                  exact Rt.ret (hR) rfl dX5_taken_88
          · rw [if_pos c23] at hR
            refine j_aload_n C dX5_taken_46 47 rfl rfl 1 rfl ?_
            refine j_get C dX5_taken_47 50 rfl hiX2 11 rfl rfl 0 (by decide) rfl kX5_taken_f259 rfl ?_
            refine j_iconst (v := 1) C dX5_taken_50 51 rfl (by decide) ?_
            refine j_icmp_eq C dX5_taken_51 57 rfl 54 rfl (fun c24 => ?_) (fun c24 => ?_)
            · rw [if_pos c24] at hR
              refine j_iload_n C dX5_taken_57 58 rfl rfl 4 rfl ?_
              refine j_bipush (v := 10) C dX5_taken_58 60 rfl (by decide) ?_
              refine j_icmp_lt C dX5_taken_60 89 rfl 63 rfl (fun c25 => ?_) (fun c25 => ?_)
              · rw [if_pos c25] at hR
                refine j_iload C dX5_taken_89 91 rfl 0 rfl ?_
                refine j_if_eq C dX5_taken_91 120 rfl 94 rfl (fun c26 => ?_) (fun c26 => ?_)
                · rw [if_pos c26] at hR
                  refine j_bipush (v := (-13)) C dX5_taken_120 122 rfl (by decide) ?_
                  exact Rt.ret (hR) rfl dX5_taken_122
                · rw [if_neg c26] at hR
                  refine j_aload_n C dX5_taken_94 95 rfl rfl 2 rfl ?_
                  refine j_get C dX5_taken_95 98 rfl hiX5 0 rfl rfl 0 (by decide) rfl kX5_taken_f10 rfl ?_
                  refine j_get C dX5_taken_98 101 rfl hiX4 4 rfl rfl 1 (by decide) rfl kX5_taken_f106 rfl ?_
                  refine j_aload_n C dX5_taken_101 102 rfl rfl 1 rfl ?_
                  refine j_get C dX5_taken_102 105 rfl hiX2 11 rfl rfl 1 (by decide) rfl kX5_taken_f264 rfl ?_
                  refine j_iald C dX5_taken_105 106 rfl 6 rfl (hold_in c26 hn0 hn) ((shn 0)).toNatClampNeg rfl ?_
                  refine j_iload_n C dX5_taken_106 107 rfl rfl 4 rfl ?_
                  refine j_cs0I (na := 2) C dX5_taken_107 110 rfl (c_X5_isUnder τ  (nkd ((shn 0)).toNatClampNeg) x2 ) rfl ggX5_taken_X5_isUnder rfl rfl rfl kX5_taken_iRX5 kX5_taken_m267 kX5_taken_sX5_isUnder qd_X5_isUnder rfl ⟨by decide, by decide⟩ ⟨by decide, by decide⟩ rfl (Nat.le_of_ble_eq_true rfl) (fun r27 u27 hX27 hn27 => ?_)
                  obtain rfl := (Prod.mk.inj hX27).1
                  refine j_if_eq C dX5_taken_110 120 rfl 113 rfl (fun c28 => ?_) (fun c28 => ?_)
                  · rw [if_pos c28] at hR
                    refine j_bipush (v := (-13)) C dX5_taken_120 122 rfl (by decide) ?_
                    exact Rt.ret (hR) rfl dX5_taken_122
                  · rw [if_neg c28] at hR
                    refine j_aload_n C dX5_taken_113 114 rfl rfl 1 rfl ?_
                    refine j_get C dX5_taken_114 117 rfl hiX2 11 rfl rfl 1 (by decide) rfl kX5_taken_f264 rfl ?_
                    refine j_goto C dX5_taken_117 122 rfl ?_
                    exact Rt.ret (hR) rfl dX5_taken_122
              · rw [if_neg c25] at hR
                refine j_iload C dX5_taken_63 65 rfl 0 rfl ?_
                refine j_if_ne C dX5_taken_65 86 rfl 68 rfl (fun c29 => ?_) (fun c29 => ?_)
                · rw [if_neg c29] at hR
                  refine j_bipush (v := (-13)) C dX5_taken_86 88 rfl (by decide) ?_
                  exact Rt.ret (hR) rfl dX5_taken_88
                · rw [if_pos c29] at hR
                  refine j_aload_n C dX5_taken_68 69 rfl rfl 1 rfl ?_
                  refine j_get C dX5_taken_69 72 rfl hiX2 11 rfl rfl 2 (by decide) rfl kX5_taken_f262 rfl ?_
                  refine j_iload_n C dX5_taken_72 73 rfl rfl 4 rfl ?_
                  refine j_bipush (v := 10) C dX5_taken_73 75 rfl (by decide) ?_
                  refine j_isub C dX5_taken_75 76 rfl ?_
                  refine j_icmp_ne C dX5_taken_76 86 rfl 79 rfl (fun c30 => ?_) (fun c30 => ?_)
                  · rw [if_neg c30] at hR
                    refine j_bipush (v := (-13)) C dX5_taken_86 88 rfl (by decide) ?_
                    exact Rt.ret (hR) rfl dX5_taken_88
                  · rw [if_pos c30] at hR
                    refine j_aload_n C dX5_taken_79 80 rfl rfl 1 rfl ?_
                    refine j_get C dX5_taken_80 83 rfl hiX2 11 rfl rfl 3 (by decide) rfl kX5_taken_f263 rfl ?_
                    refine j_goto C dX5_taken_83 88 rfl ?_
                    exact Rt.ret (hR) rfl dX5_taken_88
            · rw [if_neg c24] at hR
              refine j_bipush (v := (-11)) C dX5_taken_54 56 rfl (by decide) ?_
              exact Rt.ret (hR) rfl dX5_taken_56
        · try rw [show (1 : Int32).toNatClampNeg = 1 from rfl] at hR
          refine j_aald (t0 := 3) (b := (a 71)) (N := 4) C dX5_taken_32 33 rfl 3 rfl rfl (by unfold vp_in; decide) (by rfl) ?_
          refine j_astore_n C dX5_taken_33 34 rfl rfl (by decide) [(3, .ref (a 71)), (0, .ref (a 0)), (1, .int 1), (2, .int x2)] rfl ?_
          refine j_aload_n C dX5_taken_34 35 rfl rfl 1 rfl ?_
          refine j_aload_n C dX5_taken_35 36 rfl rfl 0 rfl ?_
          refine j_cvI (na := 1) C dX5_taken_36 39 rfl (c_X5_holdsPerson τ a (fun j => a (71 + j)) rws isv rc nlw nkd nbt nph ncn nno nct nsc nrn nlg ndn nzz (shw 1) (shn 1) (shs 1) (shz 1) (by first | assumption | (unfold vp_in; decide)) (by first | assumption | (unfold vp_in; decide)) (by first | assumption | (unfold vp_in; decide)) (by first | assumption | (unfold vp_in; decide))) gX5_taken_X5_holdsPerson rfl rfl rfl qd_X5_holdsPerson rfl ⟨by decide, by decide⟩ ⟨by decide, by decide⟩ rfl (Nat.le_of_ble_eq_true rfl) [0, 1, 2, 3, 4, 5, 6, 7, 8, 9, 10, 12] [11, 13, 14] [3, 4, 5, 6, 7, 8, 9, 10, 11, 12, 13, 0, 14, 1, 2] ([(a 70, .inr (2, [.int (shw 0), .int (shn 0), .int (shs 0), .int (shz 0)])), (a 72, .inr (2, [.int (shw 2), .int (shn 2), .int (shs 2), .int (shz 2)])), (a 73, .inr (2, [.int (shw 3), .int (shn 3), .int (shs 3), .int (shz 3)]))]) rfl (by decide) rfl (by decide) (by decide) 5 0 rfl rfl (fun u => ((wX τ a rws isv rc) ++ (wT τ (fun j => a (10 + j)) nlw nkd nbt nph ncn nno nct nsc nrn nlg ndn nzz) ++ (wHH τ a shw shn shs shz))) (fun _ => rfl) (by decide) (fun r37 u37 hX37 hn37 => ?_)
          obtain rfl := (Prod.mk.inj hX37).1
          refine j_istore C dX5_taken_39 41 rfl (by decide) [(4, .int (f_X5_holdsPerson nct (shw 1) (shn 1))), (3, .ref (a 71)), (0, .ref (a 0)), (1, .int 1), (2, .int x2)] rfl ?_
          refine j_iload C dX5_taken_41 43 rfl 0 rfl ?_
          refine j_if_ne C dX5_taken_43 57 rfl 46 rfl (fun c38 => ?_) (fun c38 => ?_)
          · rw [if_neg c38] at hR
            refine j_iload_n C dX5_taken_57 58 rfl rfl 4 rfl ?_
            refine j_bipush (v := 10) C dX5_taken_58 60 rfl (by decide) ?_
            refine j_icmp_lt C dX5_taken_60 89 rfl 63 rfl (fun c46 => ?_) (fun c46 => ?_)
            · rw [if_pos c46] at hR
              refine j_iload C dX5_taken_89 91 rfl 0 rfl ?_
              refine j_if_eq C dX5_taken_91 120 rfl 94 rfl (fun c47 => ?_) (fun c47 => ?_)
              · rw [if_pos c47] at hR
                refine j_bipush (v := (-13)) C dX5_taken_120 122 rfl (by decide) ?_
                exact Rt.ret (hR) rfl dX5_taken_122
              · rw [if_neg c47] at hR
                refine j_aload_n C dX5_taken_94 95 rfl rfl 2 rfl ?_
                refine j_get C dX5_taken_95 98 rfl hiX5 0 rfl rfl 0 (by decide) rfl kX5_taken_f10 rfl ?_
                refine j_get C dX5_taken_98 101 rfl hiX4 4 rfl rfl 1 (by decide) rfl kX5_taken_f106 rfl ?_
                refine j_aload_n C dX5_taken_101 102 rfl rfl 1 rfl ?_
                refine j_get C dX5_taken_102 105 rfl hiX2 12 rfl rfl 1 (by decide) rfl kX5_taken_f264 rfl ?_
                refine j_iald C dX5_taken_105 106 rfl 6 rfl (hold_in c47 hn0 hn) ((shn 1)).toNatClampNeg rfl ?_
                refine j_iload_n C dX5_taken_106 107 rfl rfl 4 rfl ?_
                refine j_cs0I (na := 2) C dX5_taken_107 110 rfl (c_X5_isUnder τ  (nkd ((shn 1)).toNatClampNeg) x2 ) rfl ggX5_taken_X5_isUnder rfl rfl rfl kX5_taken_iRX5 kX5_taken_m267 kX5_taken_sX5_isUnder qd_X5_isUnder rfl ⟨by decide, by decide⟩ ⟨by decide, by decide⟩ rfl (Nat.le_of_ble_eq_true rfl) (fun r48 u48 hX48 hn48 => ?_)
                obtain rfl := (Prod.mk.inj hX48).1
                refine j_if_eq C dX5_taken_110 120 rfl 113 rfl (fun c49 => ?_) (fun c49 => ?_)
                · rw [if_pos c49] at hR
                  refine j_bipush (v := (-13)) C dX5_taken_120 122 rfl (by decide) ?_
                  exact Rt.ret (hR) rfl dX5_taken_122
                · rw [if_neg c49] at hR
                  refine j_aload_n C dX5_taken_113 114 rfl rfl 1 rfl ?_
                  refine j_get C dX5_taken_114 117 rfl hiX2 12 rfl rfl 1 (by decide) rfl kX5_taken_f264 rfl ?_
                  refine j_goto C dX5_taken_117 122 rfl ?_
                  exact Rt.ret (hR) rfl dX5_taken_122
            · rw [if_neg c46] at hR
              refine j_iload C dX5_taken_63 65 rfl 0 rfl ?_
              refine j_if_ne C dX5_taken_65 86 rfl 68 rfl (fun c50 => ?_) (fun c50 => ?_)
              · rw [if_neg c50] at hR
                refine j_bipush (v := (-13)) C dX5_taken_86 88 rfl (by decide) ?_
                exact Rt.ret (hR) rfl dX5_taken_88
              · rw [if_pos c50] at hR
                refine j_aload_n C dX5_taken_68 69 rfl rfl 1 rfl ?_
                refine j_get C dX5_taken_69 72 rfl hiX2 12 rfl rfl 2 (by decide) rfl kX5_taken_f262 rfl ?_
                refine j_iload_n C dX5_taken_72 73 rfl rfl 4 rfl ?_
                refine j_bipush (v := 10) C dX5_taken_73 75 rfl (by decide) ?_
                refine j_isub C dX5_taken_75 76 rfl ?_
                refine j_icmp_ne C dX5_taken_76 86 rfl 79 rfl (fun c51 => ?_) (fun c51 => ?_)
                · rw [if_neg c51] at hR
                  refine j_bipush (v := (-13)) C dX5_taken_86 88 rfl (by decide) ?_
                  exact Rt.ret (hR) rfl dX5_taken_88
                · rw [if_pos c51] at hR
                  refine j_aload_n C dX5_taken_79 80 rfl rfl 1 rfl ?_
                  refine j_get C dX5_taken_80 83 rfl hiX2 12 rfl rfl 3 (by decide) rfl kX5_taken_f263 rfl ?_
                  refine j_goto C dX5_taken_83 88 rfl ?_
                  exact Rt.ret (hR) rfl dX5_taken_88
          · rw [if_pos c38] at hR
            refine j_aload_n C dX5_taken_46 47 rfl rfl 1 rfl ?_
            refine j_get C dX5_taken_47 50 rfl hiX2 12 rfl rfl 0 (by decide) rfl kX5_taken_f259 rfl ?_
            refine j_iconst (v := 1) C dX5_taken_50 51 rfl (by decide) ?_
            refine j_icmp_eq C dX5_taken_51 57 rfl 54 rfl (fun c39 => ?_) (fun c39 => ?_)
            · rw [if_pos c39] at hR
              refine j_iload_n C dX5_taken_57 58 rfl rfl 4 rfl ?_
              refine j_bipush (v := 10) C dX5_taken_58 60 rfl (by decide) ?_
              refine j_icmp_lt C dX5_taken_60 89 rfl 63 rfl (fun c40 => ?_) (fun c40 => ?_)
              · rw [if_pos c40] at hR
                refine j_iload C dX5_taken_89 91 rfl 0 rfl ?_
                refine j_if_eq C dX5_taken_91 120 rfl 94 rfl (fun c41 => ?_) (fun c41 => ?_)
                · rw [if_pos c41] at hR
                  refine j_bipush (v := (-13)) C dX5_taken_120 122 rfl (by decide) ?_
                  exact Rt.ret (hR) rfl dX5_taken_122
                · rw [if_neg c41] at hR
                  refine j_aload_n C dX5_taken_94 95 rfl rfl 2 rfl ?_
                  refine j_get C dX5_taken_95 98 rfl hiX5 0 rfl rfl 0 (by decide) rfl kX5_taken_f10 rfl ?_
                  refine j_get C dX5_taken_98 101 rfl hiX4 4 rfl rfl 1 (by decide) rfl kX5_taken_f106 rfl ?_
                  refine j_aload_n C dX5_taken_101 102 rfl rfl 1 rfl ?_
                  refine j_get C dX5_taken_102 105 rfl hiX2 12 rfl rfl 1 (by decide) rfl kX5_taken_f264 rfl ?_
                  refine j_iald C dX5_taken_105 106 rfl 6 rfl (hold_in c41 hn0 hn) ((shn 1)).toNatClampNeg rfl ?_
                  refine j_iload_n C dX5_taken_106 107 rfl rfl 4 rfl ?_
                  refine j_cs0I (na := 2) C dX5_taken_107 110 rfl (c_X5_isUnder τ  (nkd ((shn 1)).toNatClampNeg) x2 ) rfl ggX5_taken_X5_isUnder rfl rfl rfl kX5_taken_iRX5 kX5_taken_m267 kX5_taken_sX5_isUnder qd_X5_isUnder rfl ⟨by decide, by decide⟩ ⟨by decide, by decide⟩ rfl (Nat.le_of_ble_eq_true rfl) (fun r42 u42 hX42 hn42 => ?_)
                  obtain rfl := (Prod.mk.inj hX42).1
                  refine j_if_eq C dX5_taken_110 120 rfl 113 rfl (fun c43 => ?_) (fun c43 => ?_)
                  · rw [if_pos c43] at hR
                    refine j_bipush (v := (-13)) C dX5_taken_120 122 rfl (by decide) ?_
                    exact Rt.ret (hR) rfl dX5_taken_122
                  · rw [if_neg c43] at hR
                    refine j_aload_n C dX5_taken_113 114 rfl rfl 1 rfl ?_
                    refine j_get C dX5_taken_114 117 rfl hiX2 12 rfl rfl 1 (by decide) rfl kX5_taken_f264 rfl ?_
                    refine j_goto C dX5_taken_117 122 rfl ?_
                    exact Rt.ret (hR) rfl dX5_taken_122
              · rw [if_neg c40] at hR
                refine j_iload C dX5_taken_63 65 rfl 0 rfl ?_
                refine j_if_ne C dX5_taken_65 86 rfl 68 rfl (fun c44 => ?_) (fun c44 => ?_)
                · rw [if_neg c44] at hR
                  refine j_bipush (v := (-13)) C dX5_taken_86 88 rfl (by decide) ?_
                  exact Rt.ret (hR) rfl dX5_taken_88
                · rw [if_pos c44] at hR
                  refine j_aload_n C dX5_taken_68 69 rfl rfl 1 rfl ?_
                  refine j_get C dX5_taken_69 72 rfl hiX2 12 rfl rfl 2 (by decide) rfl kX5_taken_f262 rfl ?_
                  refine j_iload_n C dX5_taken_72 73 rfl rfl 4 rfl ?_
                  refine j_bipush (v := 10) C dX5_taken_73 75 rfl (by decide) ?_
                  refine j_isub C dX5_taken_75 76 rfl ?_
                  refine j_icmp_ne C dX5_taken_76 86 rfl 79 rfl (fun c45 => ?_) (fun c45 => ?_)
                  · rw [if_neg c45] at hR
                    refine j_bipush (v := (-13)) C dX5_taken_86 88 rfl (by decide) ?_
                    exact Rt.ret (hR) rfl dX5_taken_88
                  · rw [if_pos c45] at hR
                    refine j_aload_n C dX5_taken_79 80 rfl rfl 1 rfl ?_
                    refine j_get C dX5_taken_80 83 rfl hiX2 12 rfl rfl 3 (by decide) rfl kX5_taken_f263 rfl ?_
                    refine j_goto C dX5_taken_83 88 rfl ?_
                    exact Rt.ret (hR) rfl dX5_taken_88
            · rw [if_neg c39] at hR
              refine j_bipush (v := (-11)) C dX5_taken_54 56 rfl (by decide) ?_
              exact Rt.ret (hR) rfl dX5_taken_56
        · try rw [show (2 : Int32).toNatClampNeg = 2 from rfl] at hR
          refine j_aald (t0 := 3) (b := (a 72)) (N := 4) C dX5_taken_32 33 rfl 3 rfl rfl (by unfold vp_in; decide) (by rfl) ?_
          refine j_astore_n C dX5_taken_33 34 rfl rfl (by decide) [(3, .ref (a 72)), (0, .ref (a 0)), (1, .int 2), (2, .int x2)] rfl ?_
          refine j_aload_n C dX5_taken_34 35 rfl rfl 1 rfl ?_
          refine j_aload_n C dX5_taken_35 36 rfl rfl 0 rfl ?_
          refine j_cvI (na := 1) C dX5_taken_36 39 rfl (c_X5_holdsPerson τ a (fun j => a (72 + j)) rws isv rc nlw nkd nbt nph ncn nno nct nsc nrn nlg ndn nzz (shw 2) (shn 2) (shs 2) (shz 2) (by first | assumption | (unfold vp_in; decide)) (by first | assumption | (unfold vp_in; decide)) (by first | assumption | (unfold vp_in; decide)) (by first | assumption | (unfold vp_in; decide))) gX5_taken_X5_holdsPerson rfl rfl rfl qd_X5_holdsPerson rfl ⟨by decide, by decide⟩ ⟨by decide, by decide⟩ rfl (Nat.le_of_ble_eq_true rfl) [0, 1, 2, 3, 4, 5, 6, 7, 8, 9, 10, 13] [11, 12, 14] [3, 4, 5, 6, 7, 8, 9, 10, 11, 12, 13, 0, 1, 14, 2] ([(a 70, .inr (2, [.int (shw 0), .int (shn 0), .int (shs 0), .int (shz 0)])), (a 71, .inr (2, [.int (shw 1), .int (shn 1), .int (shs 1), .int (shz 1)])), (a 73, .inr (2, [.int (shw 3), .int (shn 3), .int (shs 3), .int (shz 3)]))]) rfl (by decide) rfl (by decide) (by decide) 5 0 rfl rfl (fun u => ((wX τ a rws isv rc) ++ (wT τ (fun j => a (10 + j)) nlw nkd nbt nph ncn nno nct nsc nrn nlg ndn nzz) ++ (wHH τ a shw shn shs shz))) (fun _ => rfl) (by decide) (fun r52 u52 hX52 hn52 => ?_)
          obtain rfl := (Prod.mk.inj hX52).1
          refine j_istore C dX5_taken_39 41 rfl (by decide) [(4, .int (f_X5_holdsPerson nct (shw 2) (shn 2))), (3, .ref (a 72)), (0, .ref (a 0)), (1, .int 2), (2, .int x2)] rfl ?_
          refine j_iload C dX5_taken_41 43 rfl 0 rfl ?_
          refine j_if_ne C dX5_taken_43 57 rfl 46 rfl (fun c53 => ?_) (fun c53 => ?_)
          · rw [if_neg c53] at hR
            refine j_iload_n C dX5_taken_57 58 rfl rfl 4 rfl ?_
            refine j_bipush (v := 10) C dX5_taken_58 60 rfl (by decide) ?_
            refine j_icmp_lt C dX5_taken_60 89 rfl 63 rfl (fun c61 => ?_) (fun c61 => ?_)
            · rw [if_pos c61] at hR
              refine j_iload C dX5_taken_89 91 rfl 0 rfl ?_
              refine j_if_eq C dX5_taken_91 120 rfl 94 rfl (fun c62 => ?_) (fun c62 => ?_)
              · rw [if_pos c62] at hR
                refine j_bipush (v := (-13)) C dX5_taken_120 122 rfl (by decide) ?_
                exact Rt.ret (hR) rfl dX5_taken_122
              · rw [if_neg c62] at hR
                refine j_aload_n C dX5_taken_94 95 rfl rfl 2 rfl ?_
                refine j_get C dX5_taken_95 98 rfl hiX5 0 rfl rfl 0 (by decide) rfl kX5_taken_f10 rfl ?_
                refine j_get C dX5_taken_98 101 rfl hiX4 4 rfl rfl 1 (by decide) rfl kX5_taken_f106 rfl ?_
                refine j_aload_n C dX5_taken_101 102 rfl rfl 1 rfl ?_
                refine j_get C dX5_taken_102 105 rfl hiX2 13 rfl rfl 1 (by decide) rfl kX5_taken_f264 rfl ?_
                refine j_iald C dX5_taken_105 106 rfl 6 rfl (hold_in c62 hn0 hn) ((shn 2)).toNatClampNeg rfl ?_
                refine j_iload_n C dX5_taken_106 107 rfl rfl 4 rfl ?_
                refine j_cs0I (na := 2) C dX5_taken_107 110 rfl (c_X5_isUnder τ  (nkd ((shn 2)).toNatClampNeg) x2 ) rfl ggX5_taken_X5_isUnder rfl rfl rfl kX5_taken_iRX5 kX5_taken_m267 kX5_taken_sX5_isUnder qd_X5_isUnder rfl ⟨by decide, by decide⟩ ⟨by decide, by decide⟩ rfl (Nat.le_of_ble_eq_true rfl) (fun r63 u63 hX63 hn63 => ?_)
                obtain rfl := (Prod.mk.inj hX63).1
                refine j_if_eq C dX5_taken_110 120 rfl 113 rfl (fun c64 => ?_) (fun c64 => ?_)
                · rw [if_pos c64] at hR
                  refine j_bipush (v := (-13)) C dX5_taken_120 122 rfl (by decide) ?_
                  exact Rt.ret (hR) rfl dX5_taken_122
                · rw [if_neg c64] at hR
                  refine j_aload_n C dX5_taken_113 114 rfl rfl 1 rfl ?_
                  refine j_get C dX5_taken_114 117 rfl hiX2 13 rfl rfl 1 (by decide) rfl kX5_taken_f264 rfl ?_
                  refine j_goto C dX5_taken_117 122 rfl ?_
                  exact Rt.ret (hR) rfl dX5_taken_122
            · rw [if_neg c61] at hR
              refine j_iload C dX5_taken_63 65 rfl 0 rfl ?_
              refine j_if_ne C dX5_taken_65 86 rfl 68 rfl (fun c65 => ?_) (fun c65 => ?_)
              · rw [if_neg c65] at hR
                refine j_bipush (v := (-13)) C dX5_taken_86 88 rfl (by decide) ?_
                exact Rt.ret (hR) rfl dX5_taken_88
              · rw [if_pos c65] at hR
                refine j_aload_n C dX5_taken_68 69 rfl rfl 1 rfl ?_
                refine j_get C dX5_taken_69 72 rfl hiX2 13 rfl rfl 2 (by decide) rfl kX5_taken_f262 rfl ?_
                refine j_iload_n C dX5_taken_72 73 rfl rfl 4 rfl ?_
                refine j_bipush (v := 10) C dX5_taken_73 75 rfl (by decide) ?_
                refine j_isub C dX5_taken_75 76 rfl ?_
                refine j_icmp_ne C dX5_taken_76 86 rfl 79 rfl (fun c66 => ?_) (fun c66 => ?_)
                · rw [if_neg c66] at hR
                  refine j_bipush (v := (-13)) C dX5_taken_86 88 rfl (by decide) ?_
                  exact Rt.ret (hR) rfl dX5_taken_88
                · rw [if_pos c66] at hR
                  refine j_aload_n C dX5_taken_79 80 rfl rfl 1 rfl ?_
                  refine j_get C dX5_taken_80 83 rfl hiX2 13 rfl rfl 3 (by decide) rfl kX5_taken_f263 rfl ?_
                  refine j_goto C dX5_taken_83 88 rfl ?_
                  exact Rt.ret (hR) rfl dX5_taken_88
          · rw [if_pos c53] at hR
            refine j_aload_n C dX5_taken_46 47 rfl rfl 1 rfl ?_
            refine j_get C dX5_taken_47 50 rfl hiX2 13 rfl rfl 0 (by decide) rfl kX5_taken_f259 rfl ?_
            refine j_iconst (v := 1) C dX5_taken_50 51 rfl (by decide) ?_
            refine j_icmp_eq C dX5_taken_51 57 rfl 54 rfl (fun c54 => ?_) (fun c54 => ?_)
            · rw [if_pos c54] at hR
              refine j_iload_n C dX5_taken_57 58 rfl rfl 4 rfl ?_
              refine j_bipush (v := 10) C dX5_taken_58 60 rfl (by decide) ?_
              refine j_icmp_lt C dX5_taken_60 89 rfl 63 rfl (fun c55 => ?_) (fun c55 => ?_)
              · rw [if_pos c55] at hR
                refine j_iload C dX5_taken_89 91 rfl 0 rfl ?_
                refine j_if_eq C dX5_taken_91 120 rfl 94 rfl (fun c56 => ?_) (fun c56 => ?_)
                · rw [if_pos c56] at hR
                  refine j_bipush (v := (-13)) C dX5_taken_120 122 rfl (by decide) ?_
                  exact Rt.ret (hR) rfl dX5_taken_122
                · rw [if_neg c56] at hR
                  refine j_aload_n C dX5_taken_94 95 rfl rfl 2 rfl ?_
                  refine j_get C dX5_taken_95 98 rfl hiX5 0 rfl rfl 0 (by decide) rfl kX5_taken_f10 rfl ?_
                  refine j_get C dX5_taken_98 101 rfl hiX4 4 rfl rfl 1 (by decide) rfl kX5_taken_f106 rfl ?_
                  refine j_aload_n C dX5_taken_101 102 rfl rfl 1 rfl ?_
                  refine j_get C dX5_taken_102 105 rfl hiX2 13 rfl rfl 1 (by decide) rfl kX5_taken_f264 rfl ?_
                  refine j_iald C dX5_taken_105 106 rfl 6 rfl (hold_in c56 hn0 hn) ((shn 2)).toNatClampNeg rfl ?_
                  refine j_iload_n C dX5_taken_106 107 rfl rfl 4 rfl ?_
                  refine j_cs0I (na := 2) C dX5_taken_107 110 rfl (c_X5_isUnder τ  (nkd ((shn 2)).toNatClampNeg) x2 ) rfl ggX5_taken_X5_isUnder rfl rfl rfl kX5_taken_iRX5 kX5_taken_m267 kX5_taken_sX5_isUnder qd_X5_isUnder rfl ⟨by decide, by decide⟩ ⟨by decide, by decide⟩ rfl (Nat.le_of_ble_eq_true rfl) (fun r57 u57 hX57 hn57 => ?_)
                  obtain rfl := (Prod.mk.inj hX57).1
                  refine j_if_eq C dX5_taken_110 120 rfl 113 rfl (fun c58 => ?_) (fun c58 => ?_)
                  · rw [if_pos c58] at hR
                    refine j_bipush (v := (-13)) C dX5_taken_120 122 rfl (by decide) ?_
                    exact Rt.ret (hR) rfl dX5_taken_122
                  · rw [if_neg c58] at hR
                    refine j_aload_n C dX5_taken_113 114 rfl rfl 1 rfl ?_
                    refine j_get C dX5_taken_114 117 rfl hiX2 13 rfl rfl 1 (by decide) rfl kX5_taken_f264 rfl ?_
                    refine j_goto C dX5_taken_117 122 rfl ?_
                    exact Rt.ret (hR) rfl dX5_taken_122
              · rw [if_neg c55] at hR
                refine j_iload C dX5_taken_63 65 rfl 0 rfl ?_
                refine j_if_ne C dX5_taken_65 86 rfl 68 rfl (fun c59 => ?_) (fun c59 => ?_)
                · rw [if_neg c59] at hR
                  refine j_bipush (v := (-13)) C dX5_taken_86 88 rfl (by decide) ?_
                  exact Rt.ret (hR) rfl dX5_taken_88
                · rw [if_pos c59] at hR
                  refine j_aload_n C dX5_taken_68 69 rfl rfl 1 rfl ?_
                  refine j_get C dX5_taken_69 72 rfl hiX2 13 rfl rfl 2 (by decide) rfl kX5_taken_f262 rfl ?_
                  refine j_iload_n C dX5_taken_72 73 rfl rfl 4 rfl ?_
                  refine j_bipush (v := 10) C dX5_taken_73 75 rfl (by decide) ?_
                  refine j_isub C dX5_taken_75 76 rfl ?_
                  refine j_icmp_ne C dX5_taken_76 86 rfl 79 rfl (fun c60 => ?_) (fun c60 => ?_)
                  · rw [if_neg c60] at hR
                    refine j_bipush (v := (-13)) C dX5_taken_86 88 rfl (by decide) ?_
                    exact Rt.ret (hR) rfl dX5_taken_88
                  · rw [if_pos c60] at hR
                    refine j_aload_n C dX5_taken_79 80 rfl rfl 1 rfl ?_
                    refine j_get C dX5_taken_80 83 rfl hiX2 13 rfl rfl 3 (by decide) rfl kX5_taken_f263 rfl ?_
                    refine j_goto C dX5_taken_83 88 rfl ?_
                    exact Rt.ret (hR) rfl dX5_taken_88
            · rw [if_neg c54] at hR
              refine j_bipush (v := (-11)) C dX5_taken_54 56 rfl (by decide) ?_
              exact Rt.ret (hR) rfl dX5_taken_56
        · try rw [show (3 : Int32).toNatClampNeg = 3 from rfl] at hR
          refine j_aald (t0 := 3) (b := (a 73)) (N := 4) C dX5_taken_32 33 rfl 3 rfl rfl (by unfold vp_in; decide) (by rfl) ?_
          refine j_astore_n C dX5_taken_33 34 rfl rfl (by decide) [(3, .ref (a 73)), (0, .ref (a 0)), (1, .int 3), (2, .int x2)] rfl ?_
          refine j_aload_n C dX5_taken_34 35 rfl rfl 1 rfl ?_
          refine j_aload_n C dX5_taken_35 36 rfl rfl 0 rfl ?_
          refine j_cvI (na := 1) C dX5_taken_36 39 rfl (c_X5_holdsPerson τ a (fun j => a (73 + j)) rws isv rc nlw nkd nbt nph ncn nno nct nsc nrn nlg ndn nzz (shw 3) (shn 3) (shs 3) (shz 3) (by first | assumption | (unfold vp_in; decide)) (by first | assumption | (unfold vp_in; decide)) (by first | assumption | (unfold vp_in; decide)) (by first | assumption | (unfold vp_in; decide))) gX5_taken_X5_holdsPerson rfl rfl rfl qd_X5_holdsPerson rfl ⟨by decide, by decide⟩ ⟨by decide, by decide⟩ rfl (Nat.le_of_ble_eq_true rfl) [0, 1, 2, 3, 4, 5, 6, 7, 8, 9, 10, 14] [11, 12, 13] [3, 4, 5, 6, 7, 8, 9, 10, 11, 12, 13, 0, 1, 2, 14] ([(a 70, .inr (2, [.int (shw 0), .int (shn 0), .int (shs 0), .int (shz 0)])), (a 71, .inr (2, [.int (shw 1), .int (shn 1), .int (shs 1), .int (shz 1)])), (a 72, .inr (2, [.int (shw 2), .int (shn 2), .int (shs 2), .int (shz 2)]))]) rfl (by decide) rfl (by decide) (by decide) 5 0 rfl rfl (fun u => ((wX τ a rws isv rc) ++ (wT τ (fun j => a (10 + j)) nlw nkd nbt nph ncn nno nct nsc nrn nlg ndn nzz) ++ (wHH τ a shw shn shs shz))) (fun _ => rfl) (by decide) (fun r67 u67 hX67 hn67 => ?_)
          obtain rfl := (Prod.mk.inj hX67).1
          refine j_istore C dX5_taken_39 41 rfl (by decide) [(4, .int (f_X5_holdsPerson nct (shw 3) (shn 3))), (3, .ref (a 73)), (0, .ref (a 0)), (1, .int 3), (2, .int x2)] rfl ?_
          refine j_iload C dX5_taken_41 43 rfl 0 rfl ?_
          refine j_if_ne C dX5_taken_43 57 rfl 46 rfl (fun c68 => ?_) (fun c68 => ?_)
          · rw [if_neg c68] at hR
            refine j_iload_n C dX5_taken_57 58 rfl rfl 4 rfl ?_
            refine j_bipush (v := 10) C dX5_taken_58 60 rfl (by decide) ?_
            refine j_icmp_lt C dX5_taken_60 89 rfl 63 rfl (fun c76 => ?_) (fun c76 => ?_)
            · rw [if_pos c76] at hR
              refine j_iload C dX5_taken_89 91 rfl 0 rfl ?_
              refine j_if_eq C dX5_taken_91 120 rfl 94 rfl (fun c77 => ?_) (fun c77 => ?_)
              · rw [if_pos c77] at hR
                refine j_bipush (v := (-13)) C dX5_taken_120 122 rfl (by decide) ?_
                exact Rt.ret (hR) rfl dX5_taken_122
              · rw [if_neg c77] at hR
                refine j_aload_n C dX5_taken_94 95 rfl rfl 2 rfl ?_
                refine j_get C dX5_taken_95 98 rfl hiX5 0 rfl rfl 0 (by decide) rfl kX5_taken_f10 rfl ?_
                refine j_get C dX5_taken_98 101 rfl hiX4 4 rfl rfl 1 (by decide) rfl kX5_taken_f106 rfl ?_
                refine j_aload_n C dX5_taken_101 102 rfl rfl 1 rfl ?_
                refine j_get C dX5_taken_102 105 rfl hiX2 14 rfl rfl 1 (by decide) rfl kX5_taken_f264 rfl ?_
                refine j_iald C dX5_taken_105 106 rfl 6 rfl (hold_in c77 hn0 hn) ((shn 3)).toNatClampNeg rfl ?_
                refine j_iload_n C dX5_taken_106 107 rfl rfl 4 rfl ?_
                refine j_cs0I (na := 2) C dX5_taken_107 110 rfl (c_X5_isUnder τ  (nkd ((shn 3)).toNatClampNeg) x2 ) rfl ggX5_taken_X5_isUnder rfl rfl rfl kX5_taken_iRX5 kX5_taken_m267 kX5_taken_sX5_isUnder qd_X5_isUnder rfl ⟨by decide, by decide⟩ ⟨by decide, by decide⟩ rfl (Nat.le_of_ble_eq_true rfl) (fun r78 u78 hX78 hn78 => ?_)
                obtain rfl := (Prod.mk.inj hX78).1
                refine j_if_eq C dX5_taken_110 120 rfl 113 rfl (fun c79 => ?_) (fun c79 => ?_)
                · rw [if_pos c79] at hR
                  refine j_bipush (v := (-13)) C dX5_taken_120 122 rfl (by decide) ?_
                  exact Rt.ret (hR) rfl dX5_taken_122
                · rw [if_neg c79] at hR
                  refine j_aload_n C dX5_taken_113 114 rfl rfl 1 rfl ?_
                  refine j_get C dX5_taken_114 117 rfl hiX2 14 rfl rfl 1 (by decide) rfl kX5_taken_f264 rfl ?_
                  refine j_goto C dX5_taken_117 122 rfl ?_
                  exact Rt.ret (hR) rfl dX5_taken_122
            · rw [if_neg c76] at hR
              refine j_iload C dX5_taken_63 65 rfl 0 rfl ?_
              refine j_if_ne C dX5_taken_65 86 rfl 68 rfl (fun c80 => ?_) (fun c80 => ?_)
              · rw [if_neg c80] at hR
                refine j_bipush (v := (-13)) C dX5_taken_86 88 rfl (by decide) ?_
                exact Rt.ret (hR) rfl dX5_taken_88
              · rw [if_pos c80] at hR
                refine j_aload_n C dX5_taken_68 69 rfl rfl 1 rfl ?_
                refine j_get C dX5_taken_69 72 rfl hiX2 14 rfl rfl 2 (by decide) rfl kX5_taken_f262 rfl ?_
                refine j_iload_n C dX5_taken_72 73 rfl rfl 4 rfl ?_
                refine j_bipush (v := 10) C dX5_taken_73 75 rfl (by decide) ?_
                refine j_isub C dX5_taken_75 76 rfl ?_
                refine j_icmp_ne C dX5_taken_76 86 rfl 79 rfl (fun c81 => ?_) (fun c81 => ?_)
                · rw [if_neg c81] at hR
                  refine j_bipush (v := (-13)) C dX5_taken_86 88 rfl (by decide) ?_
                  exact Rt.ret (hR) rfl dX5_taken_88
                · rw [if_pos c81] at hR
                  refine j_aload_n C dX5_taken_79 80 rfl rfl 1 rfl ?_
                  refine j_get C dX5_taken_80 83 rfl hiX2 14 rfl rfl 3 (by decide) rfl kX5_taken_f263 rfl ?_
                  refine j_goto C dX5_taken_83 88 rfl ?_
                  exact Rt.ret (hR) rfl dX5_taken_88
          · rw [if_pos c68] at hR
            refine j_aload_n C dX5_taken_46 47 rfl rfl 1 rfl ?_
            refine j_get C dX5_taken_47 50 rfl hiX2 14 rfl rfl 0 (by decide) rfl kX5_taken_f259 rfl ?_
            refine j_iconst (v := 1) C dX5_taken_50 51 rfl (by decide) ?_
            refine j_icmp_eq C dX5_taken_51 57 rfl 54 rfl (fun c69 => ?_) (fun c69 => ?_)
            · rw [if_pos c69] at hR
              refine j_iload_n C dX5_taken_57 58 rfl rfl 4 rfl ?_
              refine j_bipush (v := 10) C dX5_taken_58 60 rfl (by decide) ?_
              refine j_icmp_lt C dX5_taken_60 89 rfl 63 rfl (fun c70 => ?_) (fun c70 => ?_)
              · rw [if_pos c70] at hR
                refine j_iload C dX5_taken_89 91 rfl 0 rfl ?_
                refine j_if_eq C dX5_taken_91 120 rfl 94 rfl (fun c71 => ?_) (fun c71 => ?_)
                · rw [if_pos c71] at hR
                  refine j_bipush (v := (-13)) C dX5_taken_120 122 rfl (by decide) ?_
                  exact Rt.ret (hR) rfl dX5_taken_122
                · rw [if_neg c71] at hR
                  refine j_aload_n C dX5_taken_94 95 rfl rfl 2 rfl ?_
                  refine j_get C dX5_taken_95 98 rfl hiX5 0 rfl rfl 0 (by decide) rfl kX5_taken_f10 rfl ?_
                  refine j_get C dX5_taken_98 101 rfl hiX4 4 rfl rfl 1 (by decide) rfl kX5_taken_f106 rfl ?_
                  refine j_aload_n C dX5_taken_101 102 rfl rfl 1 rfl ?_
                  refine j_get C dX5_taken_102 105 rfl hiX2 14 rfl rfl 1 (by decide) rfl kX5_taken_f264 rfl ?_
                  refine j_iald C dX5_taken_105 106 rfl 6 rfl (hold_in c71 hn0 hn) ((shn 3)).toNatClampNeg rfl ?_
                  refine j_iload_n C dX5_taken_106 107 rfl rfl 4 rfl ?_
                  refine j_cs0I (na := 2) C dX5_taken_107 110 rfl (c_X5_isUnder τ  (nkd ((shn 3)).toNatClampNeg) x2 ) rfl ggX5_taken_X5_isUnder rfl rfl rfl kX5_taken_iRX5 kX5_taken_m267 kX5_taken_sX5_isUnder qd_X5_isUnder rfl ⟨by decide, by decide⟩ ⟨by decide, by decide⟩ rfl (Nat.le_of_ble_eq_true rfl) (fun r72 u72 hX72 hn72 => ?_)
                  obtain rfl := (Prod.mk.inj hX72).1
                  refine j_if_eq C dX5_taken_110 120 rfl 113 rfl (fun c73 => ?_) (fun c73 => ?_)
                  · rw [if_pos c73] at hR
                    refine j_bipush (v := (-13)) C dX5_taken_120 122 rfl (by decide) ?_
                    exact Rt.ret (hR) rfl dX5_taken_122
                  · rw [if_neg c73] at hR
                    refine j_aload_n C dX5_taken_113 114 rfl rfl 1 rfl ?_
                    refine j_get C dX5_taken_114 117 rfl hiX2 14 rfl rfl 1 (by decide) rfl kX5_taken_f264 rfl ?_
                    refine j_goto C dX5_taken_117 122 rfl ?_
                    exact Rt.ret (hR) rfl dX5_taken_122
              · rw [if_neg c70] at hR
                refine j_iload C dX5_taken_63 65 rfl 0 rfl ?_
                refine j_if_ne C dX5_taken_65 86 rfl 68 rfl (fun c74 => ?_) (fun c74 => ?_)
                · rw [if_neg c74] at hR
                  refine j_bipush (v := (-13)) C dX5_taken_86 88 rfl (by decide) ?_
                  exact Rt.ret (hR) rfl dX5_taken_88
                · rw [if_pos c74] at hR
                  refine j_aload_n C dX5_taken_68 69 rfl rfl 1 rfl ?_
                  refine j_get C dX5_taken_69 72 rfl hiX2 14 rfl rfl 2 (by decide) rfl kX5_taken_f262 rfl ?_
                  refine j_iload_n C dX5_taken_72 73 rfl rfl 4 rfl ?_
                  refine j_bipush (v := 10) C dX5_taken_73 75 rfl (by decide) ?_
                  refine j_isub C dX5_taken_75 76 rfl ?_
                  refine j_icmp_ne C dX5_taken_76 86 rfl 79 rfl (fun c75 => ?_) (fun c75 => ?_)
                  · rw [if_neg c75] at hR
                    refine j_bipush (v := (-13)) C dX5_taken_86 88 rfl (by decide) ?_
                    exact Rt.ret (hR) rfl dX5_taken_88
                  · rw [if_pos c75] at hR
                    refine j_aload_n C dX5_taken_79 80 rfl rfl 1 rfl ?_
                    refine j_get C dX5_taken_80 83 rfl hiX2 14 rfl rfl 3 (by decide) rfl kX5_taken_f263 rfl ?_
                    refine j_goto C dX5_taken_83 88 rfl ?_
                    exact Rt.ret (hR) rfl dX5_taken_88
            · rw [if_neg c69] at hR
              refine j_bipush (v := (-11)) C dX5_taken_54 56 rfl (by decide) ?_
              exact Rt.ret (hR) rfl dX5_taken_56
      · rw [if_pos c6] at hR
        refine j_iconst (v := (-1)) C dX5_taken_25 26 rfl (by decide) ?_
        exact Rt.ret (hR) rfl dX5_taken_26

-- X5_fits main now sheets tried
def l_X5_fits_52 (nlw : Nat → Int32) (nkd : Nat → Int32) (nbt : Nat → Int32) (nph : Nat → Int32) (ncn : Nat → Int32) (nno : Nat → Int32) (nct : Int32) (nsc : Int32) (nrn : Int32) (nlg : Int32) (ndn : Int32) (nzz : Int32) (sit : Nat → Nat → Int64) (ssi : Nat → Int32) (x1 : Int32) (x2 : Int32) : Nat → Int32 → Int32 → (Nat → Int32) → (Nat → Int32) → (Nat → Int32) → (Nat → Int32) → (Nat → Int32) → (Nat → Int32) → Int32 → Int32 → Int32 → Int32 → Int32 → Int32 → Int32 × Int32 × (Nat → Int32) × (Nat → Int32) × (Nat → Int32) × (Nat → Int32) × (Nat → Int32) × (Nat → Int32) × Int32 × Int32 × Int32 × Int32 × Int32 × Int32
  | 0, x4, x5, tlw, tkd, tbt, tph, tcn, tno, tct, tsc, trn, tlg, tdn, tzz => (x4, x5, tlw, tkd, tbt, tph, tcn, tno, tct, tsc, trn, tlg, tdn, tzz)
  | N + 1, x4, x5, tlw, tkd, tbt, tph, tcn, tno, tct, tsc, trn, tlg, tdn, tzz => if (x5 < 0) then (x4, x5, tlw, tkd, tbt, tph, tcn, tno, tct, tsc, trn, tlg, tdn, tzz) else (pr13 (f_X5_isTold nlw nkd nbt nph ncn nno nct nsc nrn nlg ndn nzz tlw tkd tbt tph tcn tno (sit (x1).toNatClampNeg) (ssi (x1).toNatClampNeg) x2 x5) (fun r10 tlw_10 tkd_10 tbt_10 tph_10 tcn_10 tno_10 tct_10 tsc_10 trn_10 tlg_10 tdn_10 tzz_10 => pr1 (if (r10 = 0) then (0 : Int32) else (1 : Int32)) (fun j74_0 => l_X5_fits_52 nlw nkd nbt nph ncn nno nct nsc nrn nlg ndn nzz sit ssi x1 x2 N ((x4 * 2) + j74_0) (x5 + (-1)) tlw_10 tkd_10 tbt_10 tph_10 tcn_10 tno_10 tct_10 tsc_10 trn_10 tlg_10 tdn_10 tzz_10)))
def f_X5_fits (nlw : Nat → Int32) (nkd : Nat → Int32) (nbt : Nat → Int32) (nph : Nat → Int32) (ncn : Nat → Int32) (nno : Nat → Int32) (nct : Int32) (nsc : Int32) (nrn : Int32) (nlg : Int32) (ndn : Int32) (nzz : Int32) (tlw : Nat → Int32) (tkd : Nat → Int32) (tbt : Nat → Int32) (tph : Nat → Int32) (tcn : Nat → Int32) (tno : Nat → Int32) (tct : Int32) (tsc : Int32) (trn : Int32) (tlg : Int32) (tdn : Int32) (tzz : Int32) (sit : Nat → Nat → Int64) (ssr : Nat → Int32) (ssi : Nat → Int32) (x1 : Int32) (x2 : Int32) (x3 : Int32) : Int32 × (Nat → Int32) × (Nat → Int32) × (Nat → Int32) × (Nat → Int32) × (Nat → Int32) × (Nat → Int32) × Int32 × Int32 × Int32 × Int32 × Int32 × Int32 := if ((f_X5_isSheet x1) = 0) then (((-1) : Int32), tlw, tkd, tbt, tph, tcn, tno, tct, tsc, trn, tlg, tdn, tzz) else (if ((f_X4_has nct x2) = 0) then (((-1) : Int32), tlw, tkd, tbt, tph, tcn, tno, tct, tsc, trn, tlg, tdn, tzz) else (if ((f_X5_isIn x3 (0 : Int32) (1 : Int32)) = 0) then (((-1) : Int32), tlw, tkd, tbt, tph, tcn, tno, tct, tsc, trn, tlg, tdn, tzz) else (if ((ssr (x1).toNatClampNeg) = (-1)) then (((-11) : Int32), tlw, tkd, tbt, tph, tcn, tno, tct, tsc, trn, tlg, tdn, tzz) else (pr14 (l_X5_fits_52 nlw nkd nbt nph ncn nno nct nsc nrn nlg ndn nzz sit ssi x1 x2 300 (0 : Int32) (8 : Int32) tlw tkd tbt tph tcn tno tct tsc trn tlg tdn tzz) (fun x4_8 x5_8 tlw_8 tkd_8 tbt_8 tph_8 tcn_8 tno_8 tct_8 tsc_8 trn_8 tlg_8 tdn_8 tzz_8 => if (x3 = 0) then ((f_J6_bitCount_0f7a4 x4_8), tlw_8, tkd_8, tbt_8, tph_8, tcn_8, tno_8, tct_8, tsc_8, trn_8, tlg_8, tdn_8, tzz_8) else (if (x4_8 = 0) then (((-3) : Int32), tlw_8, tkd_8, tbt_8, tph_8, tcn_8, tno_8, tct_8, tsc_8, trn_8, tlg_8, tdn_8, tzz_8) else ((f_J6_numberOfTrailingZeros_0f7a4 x4_8), tlw_8, tkd_8, tbt_8, tph_8, tcn_8, tno_8, tct_8, tsc_8, trn_8, tlg_8, tdn_8, tzz_8)))))))
theorem kX5_fits_iRX5 : Cond.initialized yX5_isIn.cls ∈ wsX5_fits := by decide +kernel
theorem kX5_fits_sX5_isSheet : Cond.static yX5_isSheet ∈ wsX5_fits := by decide +kernel
theorem kX5_fits_m193 : Cond.methodLink RX5 193 yX5_isSheet ∈ wsX5_fits := by decide +kernel
theorem kX5_fits_f10 : Cond.fieldLink RX5 10 "TwoMinutes" "now" "LTwoMinutes$Town;" ∈ wsX5_fits := by decide +kernel
theorem kX5_fits_sX5_isIn : Cond.static yX5_isIn ∈ wsX5_fits := by decide +kernel
theorem kX5_fits_m79 : Cond.methodLink RX5 79 yX5_isIn ∈ wsX5_fits := by decide +kernel
theorem kX5_fits_f35 : Cond.fieldLink RX5 35 "TwoMinutes" "sheets" "[LTwoMinutes$Sheet;" ∈ wsX5_fits := by decide +kernel
theorem kX5_fits_f196 : Cond.fieldLink RX5 196 "TwoMinutes$Sheet" "sort" "I" ∈ wsX5_fits := by decide +kernel
theorem kX5_fits_iRJ6 : Cond.initialized yJ6_numberOfTrailingZeros_0f7a4.cls ∈ wsX5_fits := by decide +kernel
theorem kX5_fits_sJ6_bitCount_0f7a4 : Cond.static yJ6_bitCount_0f7a4 ∈ wsX5_fits := by decide +kernel
theorem kX5_fits_m184 : Cond.methodLink RX5 184 yJ6_bitCount_0f7a4 ∈ wsX5_fits := by decide +kernel
theorem kX5_fits_sJ6_numberOfTrailingZeros_0f7a4 : Cond.static yJ6_numberOfTrailingZeros_0f7a4 ∈ wsX5_fits := by decide +kernel
theorem kX5_fits_m172 : Cond.methodLink RX5 172 yJ6_numberOfTrailingZeros_0f7a4 ∈ wsX5_fits := by decide +kernel
theorem qd_X5_fits : yX5_fits.cls = RX5 ∧ yX5_fits.cls ≠ "java/lang/invoke/MethodHandle" ∧ yX5_fits.cls ≠ "java/lang/invoke/VarHandle" ∧ (parseMethodDescriptor yX5_fits.desc).map (fun d => d.parameters.length) = some 3 := by decide +kernel
abbrev rmX5_fits : Room := { frames := 5, cells := 0, slots := 0, locals := 110 }
set_option maxHeartbeats 4000000 in
set_option maxRecDepth 100000 in
theorem L_X5_fits_52_x10 {τ : SX} {κ : KX} (C : Cx τ κ cX5_fits RX5 wsX5_fits rmX5_fits 6) (a : Nat → Nat) (rws : Nat → Int32) (isv : Int32) (rc : Int32) (nlw : Nat → Int32) (nkd : Nat → Int32) (nbt : Nat → Int32) (nph : Nat → Int32) (ncn : Nat → Int32) (nno : Nat → Int32) (nct : Int32) (nsc : Int32) (nrn : Int32) (nlg : Int32) (ndn : Int32) (nzz : Int32) (sit : Nat → Nat → Int64) (ssr : Nat → Int32) (ssi : Nat → Int32) (x2 : Int32) (x3 : Int32) (hrc0 : 0 ≤ rc.toInt) (hrc : rc.toInt ≤ 10) (hn0 : 0 ≤ nct.toInt) (hn : nct.toInt ≤ 8) (hsi : ∀ i, 0 ≤ (ssi i).toInt ∧ (ssi i).toInt ≤ 40) (hv : vp_in x2 8) (Φ : Int32 × Int32 × (Nat → Int32) × (Nat → Int32) × (Nat → Int32) × (Nat → Int32) × (Nat → Int32) × (Nat → Int32) × Int32 × Int32 × Int32 × Int32 × Int32 × Int32 → Prop) (hE : ∀ (x4 : Int32) (x5 : Int32) (tlw : Nat → Int32) (tkd : Nat → Int32) (tbt : Nat → Int32) (tph : Nat → Int32) (tcn : Nat → Int32) (tno : Nat → Int32) (tct : Int32) (tsc : Int32) (trn : Int32) (tlg : Int32) (tdn : Int32) (tzz : Int32), Φ (x4, x5, tlw, tkd, tbt, tph, tcn, tno, tct, tsc, trn, tlg, tdn, tzz) → J τ κ 0 0 ((wX τ a rws isv rc) ++ (wT τ (fun j => a (10 + j)) nlw nkd nbt nph ncn nno nct nsc nrn nlg ndn nzz) ++ (wT τ (fun j => a (20 + j)) tlw tkd tbt tph tcn tno tct tsc trn tlg tdn tzz) ++ (wSS τ a sit ssr ssi)) [(0, .ref (a 0)), (1, .int 0), (2, .int x2), (3, .int x3), (4, .int x4), (5, .int x5)] 91 []) : ∀ (N : Nat) (x4 : Int32) (x5 : Int32) (tlw : Nat → Int32) (tkd : Nat → Int32) (tbt : Nat → Int32) (tph : Nat → Int32) (tcn : Nat → Int32) (tno : Nat → Int32) (tct : Int32) (tsc : Int32) (trn : Int32) (tlg : Int32) (tdn : Int32) (tzz : Int32), (x5.toInt + 1).toNat < N → (-1 ≤ x5.toInt) → (x5.toInt ≤ 8) → Φ (l_X5_fits_52 nlw nkd nbt nph ncn nno nct nsc nrn nlg ndn nzz sit ssi (0 : Int32) x2 N x4 x5 tlw tkd tbt tph tcn tno tct tsc trn tlg tdn tzz) → J τ κ 0 0 ((wX τ a rws isv rc) ++ (wT τ (fun j => a (10 + j)) nlw nkd nbt nph ncn nno nct nsc nrn nlg ndn nzz) ++ (wT τ (fun j => a (20 + j)) tlw tkd tbt tph tcn tno tct tsc trn tlg tdn tzz) ++ (wSS τ a sit ssr ssi)) [(0, .ref (a 0)), (1, .int 0), (2, .int x2), (3, .int x3), (4, .int x4), (5, .int x5)] 52 [] := by
  have hiX4 : ∀ w ∈ wsX40, w ∈ wsX5_fits := fun w h => List.mem_cons_of_mem _ (List.mem_append_right _ h)
  have hiX1 : ∀ w ∈ wsX10, w ∈ wsX5_fits := fun w h => List.mem_cons_of_mem _ (List.mem_append_left _ (List.mem_append_right _ h))
  have hiX5 : ∀ w ∈ wsX50, w ∈ wsX5_fits := fun w h => List.mem_cons_of_mem _ (List.mem_append_left _ (List.mem_append_left _ (List.mem_append_right _ h)))
  intro N
  induction N with
  | zero => intro x4 x5 tlw tkd tbt tph tcn tno tct tsc trn tlg tdn tzz hm; exact absurd hm (Nat.not_lt_zero _)
  | succ N ih =>
    intro x4 x5 tlw tkd tbt tph tcn tno tct tsc trn tlg tdn tzz hm h0 h1 hR
    rw [l_X5_fits_52] at hR
    try rw [show (0 : Int32).toNatClampNeg = 0 from rfl] at hR
    refine j_iload C dX5_fits_52 54 rfl 5 rfl ?_
    refine j_if_lt C dX5_fits_54 91 rfl 57 rfl (fun c18 => ?_) (fun c18 => ?_)
    · rw [if_pos c18] at hR
      exact j_lv [0, 1, 2, 3, 4, 5] [(0, .ref (a 0)), (1, .int 0), (2, .int x2), (3, .int x3), (4, .int x4), (5, .int x5)] rfl (hE _ _ _ _ _ _ _ _ _ _ _ _ _ _  hR)
    · rw [if_neg c18] at hR
      have hs := dn_step0 c18
      refine j_iload C dX5_fits_57 59 rfl 4 rfl ?_
      refine j_iconst (v := 2) C dX5_fits_59 60 rfl (by decide) ?_
      refine j_imul C dX5_fits_60 61 rfl ?_
      refine j_aload_n C dX5_fits_61 62 rfl rfl 0 rfl ?_
      refine j_aload_n C dX5_fits_62 63 rfl rfl 0 rfl ?_
      refine j_get C dX5_fits_63 66 rfl hiX5 0 rfl rfl 7 (by decide) rfl kX5_fits_f35 rfl ?_
      refine j_iload_n C dX5_fits_66 67 rfl rfl 1 rfl ?_
      refine j_aald (t0 := 2) (b := (a 60)) (N := 4) C dX5_fits_67 68 rfl 2 rfl rfl (by unfold vp_in; decide) (by rfl) ?_
      refine j_iload_n C dX5_fits_68 69 rfl rfl 2 rfl ?_
      refine j_iload C dX5_fits_69 71 rfl 5 rfl ?_
      refine j_cvI (na := 3) C dX5_fits_71 74 rfl (c_X5_isTold τ a (fun j => a (60 + j)) rws isv rc nlw nkd nbt nph ncn nno nct nsc nrn nlg ndn nzz tlw tkd tbt tph tcn tno tct tsc trn tlg tdn tzz (sit 0) (ssr 0) (ssi 0) x2 x5 hrc0 hrc hn0 hn hv (hsi _).2) gX5_fits_X5_isTold rfl rfl rfl qd_X5_isTold rfl ⟨by decide, by decide⟩ ⟨by decide, by decide⟩ rfl (Nat.le_of_ble_eq_true rfl) [0, 1, 2, 3, 4, 5, 6, 7, 8, 9, 10, 11, 12, 13, 14, 15, 16, 17, 18, 19] [20, 21, 22, 23, 24, 25] [6, 7, 8, 9, 10, 11, 12, 13, 14, 15, 16, 17, 18, 19, 20, 21, 22, 23, 24, 25, 0, 1, 2, 3, 4, 5] ([(a 62, .inr (1, [.ref (a 63), .int (ssr 1), .int (ssi 1)])), (a 63, .inl (τ.2.2.1 1, 40, .inr (.inl (sit 1)))), (a 64, .inr (1, [.ref (a 65), .int (ssr 2), .int (ssi 2)])), (a 65, .inl (τ.2.2.1 1, 40, .inr (.inl (sit 2)))), (a 66, .inr (1, [.ref (a 67), .int (ssr 3), .int (ssi 3)])), (a 67, .inl (τ.2.2.1 1, 40, .inr (.inl (sit 3))))]) rfl (by decide) rfl (by decide) (by decide) 5 0 rfl rfl (fun u => ((wX τ a rws isv rc) ++ (wT τ (fun j => a (10 + j)) nlw nkd nbt nph ncn nno nct nsc nrn nlg ndn nzz) ++ (wT τ (fun j => a (20 + j)) u.1 u.2.1 u.2.2.1 u.2.2.2.1 u.2.2.2.2.1 u.2.2.2.2.2.1 u.2.2.2.2.2.2.1 u.2.2.2.2.2.2.2.1 u.2.2.2.2.2.2.2.2.1 u.2.2.2.2.2.2.2.2.2.1 u.2.2.2.2.2.2.2.2.2.2.1 u.2.2.2.2.2.2.2.2.2.2.2) ++ (wSS τ a sit ssr ssi))) (fun _ => rfl) (by decide) (fun r19 u19 hX19 hn19 => ?_)
      obtain ⟨tlw_19, tkd_19, tbt_19, tph_19, tcn_19, tno_19, tct_19, tsc_19, trn_19, tlg_19, tdn_19, tzz_19⟩ := u19
      rw [hX19] at hR; rw [pr13_mk r19 tlw_19 tkd_19 tbt_19 tph_19 tcn_19 tno_19 tct_19 tsc_19 trn_19 tlg_19 tdn_19 tzz_19] at hR
      have J74 : ∀ (j74_0 : Int32), Φ (l_X5_fits_52 nlw nkd nbt nph ncn nno nct nsc nrn nlg ndn nzz sit ssi (0 : Int32) x2 N ((x4 * 2) + j74_0) (x5 + (-1)) tlw_19 tkd_19 tbt_19 tph_19 tcn_19 tno_19 tct_19 tsc_19 trn_19 tlg_19 tdn_19 tzz_19) → J τ κ 0 0 ((wX τ a rws isv rc) ++ (wT τ (fun j => a (10 + j)) nlw nkd nbt nph ncn nno nct nsc nrn nlg ndn nzz) ++ (wT τ (fun j => a (20 + j)) tlw_19 tkd_19 tbt_19 tph_19 tcn_19 tno_19 tct_19 tsc_19 trn_19 tlg_19 tdn_19 tzz_19) ++ (wSS τ a sit ssr ssi)) [(0, .ref (a 0)), (1, .int 0), (2, .int x2), (3, .int x3), (4, .int x4), (5, .int x5)] 82 [.int j74_0, .int (x4 * 2)] := by
        intro j74_0  hR
        refine j_iadd C dX5_fits_82 83 rfl ?_
        refine j_istore C dX5_fits_83 85 rfl (by decide) [(4, .int ((x4 * 2) + j74_0)), (0, .ref (a 0)), (1, .int 0), (2, .int x2), (3, .int x3), (5, .int x5)] rfl ?_
        refine j_iinc (v := (x5 + (-1))) C dX5_fits_85 88 rfl 5 rfl rfl (by decide) [(5, .int (x5 + (-1))), (4, .int ((x4 * 2) + j74_0)), (0, .ref (a 0)), (1, .int 0), (2, .int x2), (3, .int x3)] rfl ?_
        refine j_goto C dX5_fits_88 52 rfl ?_
        exact j_lv [2, 3, 4, 5, 1, 0] [(0, .ref (a 0)), (1, .int 0), (2, .int x2), (3, .int x3), (4, .int ((x4 * 2) + j74_0)), (5, .int (x5 + (-1)))] rfl (ih _ _ _ _ _ _ _ _ _ _ _ _ _ _ (by omega) (by omega) (by omega) hR)
      refine j_if_eq C dX5_fits_74 81 rfl 77 rfl (fun c20 => ?_) (fun c20 => ?_)
      · rw [if_pos c20] at hR
        refine j_iconst (v := 0) C dX5_fits_81 82 rfl (by decide) ?_
        rw [pr1_mk (0 : Int32)] at hR
        exact j_lv [0, 1, 2, 3, 4, 5] [(0, .ref (a 0)), (1, .int 0), (2, .int x2), (3, .int x3), (4, .int x4), (5, .int x5)] rfl (J74 _  hR)
      · rw [if_neg c20] at hR
        refine j_iconst (v := 1) C dX5_fits_77 78 rfl (by decide) ?_
        refine j_goto C dX5_fits_78 82 rfl ?_
        rw [pr1_mk (1 : Int32)] at hR
        exact j_lv [0, 1, 2, 3, 4, 5] [(0, .ref (a 0)), (1, .int 0), (2, .int x2), (3, .int x3), (4, .int x4), (5, .int x5)] rfl (J74 _  hR)
set_option maxHeartbeats 4000000 in
set_option maxRecDepth 100000 in
theorem L_X5_fits_52_x11 {τ : SX} {κ : KX} (C : Cx τ κ cX5_fits RX5 wsX5_fits rmX5_fits 6) (a : Nat → Nat) (rws : Nat → Int32) (isv : Int32) (rc : Int32) (nlw : Nat → Int32) (nkd : Nat → Int32) (nbt : Nat → Int32) (nph : Nat → Int32) (ncn : Nat → Int32) (nno : Nat → Int32) (nct : Int32) (nsc : Int32) (nrn : Int32) (nlg : Int32) (ndn : Int32) (nzz : Int32) (sit : Nat → Nat → Int64) (ssr : Nat → Int32) (ssi : Nat → Int32) (x2 : Int32) (x3 : Int32) (hrc0 : 0 ≤ rc.toInt) (hrc : rc.toInt ≤ 10) (hn0 : 0 ≤ nct.toInt) (hn : nct.toInt ≤ 8) (hsi : ∀ i, 0 ≤ (ssi i).toInt ∧ (ssi i).toInt ≤ 40) (hv : vp_in x2 8) (Φ : Int32 × Int32 × (Nat → Int32) × (Nat → Int32) × (Nat → Int32) × (Nat → Int32) × (Nat → Int32) × (Nat → Int32) × Int32 × Int32 × Int32 × Int32 × Int32 × Int32 → Prop) (hE : ∀ (x4 : Int32) (x5 : Int32) (tlw : Nat → Int32) (tkd : Nat → Int32) (tbt : Nat → Int32) (tph : Nat → Int32) (tcn : Nat → Int32) (tno : Nat → Int32) (tct : Int32) (tsc : Int32) (trn : Int32) (tlg : Int32) (tdn : Int32) (tzz : Int32), Φ (x4, x5, tlw, tkd, tbt, tph, tcn, tno, tct, tsc, trn, tlg, tdn, tzz) → J τ κ 0 0 ((wX τ a rws isv rc) ++ (wT τ (fun j => a (10 + j)) nlw nkd nbt nph ncn nno nct nsc nrn nlg ndn nzz) ++ (wT τ (fun j => a (20 + j)) tlw tkd tbt tph tcn tno tct tsc trn tlg tdn tzz) ++ (wSS τ a sit ssr ssi)) [(0, .ref (a 0)), (1, .int 1), (2, .int x2), (3, .int x3), (4, .int x4), (5, .int x5)] 91 []) : ∀ (N : Nat) (x4 : Int32) (x5 : Int32) (tlw : Nat → Int32) (tkd : Nat → Int32) (tbt : Nat → Int32) (tph : Nat → Int32) (tcn : Nat → Int32) (tno : Nat → Int32) (tct : Int32) (tsc : Int32) (trn : Int32) (tlg : Int32) (tdn : Int32) (tzz : Int32), (x5.toInt + 1).toNat < N → (-1 ≤ x5.toInt) → (x5.toInt ≤ 8) → Φ (l_X5_fits_52 nlw nkd nbt nph ncn nno nct nsc nrn nlg ndn nzz sit ssi (1 : Int32) x2 N x4 x5 tlw tkd tbt tph tcn tno tct tsc trn tlg tdn tzz) → J τ κ 0 0 ((wX τ a rws isv rc) ++ (wT τ (fun j => a (10 + j)) nlw nkd nbt nph ncn nno nct nsc nrn nlg ndn nzz) ++ (wT τ (fun j => a (20 + j)) tlw tkd tbt tph tcn tno tct tsc trn tlg tdn tzz) ++ (wSS τ a sit ssr ssi)) [(0, .ref (a 0)), (1, .int 1), (2, .int x2), (3, .int x3), (4, .int x4), (5, .int x5)] 52 [] := by
  have hiX4 : ∀ w ∈ wsX40, w ∈ wsX5_fits := fun w h => List.mem_cons_of_mem _ (List.mem_append_right _ h)
  have hiX1 : ∀ w ∈ wsX10, w ∈ wsX5_fits := fun w h => List.mem_cons_of_mem _ (List.mem_append_left _ (List.mem_append_right _ h))
  have hiX5 : ∀ w ∈ wsX50, w ∈ wsX5_fits := fun w h => List.mem_cons_of_mem _ (List.mem_append_left _ (List.mem_append_left _ (List.mem_append_right _ h)))
  intro N
  induction N with
  | zero => intro x4 x5 tlw tkd tbt tph tcn tno tct tsc trn tlg tdn tzz hm; exact absurd hm (Nat.not_lt_zero _)
  | succ N ih =>
    intro x4 x5 tlw tkd tbt tph tcn tno tct tsc trn tlg tdn tzz hm h0 h1 hR
    rw [l_X5_fits_52] at hR
    try rw [show (1 : Int32).toNatClampNeg = 1 from rfl] at hR
    refine j_iload C dX5_fits_52 54 rfl 5 rfl ?_
    refine j_if_lt C dX5_fits_54 91 rfl 57 rfl (fun c27 => ?_) (fun c27 => ?_)
    · rw [if_pos c27] at hR
      exact j_lv [0, 1, 2, 3, 4, 5] [(0, .ref (a 0)), (1, .int 1), (2, .int x2), (3, .int x3), (4, .int x4), (5, .int x5)] rfl (hE _ _ _ _ _ _ _ _ _ _ _ _ _ _  hR)
    · rw [if_neg c27] at hR
      have hs := dn_step0 c27
      refine j_iload C dX5_fits_57 59 rfl 4 rfl ?_
      refine j_iconst (v := 2) C dX5_fits_59 60 rfl (by decide) ?_
      refine j_imul C dX5_fits_60 61 rfl ?_
      refine j_aload_n C dX5_fits_61 62 rfl rfl 0 rfl ?_
      refine j_aload_n C dX5_fits_62 63 rfl rfl 0 rfl ?_
      refine j_get C dX5_fits_63 66 rfl hiX5 0 rfl rfl 7 (by decide) rfl kX5_fits_f35 rfl ?_
      refine j_iload_n C dX5_fits_66 67 rfl rfl 1 rfl ?_
      refine j_aald (t0 := 2) (b := (a 62)) (N := 4) C dX5_fits_67 68 rfl 2 rfl rfl (by unfold vp_in; decide) (by rfl) ?_
      refine j_iload_n C dX5_fits_68 69 rfl rfl 2 rfl ?_
      refine j_iload C dX5_fits_69 71 rfl 5 rfl ?_
      refine j_cvI (na := 3) C dX5_fits_71 74 rfl (c_X5_isTold τ a (fun j => a (62 + j)) rws isv rc nlw nkd nbt nph ncn nno nct nsc nrn nlg ndn nzz tlw tkd tbt tph tcn tno tct tsc trn tlg tdn tzz (sit 1) (ssr 1) (ssi 1) x2 x5 hrc0 hrc hn0 hn hv (hsi _).2) gX5_fits_X5_isTold rfl rfl rfl qd_X5_isTold rfl ⟨by decide, by decide⟩ ⟨by decide, by decide⟩ rfl (Nat.le_of_ble_eq_true rfl) [0, 1, 2, 3, 4, 5, 6, 7, 8, 9, 10, 11, 12, 13, 14, 15, 16, 17, 20, 21] [18, 19, 22, 23, 24, 25] [6, 7, 8, 9, 10, 11, 12, 13, 14, 15, 16, 17, 18, 19, 20, 21, 22, 23, 0, 1, 24, 25, 2, 3, 4, 5] ([(a 60, .inr (1, [.ref (a 61), .int (ssr 0), .int (ssi 0)])), (a 61, .inl (τ.2.2.1 1, 40, .inr (.inl (sit 0)))), (a 64, .inr (1, [.ref (a 65), .int (ssr 2), .int (ssi 2)])), (a 65, .inl (τ.2.2.1 1, 40, .inr (.inl (sit 2)))), (a 66, .inr (1, [.ref (a 67), .int (ssr 3), .int (ssi 3)])), (a 67, .inl (τ.2.2.1 1, 40, .inr (.inl (sit 3))))]) rfl (by decide) rfl (by decide) (by decide) 5 0 rfl rfl (fun u => ((wX τ a rws isv rc) ++ (wT τ (fun j => a (10 + j)) nlw nkd nbt nph ncn nno nct nsc nrn nlg ndn nzz) ++ (wT τ (fun j => a (20 + j)) u.1 u.2.1 u.2.2.1 u.2.2.2.1 u.2.2.2.2.1 u.2.2.2.2.2.1 u.2.2.2.2.2.2.1 u.2.2.2.2.2.2.2.1 u.2.2.2.2.2.2.2.2.1 u.2.2.2.2.2.2.2.2.2.1 u.2.2.2.2.2.2.2.2.2.2.1 u.2.2.2.2.2.2.2.2.2.2.2) ++ (wSS τ a sit ssr ssi))) (fun _ => rfl) (by decide) (fun r28 u28 hX28 hn28 => ?_)
      obtain ⟨tlw_28, tkd_28, tbt_28, tph_28, tcn_28, tno_28, tct_28, tsc_28, trn_28, tlg_28, tdn_28, tzz_28⟩ := u28
      rw [hX28] at hR; rw [pr13_mk r28 tlw_28 tkd_28 tbt_28 tph_28 tcn_28 tno_28 tct_28 tsc_28 trn_28 tlg_28 tdn_28 tzz_28] at hR
      have J74 : ∀ (j74_0 : Int32), Φ (l_X5_fits_52 nlw nkd nbt nph ncn nno nct nsc nrn nlg ndn nzz sit ssi (1 : Int32) x2 N ((x4 * 2) + j74_0) (x5 + (-1)) tlw_28 tkd_28 tbt_28 tph_28 tcn_28 tno_28 tct_28 tsc_28 trn_28 tlg_28 tdn_28 tzz_28) → J τ κ 0 0 ((wX τ a rws isv rc) ++ (wT τ (fun j => a (10 + j)) nlw nkd nbt nph ncn nno nct nsc nrn nlg ndn nzz) ++ (wT τ (fun j => a (20 + j)) tlw_28 tkd_28 tbt_28 tph_28 tcn_28 tno_28 tct_28 tsc_28 trn_28 tlg_28 tdn_28 tzz_28) ++ (wSS τ a sit ssr ssi)) [(0, .ref (a 0)), (1, .int 1), (2, .int x2), (3, .int x3), (4, .int x4), (5, .int x5)] 82 [.int j74_0, .int (x4 * 2)] := by
        intro j74_0  hR
        refine j_iadd C dX5_fits_82 83 rfl ?_
        refine j_istore C dX5_fits_83 85 rfl (by decide) [(4, .int ((x4 * 2) + j74_0)), (0, .ref (a 0)), (1, .int 1), (2, .int x2), (3, .int x3), (5, .int x5)] rfl ?_
        refine j_iinc (v := (x5 + (-1))) C dX5_fits_85 88 rfl 5 rfl rfl (by decide) [(5, .int (x5 + (-1))), (4, .int ((x4 * 2) + j74_0)), (0, .ref (a 0)), (1, .int 1), (2, .int x2), (3, .int x3)] rfl ?_
        refine j_goto C dX5_fits_88 52 rfl ?_
        exact j_lv [2, 3, 4, 5, 1, 0] [(0, .ref (a 0)), (1, .int 1), (2, .int x2), (3, .int x3), (4, .int ((x4 * 2) + j74_0)), (5, .int (x5 + (-1)))] rfl (ih _ _ _ _ _ _ _ _ _ _ _ _ _ _ (by omega) (by omega) (by omega) hR)
      refine j_if_eq C dX5_fits_74 81 rfl 77 rfl (fun c29 => ?_) (fun c29 => ?_)
      · rw [if_pos c29] at hR
        refine j_iconst (v := 0) C dX5_fits_81 82 rfl (by decide) ?_
        rw [pr1_mk (0 : Int32)] at hR
        exact j_lv [0, 1, 2, 3, 4, 5] [(0, .ref (a 0)), (1, .int 1), (2, .int x2), (3, .int x3), (4, .int x4), (5, .int x5)] rfl (J74 _  hR)
      · rw [if_neg c29] at hR
        refine j_iconst (v := 1) C dX5_fits_77 78 rfl (by decide) ?_
        refine j_goto C dX5_fits_78 82 rfl ?_
        rw [pr1_mk (1 : Int32)] at hR
        exact j_lv [0, 1, 2, 3, 4, 5] [(0, .ref (a 0)), (1, .int 1), (2, .int x2), (3, .int x3), (4, .int x4), (5, .int x5)] rfl (J74 _  hR)
set_option maxHeartbeats 4000000 in
set_option maxRecDepth 100000 in
theorem L_X5_fits_52_x12 {τ : SX} {κ : KX} (C : Cx τ κ cX5_fits RX5 wsX5_fits rmX5_fits 6) (a : Nat → Nat) (rws : Nat → Int32) (isv : Int32) (rc : Int32) (nlw : Nat → Int32) (nkd : Nat → Int32) (nbt : Nat → Int32) (nph : Nat → Int32) (ncn : Nat → Int32) (nno : Nat → Int32) (nct : Int32) (nsc : Int32) (nrn : Int32) (nlg : Int32) (ndn : Int32) (nzz : Int32) (sit : Nat → Nat → Int64) (ssr : Nat → Int32) (ssi : Nat → Int32) (x2 : Int32) (x3 : Int32) (hrc0 : 0 ≤ rc.toInt) (hrc : rc.toInt ≤ 10) (hn0 : 0 ≤ nct.toInt) (hn : nct.toInt ≤ 8) (hsi : ∀ i, 0 ≤ (ssi i).toInt ∧ (ssi i).toInt ≤ 40) (hv : vp_in x2 8) (Φ : Int32 × Int32 × (Nat → Int32) × (Nat → Int32) × (Nat → Int32) × (Nat → Int32) × (Nat → Int32) × (Nat → Int32) × Int32 × Int32 × Int32 × Int32 × Int32 × Int32 → Prop) (hE : ∀ (x4 : Int32) (x5 : Int32) (tlw : Nat → Int32) (tkd : Nat → Int32) (tbt : Nat → Int32) (tph : Nat → Int32) (tcn : Nat → Int32) (tno : Nat → Int32) (tct : Int32) (tsc : Int32) (trn : Int32) (tlg : Int32) (tdn : Int32) (tzz : Int32), Φ (x4, x5, tlw, tkd, tbt, tph, tcn, tno, tct, tsc, trn, tlg, tdn, tzz) → J τ κ 0 0 ((wX τ a rws isv rc) ++ (wT τ (fun j => a (10 + j)) nlw nkd nbt nph ncn nno nct nsc nrn nlg ndn nzz) ++ (wT τ (fun j => a (20 + j)) tlw tkd tbt tph tcn tno tct tsc trn tlg tdn tzz) ++ (wSS τ a sit ssr ssi)) [(0, .ref (a 0)), (1, .int 2), (2, .int x2), (3, .int x3), (4, .int x4), (5, .int x5)] 91 []) : ∀ (N : Nat) (x4 : Int32) (x5 : Int32) (tlw : Nat → Int32) (tkd : Nat → Int32) (tbt : Nat → Int32) (tph : Nat → Int32) (tcn : Nat → Int32) (tno : Nat → Int32) (tct : Int32) (tsc : Int32) (trn : Int32) (tlg : Int32) (tdn : Int32) (tzz : Int32), (x5.toInt + 1).toNat < N → (-1 ≤ x5.toInt) → (x5.toInt ≤ 8) → Φ (l_X5_fits_52 nlw nkd nbt nph ncn nno nct nsc nrn nlg ndn nzz sit ssi (2 : Int32) x2 N x4 x5 tlw tkd tbt tph tcn tno tct tsc trn tlg tdn tzz) → J τ κ 0 0 ((wX τ a rws isv rc) ++ (wT τ (fun j => a (10 + j)) nlw nkd nbt nph ncn nno nct nsc nrn nlg ndn nzz) ++ (wT τ (fun j => a (20 + j)) tlw tkd tbt tph tcn tno tct tsc trn tlg tdn tzz) ++ (wSS τ a sit ssr ssi)) [(0, .ref (a 0)), (1, .int 2), (2, .int x2), (3, .int x3), (4, .int x4), (5, .int x5)] 52 [] := by
  have hiX4 : ∀ w ∈ wsX40, w ∈ wsX5_fits := fun w h => List.mem_cons_of_mem _ (List.mem_append_right _ h)
  have hiX1 : ∀ w ∈ wsX10, w ∈ wsX5_fits := fun w h => List.mem_cons_of_mem _ (List.mem_append_left _ (List.mem_append_right _ h))
  have hiX5 : ∀ w ∈ wsX50, w ∈ wsX5_fits := fun w h => List.mem_cons_of_mem _ (List.mem_append_left _ (List.mem_append_left _ (List.mem_append_right _ h)))
  intro N
  induction N with
  | zero => intro x4 x5 tlw tkd tbt tph tcn tno tct tsc trn tlg tdn tzz hm; exact absurd hm (Nat.not_lt_zero _)
  | succ N ih =>
    intro x4 x5 tlw tkd tbt tph tcn tno tct tsc trn tlg tdn tzz hm h0 h1 hR
    rw [l_X5_fits_52] at hR
    try rw [show (2 : Int32).toNatClampNeg = 2 from rfl] at hR
    refine j_iload C dX5_fits_52 54 rfl 5 rfl ?_
    refine j_if_lt C dX5_fits_54 91 rfl 57 rfl (fun c36 => ?_) (fun c36 => ?_)
    · rw [if_pos c36] at hR
      exact j_lv [0, 1, 2, 3, 4, 5] [(0, .ref (a 0)), (1, .int 2), (2, .int x2), (3, .int x3), (4, .int x4), (5, .int x5)] rfl (hE _ _ _ _ _ _ _ _ _ _ _ _ _ _  hR)
    · rw [if_neg c36] at hR
      have hs := dn_step0 c36
      refine j_iload C dX5_fits_57 59 rfl 4 rfl ?_
      refine j_iconst (v := 2) C dX5_fits_59 60 rfl (by decide) ?_
      refine j_imul C dX5_fits_60 61 rfl ?_
      refine j_aload_n C dX5_fits_61 62 rfl rfl 0 rfl ?_
      refine j_aload_n C dX5_fits_62 63 rfl rfl 0 rfl ?_
      refine j_get C dX5_fits_63 66 rfl hiX5 0 rfl rfl 7 (by decide) rfl kX5_fits_f35 rfl ?_
      refine j_iload_n C dX5_fits_66 67 rfl rfl 1 rfl ?_
      refine j_aald (t0 := 2) (b := (a 64)) (N := 4) C dX5_fits_67 68 rfl 2 rfl rfl (by unfold vp_in; decide) (by rfl) ?_
      refine j_iload_n C dX5_fits_68 69 rfl rfl 2 rfl ?_
      refine j_iload C dX5_fits_69 71 rfl 5 rfl ?_
      refine j_cvI (na := 3) C dX5_fits_71 74 rfl (c_X5_isTold τ a (fun j => a (64 + j)) rws isv rc nlw nkd nbt nph ncn nno nct nsc nrn nlg ndn nzz tlw tkd tbt tph tcn tno tct tsc trn tlg tdn tzz (sit 2) (ssr 2) (ssi 2) x2 x5 hrc0 hrc hn0 hn hv (hsi _).2) gX5_fits_X5_isTold rfl rfl rfl qd_X5_isTold rfl ⟨by decide, by decide⟩ ⟨by decide, by decide⟩ rfl (Nat.le_of_ble_eq_true rfl) [0, 1, 2, 3, 4, 5, 6, 7, 8, 9, 10, 11, 12, 13, 14, 15, 16, 17, 22, 23] [18, 19, 20, 21, 24, 25] [6, 7, 8, 9, 10, 11, 12, 13, 14, 15, 16, 17, 18, 19, 20, 21, 22, 23, 0, 1, 2, 3, 24, 25, 4, 5] ([(a 60, .inr (1, [.ref (a 61), .int (ssr 0), .int (ssi 0)])), (a 61, .inl (τ.2.2.1 1, 40, .inr (.inl (sit 0)))), (a 62, .inr (1, [.ref (a 63), .int (ssr 1), .int (ssi 1)])), (a 63, .inl (τ.2.2.1 1, 40, .inr (.inl (sit 1)))), (a 66, .inr (1, [.ref (a 67), .int (ssr 3), .int (ssi 3)])), (a 67, .inl (τ.2.2.1 1, 40, .inr (.inl (sit 3))))]) rfl (by decide) rfl (by decide) (by decide) 5 0 rfl rfl (fun u => ((wX τ a rws isv rc) ++ (wT τ (fun j => a (10 + j)) nlw nkd nbt nph ncn nno nct nsc nrn nlg ndn nzz) ++ (wT τ (fun j => a (20 + j)) u.1 u.2.1 u.2.2.1 u.2.2.2.1 u.2.2.2.2.1 u.2.2.2.2.2.1 u.2.2.2.2.2.2.1 u.2.2.2.2.2.2.2.1 u.2.2.2.2.2.2.2.2.1 u.2.2.2.2.2.2.2.2.2.1 u.2.2.2.2.2.2.2.2.2.2.1 u.2.2.2.2.2.2.2.2.2.2.2) ++ (wSS τ a sit ssr ssi))) (fun _ => rfl) (by decide) (fun r37 u37 hX37 hn37 => ?_)
      obtain ⟨tlw_37, tkd_37, tbt_37, tph_37, tcn_37, tno_37, tct_37, tsc_37, trn_37, tlg_37, tdn_37, tzz_37⟩ := u37
      rw [hX37] at hR; rw [pr13_mk r37 tlw_37 tkd_37 tbt_37 tph_37 tcn_37 tno_37 tct_37 tsc_37 trn_37 tlg_37 tdn_37 tzz_37] at hR
      have J74 : ∀ (j74_0 : Int32), Φ (l_X5_fits_52 nlw nkd nbt nph ncn nno nct nsc nrn nlg ndn nzz sit ssi (2 : Int32) x2 N ((x4 * 2) + j74_0) (x5 + (-1)) tlw_37 tkd_37 tbt_37 tph_37 tcn_37 tno_37 tct_37 tsc_37 trn_37 tlg_37 tdn_37 tzz_37) → J τ κ 0 0 ((wX τ a rws isv rc) ++ (wT τ (fun j => a (10 + j)) nlw nkd nbt nph ncn nno nct nsc nrn nlg ndn nzz) ++ (wT τ (fun j => a (20 + j)) tlw_37 tkd_37 tbt_37 tph_37 tcn_37 tno_37 tct_37 tsc_37 trn_37 tlg_37 tdn_37 tzz_37) ++ (wSS τ a sit ssr ssi)) [(0, .ref (a 0)), (1, .int 2), (2, .int x2), (3, .int x3), (4, .int x4), (5, .int x5)] 82 [.int j74_0, .int (x4 * 2)] := by
        intro j74_0  hR
        refine j_iadd C dX5_fits_82 83 rfl ?_
        refine j_istore C dX5_fits_83 85 rfl (by decide) [(4, .int ((x4 * 2) + j74_0)), (0, .ref (a 0)), (1, .int 2), (2, .int x2), (3, .int x3), (5, .int x5)] rfl ?_
        refine j_iinc (v := (x5 + (-1))) C dX5_fits_85 88 rfl 5 rfl rfl (by decide) [(5, .int (x5 + (-1))), (4, .int ((x4 * 2) + j74_0)), (0, .ref (a 0)), (1, .int 2), (2, .int x2), (3, .int x3)] rfl ?_
        refine j_goto C dX5_fits_88 52 rfl ?_
        exact j_lv [2, 3, 4, 5, 1, 0] [(0, .ref (a 0)), (1, .int 2), (2, .int x2), (3, .int x3), (4, .int ((x4 * 2) + j74_0)), (5, .int (x5 + (-1)))] rfl (ih _ _ _ _ _ _ _ _ _ _ _ _ _ _ (by omega) (by omega) (by omega) hR)
      refine j_if_eq C dX5_fits_74 81 rfl 77 rfl (fun c38 => ?_) (fun c38 => ?_)
      · rw [if_pos c38] at hR
        refine j_iconst (v := 0) C dX5_fits_81 82 rfl (by decide) ?_
        rw [pr1_mk (0 : Int32)] at hR
        exact j_lv [0, 1, 2, 3, 4, 5] [(0, .ref (a 0)), (1, .int 2), (2, .int x2), (3, .int x3), (4, .int x4), (5, .int x5)] rfl (J74 _  hR)
      · rw [if_neg c38] at hR
        refine j_iconst (v := 1) C dX5_fits_77 78 rfl (by decide) ?_
        refine j_goto C dX5_fits_78 82 rfl ?_
        rw [pr1_mk (1 : Int32)] at hR
        exact j_lv [0, 1, 2, 3, 4, 5] [(0, .ref (a 0)), (1, .int 2), (2, .int x2), (3, .int x3), (4, .int x4), (5, .int x5)] rfl (J74 _  hR)
set_option maxHeartbeats 4000000 in
set_option maxRecDepth 100000 in
theorem L_X5_fits_52_x13 {τ : SX} {κ : KX} (C : Cx τ κ cX5_fits RX5 wsX5_fits rmX5_fits 6) (a : Nat → Nat) (rws : Nat → Int32) (isv : Int32) (rc : Int32) (nlw : Nat → Int32) (nkd : Nat → Int32) (nbt : Nat → Int32) (nph : Nat → Int32) (ncn : Nat → Int32) (nno : Nat → Int32) (nct : Int32) (nsc : Int32) (nrn : Int32) (nlg : Int32) (ndn : Int32) (nzz : Int32) (sit : Nat → Nat → Int64) (ssr : Nat → Int32) (ssi : Nat → Int32) (x2 : Int32) (x3 : Int32) (hrc0 : 0 ≤ rc.toInt) (hrc : rc.toInt ≤ 10) (hn0 : 0 ≤ nct.toInt) (hn : nct.toInt ≤ 8) (hsi : ∀ i, 0 ≤ (ssi i).toInt ∧ (ssi i).toInt ≤ 40) (hv : vp_in x2 8) (Φ : Int32 × Int32 × (Nat → Int32) × (Nat → Int32) × (Nat → Int32) × (Nat → Int32) × (Nat → Int32) × (Nat → Int32) × Int32 × Int32 × Int32 × Int32 × Int32 × Int32 → Prop) (hE : ∀ (x4 : Int32) (x5 : Int32) (tlw : Nat → Int32) (tkd : Nat → Int32) (tbt : Nat → Int32) (tph : Nat → Int32) (tcn : Nat → Int32) (tno : Nat → Int32) (tct : Int32) (tsc : Int32) (trn : Int32) (tlg : Int32) (tdn : Int32) (tzz : Int32), Φ (x4, x5, tlw, tkd, tbt, tph, tcn, tno, tct, tsc, trn, tlg, tdn, tzz) → J τ κ 0 0 ((wX τ a rws isv rc) ++ (wT τ (fun j => a (10 + j)) nlw nkd nbt nph ncn nno nct nsc nrn nlg ndn nzz) ++ (wT τ (fun j => a (20 + j)) tlw tkd tbt tph tcn tno tct tsc trn tlg tdn tzz) ++ (wSS τ a sit ssr ssi)) [(0, .ref (a 0)), (1, .int 3), (2, .int x2), (3, .int x3), (4, .int x4), (5, .int x5)] 91 []) : ∀ (N : Nat) (x4 : Int32) (x5 : Int32) (tlw : Nat → Int32) (tkd : Nat → Int32) (tbt : Nat → Int32) (tph : Nat → Int32) (tcn : Nat → Int32) (tno : Nat → Int32) (tct : Int32) (tsc : Int32) (trn : Int32) (tlg : Int32) (tdn : Int32) (tzz : Int32), (x5.toInt + 1).toNat < N → (-1 ≤ x5.toInt) → (x5.toInt ≤ 8) → Φ (l_X5_fits_52 nlw nkd nbt nph ncn nno nct nsc nrn nlg ndn nzz sit ssi (3 : Int32) x2 N x4 x5 tlw tkd tbt tph tcn tno tct tsc trn tlg tdn tzz) → J τ κ 0 0 ((wX τ a rws isv rc) ++ (wT τ (fun j => a (10 + j)) nlw nkd nbt nph ncn nno nct nsc nrn nlg ndn nzz) ++ (wT τ (fun j => a (20 + j)) tlw tkd tbt tph tcn tno tct tsc trn tlg tdn tzz) ++ (wSS τ a sit ssr ssi)) [(0, .ref (a 0)), (1, .int 3), (2, .int x2), (3, .int x3), (4, .int x4), (5, .int x5)] 52 [] := by
  have hiX4 : ∀ w ∈ wsX40, w ∈ wsX5_fits := fun w h => List.mem_cons_of_mem _ (List.mem_append_right _ h)
  have hiX1 : ∀ w ∈ wsX10, w ∈ wsX5_fits := fun w h => List.mem_cons_of_mem _ (List.mem_append_left _ (List.mem_append_right _ h))
  have hiX5 : ∀ w ∈ wsX50, w ∈ wsX5_fits := fun w h => List.mem_cons_of_mem _ (List.mem_append_left _ (List.mem_append_left _ (List.mem_append_right _ h)))
  intro N
  induction N with
  | zero => intro x4 x5 tlw tkd tbt tph tcn tno tct tsc trn tlg tdn tzz hm; exact absurd hm (Nat.not_lt_zero _)
  | succ N ih =>
    intro x4 x5 tlw tkd tbt tph tcn tno tct tsc trn tlg tdn tzz hm h0 h1 hR
    rw [l_X5_fits_52] at hR
    try rw [show (3 : Int32).toNatClampNeg = 3 from rfl] at hR
    refine j_iload C dX5_fits_52 54 rfl 5 rfl ?_
    refine j_if_lt C dX5_fits_54 91 rfl 57 rfl (fun c45 => ?_) (fun c45 => ?_)
    · rw [if_pos c45] at hR
      exact j_lv [0, 1, 2, 3, 4, 5] [(0, .ref (a 0)), (1, .int 3), (2, .int x2), (3, .int x3), (4, .int x4), (5, .int x5)] rfl (hE _ _ _ _ _ _ _ _ _ _ _ _ _ _  hR)
    · rw [if_neg c45] at hR
      have hs := dn_step0 c45
      refine j_iload C dX5_fits_57 59 rfl 4 rfl ?_
      refine j_iconst (v := 2) C dX5_fits_59 60 rfl (by decide) ?_
      refine j_imul C dX5_fits_60 61 rfl ?_
      refine j_aload_n C dX5_fits_61 62 rfl rfl 0 rfl ?_
      refine j_aload_n C dX5_fits_62 63 rfl rfl 0 rfl ?_
      refine j_get C dX5_fits_63 66 rfl hiX5 0 rfl rfl 7 (by decide) rfl kX5_fits_f35 rfl ?_
      refine j_iload_n C dX5_fits_66 67 rfl rfl 1 rfl ?_
      refine j_aald (t0 := 2) (b := (a 66)) (N := 4) C dX5_fits_67 68 rfl 2 rfl rfl (by unfold vp_in; decide) (by rfl) ?_
      refine j_iload_n C dX5_fits_68 69 rfl rfl 2 rfl ?_
      refine j_iload C dX5_fits_69 71 rfl 5 rfl ?_
      refine j_cvI (na := 3) C dX5_fits_71 74 rfl (c_X5_isTold τ a (fun j => a (66 + j)) rws isv rc nlw nkd nbt nph ncn nno nct nsc nrn nlg ndn nzz tlw tkd tbt tph tcn tno tct tsc trn tlg tdn tzz (sit 3) (ssr 3) (ssi 3) x2 x5 hrc0 hrc hn0 hn hv (hsi _).2) gX5_fits_X5_isTold rfl rfl rfl qd_X5_isTold rfl ⟨by decide, by decide⟩ ⟨by decide, by decide⟩ rfl (Nat.le_of_ble_eq_true rfl) [0, 1, 2, 3, 4, 5, 6, 7, 8, 9, 10, 11, 12, 13, 14, 15, 16, 17, 24, 25] [18, 19, 20, 21, 22, 23] [6, 7, 8, 9, 10, 11, 12, 13, 14, 15, 16, 17, 18, 19, 20, 21, 22, 23, 0, 1, 2, 3, 4, 5, 24, 25] ([(a 60, .inr (1, [.ref (a 61), .int (ssr 0), .int (ssi 0)])), (a 61, .inl (τ.2.2.1 1, 40, .inr (.inl (sit 0)))), (a 62, .inr (1, [.ref (a 63), .int (ssr 1), .int (ssi 1)])), (a 63, .inl (τ.2.2.1 1, 40, .inr (.inl (sit 1)))), (a 64, .inr (1, [.ref (a 65), .int (ssr 2), .int (ssi 2)])), (a 65, .inl (τ.2.2.1 1, 40, .inr (.inl (sit 2))))]) rfl (by decide) rfl (by decide) (by decide) 5 0 rfl rfl (fun u => ((wX τ a rws isv rc) ++ (wT τ (fun j => a (10 + j)) nlw nkd nbt nph ncn nno nct nsc nrn nlg ndn nzz) ++ (wT τ (fun j => a (20 + j)) u.1 u.2.1 u.2.2.1 u.2.2.2.1 u.2.2.2.2.1 u.2.2.2.2.2.1 u.2.2.2.2.2.2.1 u.2.2.2.2.2.2.2.1 u.2.2.2.2.2.2.2.2.1 u.2.2.2.2.2.2.2.2.2.1 u.2.2.2.2.2.2.2.2.2.2.1 u.2.2.2.2.2.2.2.2.2.2.2) ++ (wSS τ a sit ssr ssi))) (fun _ => rfl) (by decide) (fun r46 u46 hX46 hn46 => ?_)
      obtain ⟨tlw_46, tkd_46, tbt_46, tph_46, tcn_46, tno_46, tct_46, tsc_46, trn_46, tlg_46, tdn_46, tzz_46⟩ := u46
      rw [hX46] at hR; rw [pr13_mk r46 tlw_46 tkd_46 tbt_46 tph_46 tcn_46 tno_46 tct_46 tsc_46 trn_46 tlg_46 tdn_46 tzz_46] at hR
      have J74 : ∀ (j74_0 : Int32), Φ (l_X5_fits_52 nlw nkd nbt nph ncn nno nct nsc nrn nlg ndn nzz sit ssi (3 : Int32) x2 N ((x4 * 2) + j74_0) (x5 + (-1)) tlw_46 tkd_46 tbt_46 tph_46 tcn_46 tno_46 tct_46 tsc_46 trn_46 tlg_46 tdn_46 tzz_46) → J τ κ 0 0 ((wX τ a rws isv rc) ++ (wT τ (fun j => a (10 + j)) nlw nkd nbt nph ncn nno nct nsc nrn nlg ndn nzz) ++ (wT τ (fun j => a (20 + j)) tlw_46 tkd_46 tbt_46 tph_46 tcn_46 tno_46 tct_46 tsc_46 trn_46 tlg_46 tdn_46 tzz_46) ++ (wSS τ a sit ssr ssi)) [(0, .ref (a 0)), (1, .int 3), (2, .int x2), (3, .int x3), (4, .int x4), (5, .int x5)] 82 [.int j74_0, .int (x4 * 2)] := by
        intro j74_0  hR
        refine j_iadd C dX5_fits_82 83 rfl ?_
        refine j_istore C dX5_fits_83 85 rfl (by decide) [(4, .int ((x4 * 2) + j74_0)), (0, .ref (a 0)), (1, .int 3), (2, .int x2), (3, .int x3), (5, .int x5)] rfl ?_
        refine j_iinc (v := (x5 + (-1))) C dX5_fits_85 88 rfl 5 rfl rfl (by decide) [(5, .int (x5 + (-1))), (4, .int ((x4 * 2) + j74_0)), (0, .ref (a 0)), (1, .int 3), (2, .int x2), (3, .int x3)] rfl ?_
        refine j_goto C dX5_fits_88 52 rfl ?_
        exact j_lv [2, 3, 4, 5, 1, 0] [(0, .ref (a 0)), (1, .int 3), (2, .int x2), (3, .int x3), (4, .int ((x4 * 2) + j74_0)), (5, .int (x5 + (-1)))] rfl (ih _ _ _ _ _ _ _ _ _ _ _ _ _ _ (by omega) (by omega) (by omega) hR)
      refine j_if_eq C dX5_fits_74 81 rfl 77 rfl (fun c47 => ?_) (fun c47 => ?_)
      · rw [if_pos c47] at hR
        refine j_iconst (v := 0) C dX5_fits_81 82 rfl (by decide) ?_
        rw [pr1_mk (0 : Int32)] at hR
        exact j_lv [0, 1, 2, 3, 4, 5] [(0, .ref (a 0)), (1, .int 3), (2, .int x2), (3, .int x3), (4, .int x4), (5, .int x5)] rfl (J74 _  hR)
      · rw [if_neg c47] at hR
        refine j_iconst (v := 1) C dX5_fits_77 78 rfl (by decide) ?_
        refine j_goto C dX5_fits_78 82 rfl ?_
        rw [pr1_mk (1 : Int32)] at hR
        exact j_lv [0, 1, 2, 3, 4, 5] [(0, .ref (a 0)), (1, .int 3), (2, .int x2), (3, .int x3), (4, .int x4), (5, .int x5)] rfl (J74 _  hR)
set_option maxHeartbeats 4000000 in
set_option maxRecDepth 100000 in
theorem c_X5_fits (τ : SX) (a : Nat → Nat) (rws : Nat → Int32) (isv : Int32) (rc : Int32) (nlw : Nat → Int32) (nkd : Nat → Int32) (nbt : Nat → Int32) (nph : Nat → Int32) (ncn : Nat → Int32) (nno : Nat → Int32) (nct : Int32) (nsc : Int32) (nrn : Int32) (nlg : Int32) (ndn : Int32) (nzz : Int32) (tlw : Nat → Int32) (tkd : Nat → Int32) (tbt : Nat → Int32) (tph : Nat → Int32) (tcn : Nat → Int32) (tno : Nat → Int32) (tct : Int32) (tsc : Int32) (trn : Int32) (tlg : Int32) (tdn : Int32) (tzz : Int32) (sit : Nat → Nat → Int64) (ssr : Nat → Int32) (ssi : Nat → Int32) (x1 : Int32) (x2 : Int32) (x3 : Int32) (hrc0 : 0 ≤ rc.toInt) (hrc : rc.toInt ≤ 10) (hn0 : 0 ≤ nct.toInt) (hn : nct.toInt ≤ 8) (hsi : ∀ i, 0 ≤ (ssi i).toInt ∧ (ssi i).toInt ≤ 40) (sz : Nat) : McI τ yX5_fits wsX5_fits rmX5_fits .int [.ref (a 0), .int x1, .int x2, .int x3] ((wX τ a rws isv rc) ++ (wT τ (fun j => a (10 + j)) nlw nkd nbt nph ncn nno nct nsc nrn nlg ndn nzz) ++ (wT τ (fun j => a (20 + j)) tlw tkd tbt tph tcn tno tct tsc trn tlg tdn tzz) ++ (wSS τ a sit ssr ssi)) (fun u : (Nat → Int32) × (Nat → Int32) × (Nat → Int32) × (Nat → Int32) × (Nat → Int32) × (Nat → Int32) × Int32 × Int32 × Int32 × Int32 × Int32 × Int32 => ((wX τ a rws isv rc) ++ (wT τ (fun j => a (10 + j)) nlw nkd nbt nph ncn nno nct nsc nrn nlg ndn nzz) ++ (wT τ (fun j => a (20 + j)) u.1 u.2.1 u.2.2.1 u.2.2.2.1 u.2.2.2.2.1 u.2.2.2.2.2.1 u.2.2.2.2.2.2.1 u.2.2.2.2.2.2.2.1 u.2.2.2.2.2.2.2.2.1 u.2.2.2.2.2.2.2.2.2.1 u.2.2.2.2.2.2.2.2.2.2.1 u.2.2.2.2.2.2.2.2.2.2.2) ++ (wSS τ a sit ssr ssi))) (f_X5_fits nlw nkd nbt nph ncn nno nct nsc nrn nlg ndn nzz tlw tkd tbt tph tcn tno tct tsc trn tlg tdn tzz sit ssr ssi x1 x2 x3) sz := by
  refine mc_I (cc := cX5_fits) (own := RX5) [(0, .ref (a 0)), (1, .int x1), (2, .int x2), (3, .int x3)] rfl (by decide) rfl rfl (Nat.le_of_ble_eq_true rfl) (fun κ C hR => ?_)
  have hiX4 : ∀ w ∈ wsX40, w ∈ wsX5_fits := fun w h => List.mem_cons_of_mem _ (List.mem_append_right _ h)
  have hiX1 : ∀ w ∈ wsX10, w ∈ wsX5_fits := fun w h => List.mem_cons_of_mem _ (List.mem_append_left _ (List.mem_append_right _ h))
  have hiX5 : ∀ w ∈ wsX50, w ∈ wsX5_fits := fun w h => List.mem_cons_of_mem _ (List.mem_append_left _ (List.mem_append_left _ (List.mem_append_right _ h)))
  unfold f_X5_fits at hR
  refine j_iload_n C dX5_fits_0 1 rfl rfl 1 rfl ?_
  refine j_cs0I (na := 1) C dX5_fits_1 4 rfl (c_X5_isSheet τ  x1 ) rfl ggX5_fits_X5_isSheet rfl rfl rfl kX5_fits_iRX5 kX5_fits_m193 kX5_fits_sX5_isSheet qd_X5_isSheet rfl ⟨by decide, by decide⟩ ⟨by decide, by decide⟩ rfl (Nat.le_of_ble_eq_true rfl) (fun r1 u1 hX1 hn1 => ?_)
  obtain rfl := (Prod.mk.inj hX1).1
  refine j_if_eq C dX5_fits_4 27 rfl 7 rfl (fun c2 => ?_) (fun c2 => ?_)
  · rw [if_pos c2] at hR
    refine j_iconst (v := (-1)) C dX5_fits_27 28 rfl (by decide) ?_
    exact Rt.ret (hR) rfl dX5_fits_28
  · rw [if_neg c2] at hR
    refine j_aload_n C dX5_fits_7 8 rfl rfl 0 rfl ?_
    refine j_get C dX5_fits_8 11 rfl hiX5 0 rfl rfl 0 (by decide) rfl kX5_fits_f10 rfl ?_
    refine j_iload_n C dX5_fits_11 12 rfl rfl 2 rfl ?_
    refine j_cvI (na := 1) C dX5_fits_12 15 rfl (c_X4_has τ (fun j => a (10 + j)) nlw nkd nbt nph ncn nno nct nsc nrn nlg ndn nzz x2 ) gX5_fits_X4_has rfl rfl rfl qd_X4_has rfl ⟨by decide, by decide⟩ ⟨by decide, by decide⟩ rfl (Nat.le_of_ble_eq_true rfl) [4, 5, 6, 7, 8, 9, 10] [0, 1, 2, 3, 11, 12, 13, 14, 15, 16, 17, 18, 19, 20, 21, 22, 23, 24, 25] [0, 1, 2, 3, 19, 20, 21, 22, 23, 24, 25, 4, 5, 6, 7, 8, 9, 10, 11, 12, 13, 14, 15, 16, 17, 18] ((wX τ a rws isv rc) ++ (wT τ (fun j => a (20 + j)) tlw tkd tbt tph tcn tno tct tsc trn tlg tdn tzz) ++ (wSS τ a sit ssr ssi)) rfl (by decide) rfl (by decide) (by decide) 4 0 rfl rfl (fun u => ((wX τ a rws isv rc) ++ (wT τ (fun j => a (10 + j)) nlw nkd nbt nph ncn nno nct nsc nrn nlg ndn nzz) ++ (wT τ (fun j => a (20 + j)) tlw tkd tbt tph tcn tno tct tsc trn tlg tdn tzz) ++ (wSS τ a sit ssr ssi))) (fun _ => rfl) (by decide) (fun r3 u3 hX3 hn3 => ?_)
    obtain rfl := (Prod.mk.inj hX3).1
    refine j_if_eq C dX5_fits_15 27 rfl 18 rfl (fun c4 => ?_) (fun c4 => ?_)
    · rw [if_pos c4] at hR
      refine j_iconst (v := (-1)) C dX5_fits_27 28 rfl (by decide) ?_
      exact Rt.ret (hR) rfl dX5_fits_28
    · rw [if_neg c4] at hR
      refine j_iload_n C dX5_fits_18 19 rfl rfl 3 rfl ?_
      refine j_iconst (v := 0) C dX5_fits_19 20 rfl (by decide) ?_
      refine j_iconst (v := 1) C dX5_fits_20 21 rfl (by decide) ?_
      refine j_cs0I (na := 3) C dX5_fits_21 24 rfl (c_X5_isIn τ  x3 (0 : Int32) (1 : Int32) ) rfl ggX5_fits_X5_isIn rfl rfl rfl kX5_fits_iRX5 kX5_fits_m79 kX5_fits_sX5_isIn qd_X5_isIn rfl ⟨by decide, by decide⟩ ⟨by decide, by decide⟩ rfl (Nat.le_of_ble_eq_true rfl) (fun r5 u5 hX5 hn5 => ?_)
      obtain rfl := (Prod.mk.inj hX5).1
      refine j_if_ne C dX5_fits_24 29 rfl 27 rfl (fun c6 => ?_) (fun c6 => ?_)
      · rw [if_neg c6] at hR
        refine j_aload_n C dX5_fits_29 30 rfl rfl 0 rfl ?_
        refine j_get C dX5_fits_30 33 rfl hiX5 0 rfl rfl 7 (by decide) rfl kX5_fits_f35 rfl ?_
        refine j_iload_n C dX5_fits_33 34 rfl rfl 1 rfl ?_
        rcases four_of (n := x1) (in_sheet c2) with rfl | rfl | rfl | rfl
        · try rw [show (0 : Int32).toNatClampNeg = 0 from rfl] at hR
          refine j_aald (t0 := 2) (b := (a 60)) (N := 4) C dX5_fits_34 35 rfl 2 rfl rfl (by unfold vp_in; decide) (by rfl) ?_
          refine j_get C dX5_fits_35 38 rfl hiX1 18 rfl rfl 1 (by decide) rfl kX5_fits_f196 rfl ?_
          refine j_iconst (v := (-1)) C dX5_fits_38 39 rfl (by decide) ?_
          refine j_icmp_ne C dX5_fits_39 45 rfl 42 rfl (fun c16 => ?_) (fun c16 => ?_)
          · rw [if_neg c16] at hR
            refine j_iconst (v := 0) C dX5_fits_45 46 rfl (by decide) ?_
            refine j_istore C dX5_fits_46 48 rfl (by decide) [(4, .int 0), (0, .ref (a 0)), (1, .int 0), (2, .int x2), (3, .int x3)] rfl ?_
            refine j_bipush (v := 8) C dX5_fits_48 50 rfl (by decide) ?_
            refine j_istore C dX5_fits_50 52 rfl (by decide) [(5, .int 8), (4, .int 0), (0, .ref (a 0)), (1, .int 0), (2, .int x2), (3, .int x3)] rfl ?_
            refine j_lv [2, 3, 4, 5, 1, 0] [(0, .ref (a 0)), (1, .int 0), (2, .int x2), (3, .int x3), (4, .int 0), (5, .int 8)] rfl (L_X5_fits_52_x10 C a rws isv rc nlw nkd nbt nph ncn nno nct nsc nrn nlg ndn nzz sit ssr ssi x2 x3 hrc0 hrc hn0 hn hsi (in_has c4 hn0 hn) (fun (o : Int32 × Int32 × (Nat → Int32) × (Nat → Int32) × (Nat → Int32) × (Nat → Int32) × (Nat → Int32) × (Nat → Int32) × Int32 × Int32 × Int32 × Int32 × Int32 × Int32) => Rt τ κ cX5_fits .int (fun u : (Nat → Int32) × (Nat → Int32) × (Nat → Int32) × (Nat → Int32) × (Nat → Int32) × (Nat → Int32) × Int32 × Int32 × Int32 × Int32 × Int32 × Int32 => ((wX τ a rws isv rc) ++ (wT τ (fun j => a (10 + j)) nlw nkd nbt nph ncn nno nct nsc nrn nlg ndn nzz) ++ (wT τ (fun j => a (20 + j)) u.1 u.2.1 u.2.2.1 u.2.2.2.1 u.2.2.2.2.1 u.2.2.2.2.2.1 u.2.2.2.2.2.2.1 u.2.2.2.2.2.2.2.1 u.2.2.2.2.2.2.2.2.1 u.2.2.2.2.2.2.2.2.2.1 u.2.2.2.2.2.2.2.2.2.2.1 u.2.2.2.2.2.2.2.2.2.2.2) ++ (wSS τ a sit ssr ssi))) (pr14 o (fun x4_17 x5_17 tlw_17 tkd_17 tbt_17 tph_17 tcn_17 tno_17 tct_17 tsc_17 trn_17 tlg_17 tdn_17 tzz_17 => if (x3 = 0) then ((f_J6_bitCount_0f7a4 x4_17), tlw_17, tkd_17, tbt_17, tph_17, tcn_17, tno_17, tct_17, tsc_17, trn_17, tlg_17, tdn_17, tzz_17) else (if (x4_17 = 0) then (((-3) : Int32), tlw_17, tkd_17, tbt_17, tph_17, tcn_17, tno_17, tct_17, tsc_17, trn_17, tlg_17, tdn_17, tzz_17) else ((f_J6_numberOfTrailingZeros_0f7a4 x4_17), tlw_17, tkd_17, tbt_17, tph_17, tcn_17, tno_17, tct_17, tsc_17, trn_17, tlg_17, tdn_17, tzz_17))))) (fun x4_17 x5_17 tlw_17 tkd_17 tbt_17 tph_17 tcn_17 tno_17 tct_17 tsc_17 trn_17 tlg_17 tdn_17 tzz_17  hR => ?_) 300 (0 : Int32) (8 : Int32) tlw tkd tbt tph tcn tno tct tsc trn tlg tdn tzz (by decide) (by decide) (by decide) hR)
            rw [pr14_mk x4_17 x5_17 tlw_17 tkd_17 tbt_17 tph_17 tcn_17 tno_17 tct_17 tsc_17 trn_17 tlg_17 tdn_17 tzz_17] at hR
            refine j_iload_n C dX5_fits_91 92 rfl rfl 3 rfl ?_
            refine j_if_ne C dX5_fits_92 101 rfl 95 rfl (fun c21 => ?_) (fun c21 => ?_)
            · rw [if_neg c21] at hR
              refine j_iload C dX5_fits_101 103 rfl 4 rfl ?_
              refine j_if_ne C dX5_fits_103 111 rfl 106 rfl (fun c23 => ?_) (fun c23 => ?_)
              · rw [if_neg c23] at hR
                refine j_iload C dX5_fits_111 113 rfl 4 rfl ?_
                refine j_cs0I (na := 1) C dX5_fits_113 116 rfl (c_J6_numberOfTrailingZeros_0f7a4 τ  x4_17 ) rfl ggX5_fits_J6_numberOfTrailingZeros_0f7a4 rfl rfl rfl kX5_fits_iRJ6 kX5_fits_m172 kX5_fits_sJ6_numberOfTrailingZeros_0f7a4 qd_J6_numberOfTrailingZeros_0f7a4 rfl ⟨by decide, by decide⟩ ⟨by decide, by decide⟩ rfl (Nat.le_of_ble_eq_true rfl) (fun r24 u24 hX24 hn24 => ?_)
                obtain rfl := (Prod.mk.inj hX24).1
                exact Rt.ret (hR) rfl dX5_fits_116
              · rw [if_pos c23] at hR
                refine j_bipush (v := (-3)) C dX5_fits_106 108 rfl (by decide) ?_
                refine j_goto C dX5_fits_108 116 rfl ?_
                exact Rt.ret (hR) rfl dX5_fits_116
            · rw [if_pos c21] at hR
              refine j_iload C dX5_fits_95 97 rfl 4 rfl ?_
              refine j_cs0I (na := 1) C dX5_fits_97 100 rfl (c_J6_bitCount_0f7a4 τ  x4_17 ) rfl ggX5_fits_J6_bitCount_0f7a4 rfl rfl rfl kX5_fits_iRJ6 kX5_fits_m184 kX5_fits_sJ6_bitCount_0f7a4 qd_J6_bitCount_0f7a4 rfl ⟨by decide, by decide⟩ ⟨by decide, by decide⟩ rfl (Nat.le_of_ble_eq_true rfl) (fun r22 u22 hX22 hn22 => ?_)
              obtain rfl := (Prod.mk.inj hX22).1
              exact Rt.ret (hR) rfl dX5_fits_100
          · rw [if_pos c16] at hR
            refine j_bipush (v := (-11)) C dX5_fits_42 44 rfl (by decide) ?_
            exact Rt.ret (hR) rfl dX5_fits_44
        · try rw [show (1 : Int32).toNatClampNeg = 1 from rfl] at hR
          refine j_aald (t0 := 2) (b := (a 62)) (N := 4) C dX5_fits_34 35 rfl 2 rfl rfl (by unfold vp_in; decide) (by rfl) ?_
          refine j_get C dX5_fits_35 38 rfl hiX1 20 rfl rfl 1 (by decide) rfl kX5_fits_f196 rfl ?_
          refine j_iconst (v := (-1)) C dX5_fits_38 39 rfl (by decide) ?_
          refine j_icmp_ne C dX5_fits_39 45 rfl 42 rfl (fun c25 => ?_) (fun c25 => ?_)
          · rw [if_neg c25] at hR
            refine j_iconst (v := 0) C dX5_fits_45 46 rfl (by decide) ?_
            refine j_istore C dX5_fits_46 48 rfl (by decide) [(4, .int 0), (0, .ref (a 0)), (1, .int 1), (2, .int x2), (3, .int x3)] rfl ?_
            refine j_bipush (v := 8) C dX5_fits_48 50 rfl (by decide) ?_
            refine j_istore C dX5_fits_50 52 rfl (by decide) [(5, .int 8), (4, .int 0), (0, .ref (a 0)), (1, .int 1), (2, .int x2), (3, .int x3)] rfl ?_
            refine j_lv [2, 3, 4, 5, 1, 0] [(0, .ref (a 0)), (1, .int 1), (2, .int x2), (3, .int x3), (4, .int 0), (5, .int 8)] rfl (L_X5_fits_52_x11 C a rws isv rc nlw nkd nbt nph ncn nno nct nsc nrn nlg ndn nzz sit ssr ssi x2 x3 hrc0 hrc hn0 hn hsi (in_has c4 hn0 hn) (fun (o : Int32 × Int32 × (Nat → Int32) × (Nat → Int32) × (Nat → Int32) × (Nat → Int32) × (Nat → Int32) × (Nat → Int32) × Int32 × Int32 × Int32 × Int32 × Int32 × Int32) => Rt τ κ cX5_fits .int (fun u : (Nat → Int32) × (Nat → Int32) × (Nat → Int32) × (Nat → Int32) × (Nat → Int32) × (Nat → Int32) × Int32 × Int32 × Int32 × Int32 × Int32 × Int32 => ((wX τ a rws isv rc) ++ (wT τ (fun j => a (10 + j)) nlw nkd nbt nph ncn nno nct nsc nrn nlg ndn nzz) ++ (wT τ (fun j => a (20 + j)) u.1 u.2.1 u.2.2.1 u.2.2.2.1 u.2.2.2.2.1 u.2.2.2.2.2.1 u.2.2.2.2.2.2.1 u.2.2.2.2.2.2.2.1 u.2.2.2.2.2.2.2.2.1 u.2.2.2.2.2.2.2.2.2.1 u.2.2.2.2.2.2.2.2.2.2.1 u.2.2.2.2.2.2.2.2.2.2.2) ++ (wSS τ a sit ssr ssi))) (pr14 o (fun x4_26 x5_26 tlw_26 tkd_26 tbt_26 tph_26 tcn_26 tno_26 tct_26 tsc_26 trn_26 tlg_26 tdn_26 tzz_26 => if (x3 = 0) then ((f_J6_bitCount_0f7a4 x4_26), tlw_26, tkd_26, tbt_26, tph_26, tcn_26, tno_26, tct_26, tsc_26, trn_26, tlg_26, tdn_26, tzz_26) else (if (x4_26 = 0) then (((-3) : Int32), tlw_26, tkd_26, tbt_26, tph_26, tcn_26, tno_26, tct_26, tsc_26, trn_26, tlg_26, tdn_26, tzz_26) else ((f_J6_numberOfTrailingZeros_0f7a4 x4_26), tlw_26, tkd_26, tbt_26, tph_26, tcn_26, tno_26, tct_26, tsc_26, trn_26, tlg_26, tdn_26, tzz_26))))) (fun x4_26 x5_26 tlw_26 tkd_26 tbt_26 tph_26 tcn_26 tno_26 tct_26 tsc_26 trn_26 tlg_26 tdn_26 tzz_26  hR => ?_) 300 (0 : Int32) (8 : Int32) tlw tkd tbt tph tcn tno tct tsc trn tlg tdn tzz (by decide) (by decide) (by decide) hR)
            rw [pr14_mk x4_26 x5_26 tlw_26 tkd_26 tbt_26 tph_26 tcn_26 tno_26 tct_26 tsc_26 trn_26 tlg_26 tdn_26 tzz_26] at hR
            refine j_iload_n C dX5_fits_91 92 rfl rfl 3 rfl ?_
            refine j_if_ne C dX5_fits_92 101 rfl 95 rfl (fun c30 => ?_) (fun c30 => ?_)
            · rw [if_neg c30] at hR
              refine j_iload C dX5_fits_101 103 rfl 4 rfl ?_
              refine j_if_ne C dX5_fits_103 111 rfl 106 rfl (fun c32 => ?_) (fun c32 => ?_)
              · rw [if_neg c32] at hR
                refine j_iload C dX5_fits_111 113 rfl 4 rfl ?_
                refine j_cs0I (na := 1) C dX5_fits_113 116 rfl (c_J6_numberOfTrailingZeros_0f7a4 τ  x4_26 ) rfl ggX5_fits_J6_numberOfTrailingZeros_0f7a4 rfl rfl rfl kX5_fits_iRJ6 kX5_fits_m172 kX5_fits_sJ6_numberOfTrailingZeros_0f7a4 qd_J6_numberOfTrailingZeros_0f7a4 rfl ⟨by decide, by decide⟩ ⟨by decide, by decide⟩ rfl (Nat.le_of_ble_eq_true rfl) (fun r33 u33 hX33 hn33 => ?_)
                obtain rfl := (Prod.mk.inj hX33).1
                exact Rt.ret (hR) rfl dX5_fits_116
              · rw [if_pos c32] at hR
                refine j_bipush (v := (-3)) C dX5_fits_106 108 rfl (by decide) ?_
                refine j_goto C dX5_fits_108 116 rfl ?_
                exact Rt.ret (hR) rfl dX5_fits_116
            · rw [if_pos c30] at hR
              refine j_iload C dX5_fits_95 97 rfl 4 rfl ?_
              refine j_cs0I (na := 1) C dX5_fits_97 100 rfl (c_J6_bitCount_0f7a4 τ  x4_26 ) rfl ggX5_fits_J6_bitCount_0f7a4 rfl rfl rfl kX5_fits_iRJ6 kX5_fits_m184 kX5_fits_sJ6_bitCount_0f7a4 qd_J6_bitCount_0f7a4 rfl ⟨by decide, by decide⟩ ⟨by decide, by decide⟩ rfl (Nat.le_of_ble_eq_true rfl) (fun r31 u31 hX31 hn31 => ?_)
              obtain rfl := (Prod.mk.inj hX31).1
              exact Rt.ret (hR) rfl dX5_fits_100
          · rw [if_pos c25] at hR
            refine j_bipush (v := (-11)) C dX5_fits_42 44 rfl (by decide) ?_
            exact Rt.ret (hR) rfl dX5_fits_44
        · try rw [show (2 : Int32).toNatClampNeg = 2 from rfl] at hR
          refine j_aald (t0 := 2) (b := (a 64)) (N := 4) C dX5_fits_34 35 rfl 2 rfl rfl (by unfold vp_in; decide) (by rfl) ?_
          refine j_get C dX5_fits_35 38 rfl hiX1 22 rfl rfl 1 (by decide) rfl kX5_fits_f196 rfl ?_
          refine j_iconst (v := (-1)) C dX5_fits_38 39 rfl (by decide) ?_
          refine j_icmp_ne C dX5_fits_39 45 rfl 42 rfl (fun c34 => ?_) (fun c34 => ?_)
          · rw [if_neg c34] at hR
            refine j_iconst (v := 0) C dX5_fits_45 46 rfl (by decide) ?_
            refine j_istore C dX5_fits_46 48 rfl (by decide) [(4, .int 0), (0, .ref (a 0)), (1, .int 2), (2, .int x2), (3, .int x3)] rfl ?_
            refine j_bipush (v := 8) C dX5_fits_48 50 rfl (by decide) ?_
            refine j_istore C dX5_fits_50 52 rfl (by decide) [(5, .int 8), (4, .int 0), (0, .ref (a 0)), (1, .int 2), (2, .int x2), (3, .int x3)] rfl ?_
            refine j_lv [2, 3, 4, 5, 1, 0] [(0, .ref (a 0)), (1, .int 2), (2, .int x2), (3, .int x3), (4, .int 0), (5, .int 8)] rfl (L_X5_fits_52_x12 C a rws isv rc nlw nkd nbt nph ncn nno nct nsc nrn nlg ndn nzz sit ssr ssi x2 x3 hrc0 hrc hn0 hn hsi (in_has c4 hn0 hn) (fun (o : Int32 × Int32 × (Nat → Int32) × (Nat → Int32) × (Nat → Int32) × (Nat → Int32) × (Nat → Int32) × (Nat → Int32) × Int32 × Int32 × Int32 × Int32 × Int32 × Int32) => Rt τ κ cX5_fits .int (fun u : (Nat → Int32) × (Nat → Int32) × (Nat → Int32) × (Nat → Int32) × (Nat → Int32) × (Nat → Int32) × Int32 × Int32 × Int32 × Int32 × Int32 × Int32 => ((wX τ a rws isv rc) ++ (wT τ (fun j => a (10 + j)) nlw nkd nbt nph ncn nno nct nsc nrn nlg ndn nzz) ++ (wT τ (fun j => a (20 + j)) u.1 u.2.1 u.2.2.1 u.2.2.2.1 u.2.2.2.2.1 u.2.2.2.2.2.1 u.2.2.2.2.2.2.1 u.2.2.2.2.2.2.2.1 u.2.2.2.2.2.2.2.2.1 u.2.2.2.2.2.2.2.2.2.1 u.2.2.2.2.2.2.2.2.2.2.1 u.2.2.2.2.2.2.2.2.2.2.2) ++ (wSS τ a sit ssr ssi))) (pr14 o (fun x4_35 x5_35 tlw_35 tkd_35 tbt_35 tph_35 tcn_35 tno_35 tct_35 tsc_35 trn_35 tlg_35 tdn_35 tzz_35 => if (x3 = 0) then ((f_J6_bitCount_0f7a4 x4_35), tlw_35, tkd_35, tbt_35, tph_35, tcn_35, tno_35, tct_35, tsc_35, trn_35, tlg_35, tdn_35, tzz_35) else (if (x4_35 = 0) then (((-3) : Int32), tlw_35, tkd_35, tbt_35, tph_35, tcn_35, tno_35, tct_35, tsc_35, trn_35, tlg_35, tdn_35, tzz_35) else ((f_J6_numberOfTrailingZeros_0f7a4 x4_35), tlw_35, tkd_35, tbt_35, tph_35, tcn_35, tno_35, tct_35, tsc_35, trn_35, tlg_35, tdn_35, tzz_35))))) (fun x4_35 x5_35 tlw_35 tkd_35 tbt_35 tph_35 tcn_35 tno_35 tct_35 tsc_35 trn_35 tlg_35 tdn_35 tzz_35  hR => ?_) 300 (0 : Int32) (8 : Int32) tlw tkd tbt tph tcn tno tct tsc trn tlg tdn tzz (by decide) (by decide) (by decide) hR)
            rw [pr14_mk x4_35 x5_35 tlw_35 tkd_35 tbt_35 tph_35 tcn_35 tno_35 tct_35 tsc_35 trn_35 tlg_35 tdn_35 tzz_35] at hR
            refine j_iload_n C dX5_fits_91 92 rfl rfl 3 rfl ?_
            refine j_if_ne C dX5_fits_92 101 rfl 95 rfl (fun c39 => ?_) (fun c39 => ?_)
            · rw [if_neg c39] at hR
              refine j_iload C dX5_fits_101 103 rfl 4 rfl ?_
              refine j_if_ne C dX5_fits_103 111 rfl 106 rfl (fun c41 => ?_) (fun c41 => ?_)
              · rw [if_neg c41] at hR
                refine j_iload C dX5_fits_111 113 rfl 4 rfl ?_
                refine j_cs0I (na := 1) C dX5_fits_113 116 rfl (c_J6_numberOfTrailingZeros_0f7a4 τ  x4_35 ) rfl ggX5_fits_J6_numberOfTrailingZeros_0f7a4 rfl rfl rfl kX5_fits_iRJ6 kX5_fits_m172 kX5_fits_sJ6_numberOfTrailingZeros_0f7a4 qd_J6_numberOfTrailingZeros_0f7a4 rfl ⟨by decide, by decide⟩ ⟨by decide, by decide⟩ rfl (Nat.le_of_ble_eq_true rfl) (fun r42 u42 hX42 hn42 => ?_)
                obtain rfl := (Prod.mk.inj hX42).1
                exact Rt.ret (hR) rfl dX5_fits_116
              · rw [if_pos c41] at hR
                refine j_bipush (v := (-3)) C dX5_fits_106 108 rfl (by decide) ?_
                refine j_goto C dX5_fits_108 116 rfl ?_
                exact Rt.ret (hR) rfl dX5_fits_116
            · rw [if_pos c39] at hR
              refine j_iload C dX5_fits_95 97 rfl 4 rfl ?_
              refine j_cs0I (na := 1) C dX5_fits_97 100 rfl (c_J6_bitCount_0f7a4 τ  x4_35 ) rfl ggX5_fits_J6_bitCount_0f7a4 rfl rfl rfl kX5_fits_iRJ6 kX5_fits_m184 kX5_fits_sJ6_bitCount_0f7a4 qd_J6_bitCount_0f7a4 rfl ⟨by decide, by decide⟩ ⟨by decide, by decide⟩ rfl (Nat.le_of_ble_eq_true rfl) (fun r40 u40 hX40 hn40 => ?_)
              obtain rfl := (Prod.mk.inj hX40).1
              exact Rt.ret (hR) rfl dX5_fits_100
          · rw [if_pos c34] at hR
            refine j_bipush (v := (-11)) C dX5_fits_42 44 rfl (by decide) ?_
            exact Rt.ret (hR) rfl dX5_fits_44
        · try rw [show (3 : Int32).toNatClampNeg = 3 from rfl] at hR
          refine j_aald (t0 := 2) (b := (a 66)) (N := 4) C dX5_fits_34 35 rfl 2 rfl rfl (by unfold vp_in; decide) (by rfl) ?_
          refine j_get C dX5_fits_35 38 rfl hiX1 24 rfl rfl 1 (by decide) rfl kX5_fits_f196 rfl ?_
          refine j_iconst (v := (-1)) C dX5_fits_38 39 rfl (by decide) ?_
          refine j_icmp_ne C dX5_fits_39 45 rfl 42 rfl (fun c43 => ?_) (fun c43 => ?_)
          · rw [if_neg c43] at hR
            refine j_iconst (v := 0) C dX5_fits_45 46 rfl (by decide) ?_
            refine j_istore C dX5_fits_46 48 rfl (by decide) [(4, .int 0), (0, .ref (a 0)), (1, .int 3), (2, .int x2), (3, .int x3)] rfl ?_
            refine j_bipush (v := 8) C dX5_fits_48 50 rfl (by decide) ?_
            refine j_istore C dX5_fits_50 52 rfl (by decide) [(5, .int 8), (4, .int 0), (0, .ref (a 0)), (1, .int 3), (2, .int x2), (3, .int x3)] rfl ?_
            refine j_lv [2, 3, 4, 5, 1, 0] [(0, .ref (a 0)), (1, .int 3), (2, .int x2), (3, .int x3), (4, .int 0), (5, .int 8)] rfl (L_X5_fits_52_x13 C a rws isv rc nlw nkd nbt nph ncn nno nct nsc nrn nlg ndn nzz sit ssr ssi x2 x3 hrc0 hrc hn0 hn hsi (in_has c4 hn0 hn) (fun (o : Int32 × Int32 × (Nat → Int32) × (Nat → Int32) × (Nat → Int32) × (Nat → Int32) × (Nat → Int32) × (Nat → Int32) × Int32 × Int32 × Int32 × Int32 × Int32 × Int32) => Rt τ κ cX5_fits .int (fun u : (Nat → Int32) × (Nat → Int32) × (Nat → Int32) × (Nat → Int32) × (Nat → Int32) × (Nat → Int32) × Int32 × Int32 × Int32 × Int32 × Int32 × Int32 => ((wX τ a rws isv rc) ++ (wT τ (fun j => a (10 + j)) nlw nkd nbt nph ncn nno nct nsc nrn nlg ndn nzz) ++ (wT τ (fun j => a (20 + j)) u.1 u.2.1 u.2.2.1 u.2.2.2.1 u.2.2.2.2.1 u.2.2.2.2.2.1 u.2.2.2.2.2.2.1 u.2.2.2.2.2.2.2.1 u.2.2.2.2.2.2.2.2.1 u.2.2.2.2.2.2.2.2.2.1 u.2.2.2.2.2.2.2.2.2.2.1 u.2.2.2.2.2.2.2.2.2.2.2) ++ (wSS τ a sit ssr ssi))) (pr14 o (fun x4_44 x5_44 tlw_44 tkd_44 tbt_44 tph_44 tcn_44 tno_44 tct_44 tsc_44 trn_44 tlg_44 tdn_44 tzz_44 => if (x3 = 0) then ((f_J6_bitCount_0f7a4 x4_44), tlw_44, tkd_44, tbt_44, tph_44, tcn_44, tno_44, tct_44, tsc_44, trn_44, tlg_44, tdn_44, tzz_44) else (if (x4_44 = 0) then (((-3) : Int32), tlw_44, tkd_44, tbt_44, tph_44, tcn_44, tno_44, tct_44, tsc_44, trn_44, tlg_44, tdn_44, tzz_44) else ((f_J6_numberOfTrailingZeros_0f7a4 x4_44), tlw_44, tkd_44, tbt_44, tph_44, tcn_44, tno_44, tct_44, tsc_44, trn_44, tlg_44, tdn_44, tzz_44))))) (fun x4_44 x5_44 tlw_44 tkd_44 tbt_44 tph_44 tcn_44 tno_44 tct_44 tsc_44 trn_44 tlg_44 tdn_44 tzz_44  hR => ?_) 300 (0 : Int32) (8 : Int32) tlw tkd tbt tph tcn tno tct tsc trn tlg tdn tzz (by decide) (by decide) (by decide) hR)
            rw [pr14_mk x4_44 x5_44 tlw_44 tkd_44 tbt_44 tph_44 tcn_44 tno_44 tct_44 tsc_44 trn_44 tlg_44 tdn_44 tzz_44] at hR
            refine j_iload_n C dX5_fits_91 92 rfl rfl 3 rfl ?_
            refine j_if_ne C dX5_fits_92 101 rfl 95 rfl (fun c48 => ?_) (fun c48 => ?_)
            · rw [if_neg c48] at hR
              refine j_iload C dX5_fits_101 103 rfl 4 rfl ?_
              refine j_if_ne C dX5_fits_103 111 rfl 106 rfl (fun c50 => ?_) (fun c50 => ?_)
              · rw [if_neg c50] at hR
                refine j_iload C dX5_fits_111 113 rfl 4 rfl ?_
                refine j_cs0I (na := 1) C dX5_fits_113 116 rfl (c_J6_numberOfTrailingZeros_0f7a4 τ  x4_44 ) rfl ggX5_fits_J6_numberOfTrailingZeros_0f7a4 rfl rfl rfl kX5_fits_iRJ6 kX5_fits_m172 kX5_fits_sJ6_numberOfTrailingZeros_0f7a4 qd_J6_numberOfTrailingZeros_0f7a4 rfl ⟨by decide, by decide⟩ ⟨by decide, by decide⟩ rfl (Nat.le_of_ble_eq_true rfl) (fun r51 u51 hX51 hn51 => ?_)
                obtain rfl := (Prod.mk.inj hX51).1
                exact Rt.ret (hR) rfl dX5_fits_116
              · rw [if_pos c50] at hR
                refine j_bipush (v := (-3)) C dX5_fits_106 108 rfl (by decide) ?_
                refine j_goto C dX5_fits_108 116 rfl ?_
                exact Rt.ret (hR) rfl dX5_fits_116
            · rw [if_pos c48] at hR
              refine j_iload C dX5_fits_95 97 rfl 4 rfl ?_
              refine j_cs0I (na := 1) C dX5_fits_97 100 rfl (c_J6_bitCount_0f7a4 τ  x4_44 ) rfl ggX5_fits_J6_bitCount_0f7a4 rfl rfl rfl kX5_fits_iRJ6 kX5_fits_m184 kX5_fits_sJ6_bitCount_0f7a4 qd_J6_bitCount_0f7a4 rfl ⟨by decide, by decide⟩ ⟨by decide, by decide⟩ rfl (Nat.le_of_ble_eq_true rfl) (fun r49 u49 hX49 hn49 => ?_)
              obtain rfl := (Prod.mk.inj hX49).1
              exact Rt.ret (hR) rfl dX5_fits_100
          · rw [if_pos c43] at hR
            refine j_bipush (v := (-11)) C dX5_fits_42 44 rfl (by decide) ?_
            exact Rt.ret (hR) rfl dX5_fits_44
      · rw [if_pos c6] at hR
        refine j_iconst (v := (-1)) C dX5_fits_27 28 rfl (by decide) ?_
        exact Rt.ret (hR) rfl dX5_fits_28

-- X5_minds main now sheets
def l_X5_minds_107 (sit : Nat → Nat → Int64) (x1 : Int32) (x2 : Int32) (x3 : Int32) (x4 : Int32) : Nat → Int32 → (Nat → Int32) → Int32 × (Nat → Int32)
  | 0, x6, nph => (x6, nph)
  | N + 1, x6, nph => if (x4 ≤ x6) then (x6, nph) else (l_X5_minds_107 sit x1 x2 x3 x4 N (x6 + 1) (upd nph ((x3 + x6)).toNatClampNeg (if (0 : Int32) < (if ((((sit (x1).toNatClampNeg) ((x2 + x6)).toNatClampNeg) : Int64).toInt32) < (8 : Int32) then ((((sit (x1).toNatClampNeg) ((x2 + x6)).toNatClampNeg) : Int64).toInt32) else (8 : Int32)) then (if ((((sit (x1).toNatClampNeg) ((x2 + x6)).toNatClampNeg) : Int64).toInt32) < (8 : Int32) then ((((sit (x1).toNatClampNeg) ((x2 + x6)).toNatClampNeg) : Int64).toInt32) else (8 : Int32)) else (0 : Int32))))
def f_X5_minds (nph : Nat → Int32) (nct : Int32) (sit : Nat → Nat → Int64) (ssr : Nat → Int32) (ssi : Nat → Int32) (x1 : Int32) (x2 : Int32) (x3 : Int32) (x4 : Int32) : Int32 × (Nat → Int32) := if ((f_X5_isSheet x1) = 0) then (((-1) : Int32), nph) else (if ((f_X4_has nct x3) = 0) then (((-1) : Int32), nph) else (if ((f_X5_isIn x4 (0 : Int32) (8 : Int32)) = 0) then (((-1) : Int32), nph) else (if ((x3 + x4) ≤ nct) then (if ((ssr (x1).toNatClampNeg) = (-1)) then (((-11) : Int32), nph) else (if ((ssr (x1).toNatClampNeg) = 0) then (if ((f_X5_isIn x2 (0 : Int32) (ssi (x1).toNatClampNeg)) = 0) then (((-12) : Int32), nph) else (if ((x2 + x4) ≤ (ssi (x1).toNatClampNeg)) then (pr2 (l_X5_minds_107 sit x1 x2 x3 x4 300 (0 : Int32) nph) (fun x6_13 nph_13 => (x4, nph_13))) else (((-12) : Int32), nph))) else (((-13) : Int32), nph))) else (((-1) : Int32), nph))))
theorem kX5_minds_iRX5 : Cond.initialized yX5_isIn.cls ∈ wsX5_minds := by decide +kernel
theorem kX5_minds_sX5_isSheet : Cond.static yX5_isSheet ∈ wsX5_minds := by decide +kernel
theorem kX5_minds_m193 : Cond.methodLink RX5 193 yX5_isSheet ∈ wsX5_minds := by decide +kernel
theorem kX5_minds_f10 : Cond.fieldLink RX5 10 "TwoMinutes" "now" "LTwoMinutes$Town;" ∈ wsX5_minds := by decide +kernel
theorem kX5_minds_sX5_isIn : Cond.static yX5_isIn ∈ wsX5_minds := by decide +kernel
theorem kX5_minds_m79 : Cond.methodLink RX5 79 yX5_isIn ∈ wsX5_minds := by decide +kernel
theorem kX5_minds_f76 : Cond.fieldLink RX5 76 "TwoMinutes$Town" "count" "I" ∈ wsX5_minds := by decide +kernel
theorem kX5_minds_f35 : Cond.fieldLink RX5 35 "TwoMinutes" "sheets" "[LTwoMinutes$Sheet;" ∈ wsX5_minds := by decide +kernel
theorem kX5_minds_f196 : Cond.fieldLink RX5 196 "TwoMinutes$Sheet" "sort" "I" ∈ wsX5_minds := by decide +kernel
theorem kX5_minds_f206 : Cond.fieldLink RX5 206 "TwoMinutes$Sheet" "size" "I" ∈ wsX5_minds := by decide +kernel
theorem kX5_minds_f112 : Cond.fieldLink RX5 112 "TwoMinutes$Town" "phases" "[I" ∈ wsX5_minds := by decide +kernel
theorem kX5_minds_f207 : Cond.fieldLink RX5 207 "TwoMinutes$Sheet" "items" "[J" ∈ wsX5_minds := by decide +kernel
theorem kX5_minds_m227 : Cond.methodLink RX5 227 Lib.Math.min.name ∈ wsX5_minds := by decide +kernel
theorem kX5_minds_smin : Cond.static Lib.Math.min.name ∈ wsX5_minds := by decide +kernel
theorem kX5_minds_iMath : Cond.initialized "java/lang/Math" ∈ wsX5_minds := by decide +kernel
theorem kX5_minds_omin : Cond.code Lib.Math.min.name Lib.Math.min.code 2 (some .int) ∈ wsX5_minds := by decide +kernel
theorem kX5_minds_m232 : Cond.methodLink RX5 232 Lib.Math.max.name ∈ wsX5_minds := by decide +kernel
theorem kX5_minds_smax : Cond.static Lib.Math.max.name ∈ wsX5_minds := by decide +kernel
theorem kX5_minds_omax : Cond.code Lib.Math.max.name Lib.Math.max.code 2 (some .int) ∈ wsX5_minds := by decide +kernel
theorem qd_X5_minds : yX5_minds.cls = RX5 ∧ yX5_minds.cls ≠ "java/lang/invoke/MethodHandle" ∧ yX5_minds.cls ≠ "java/lang/invoke/VarHandle" ∧ (parseMethodDescriptor yX5_minds.desc).map (fun d => d.parameters.length) = some 4 := by decide +kernel
abbrev rmX5_minds : Room := { frames := 2, cells := 0, slots := 0, locals := 43 }
set_option maxHeartbeats 4000000 in
set_option maxRecDepth 100000 in
theorem L_X5_minds_107_x10 {τ : SX} {κ : KX} (C : Cx τ κ cX5_minds RX5 wsX5_minds rmX5_minds 7) (a : Nat → Nat) (rws : Nat → Int32) (isv : Int32) (rc : Int32) (nlw : Nat → Int32) (nkd : Nat → Int32) (nbt : Nat → Int32) (ncn : Nat → Int32) (nno : Nat → Int32) (nct : Int32) (nsc : Int32) (nrn : Int32) (nlg : Int32) (ndn : Int32) (nzz : Int32) (sit : Nat → Nat → Int64) (ssr : Nat → Int32) (ssi : Nat → Int32) (x2 : Int32) (x3 : Int32) (x4 : Int32) (hrc0 : 0 ≤ rc.toInt) (hrc : rc.toInt ≤ 10) (hn0 : 0 ≤ nct.toInt) (hn : nct.toInt ≤ 8) (hsi : ∀ i, 0 ≤ (ssi i).toInt ∧ (ssi i).toInt ≤ 40) (hp : 0 ≤ x3.toInt ∧ x3.toInt + x4.toInt ≤ 8 ∧ x4.toInt ≤ 8) (hq : 0 ≤ x2.toInt ∧ x2.toInt + x4.toInt ≤ 40) (Φ : Int32 × (Nat → Int32) → Prop) (hE : ∀ (x6 : Int32) (nph : Nat → Int32), Φ (x6, nph) → J τ κ 0 0 ((wX τ a rws isv rc) ++ (wT τ (fun j => a (10 + j)) nlw nkd nbt nph ncn nno nct nsc nrn nlg ndn nzz) ++ (wSS τ a sit ssr ssi)) [(0, .ref (a 0)), (1, .int 0), (2, .int x2), (3, .int x3), (4, .int x4), (5, .ref (a 60)), (6, .int x6)] 152 []) : ∀ (N : Nat) (x6 : Int32) (nph : Nat → Int32), ((8 : Int) - x6.toInt).toNat < N → (0 ≤ x6.toInt) → (x6.toInt ≤ 8) → Φ (l_X5_minds_107 sit (0 : Int32) x2 x3 x4 N x6 nph) → J τ κ 0 0 ((wX τ a rws isv rc) ++ (wT τ (fun j => a (10 + j)) nlw nkd nbt nph ncn nno nct nsc nrn nlg ndn nzz) ++ (wSS τ a sit ssr ssi)) [(0, .ref (a 0)), (1, .int 0), (2, .int x2), (3, .int x3), (4, .int x4), (5, .ref (a 60)), (6, .int x6)] 107 [] := by
  have hiX1 : ∀ w ∈ wsX10, w ∈ wsX5_minds := fun w h => List.mem_cons_of_mem _ (List.mem_append_right _ h)
  have hiX4 : ∀ w ∈ wsX40, w ∈ wsX5_minds := fun w h => List.mem_cons_of_mem _ (List.mem_append_left _ (List.mem_append_right _ h))
  have hiX5 : ∀ w ∈ wsX50, w ∈ wsX5_minds := fun w h => List.mem_cons_of_mem _ (List.mem_append_left _ (List.mem_append_left _ (List.mem_append_right _ h)))
  intro N
  induction N with
  | zero => intro x6 nph hm; exact absurd hm (Nat.not_lt_zero _)
  | succ N ih =>
    intro x6 nph hm h0 h1 hR
    rw [l_X5_minds_107] at hR
    try rw [show (0 : Int32).toNatClampNeg = 0 from rfl] at hR
    refine j_iload C dX5_minds_107 109 rfl 6 rfl ?_
    refine j_iload C dX5_minds_109 111 rfl 4 rfl ?_
    refine j_icmp_ge C dX5_minds_111 152 rfl 114 rfl (fun c21 => ?_) (fun c21 => ?_)
    · rw [if_pos c21] at hR
      exact j_lv [0, 1, 2, 3, 4, 5, 6] [(0, .ref (a 0)), (1, .int 0), (2, .int x2), (3, .int x3), (4, .int x4), (5, .ref (a 60)), (6, .int x6)] rfl (hE _ _  hR)
    · rw [if_neg c21] at hR
      have hs := cnt_step (B := 8) h0 (by omega) (by decide) c21
      have hlt := mt i32_le.mpr c21
      refine j_aload_n C dX5_minds_114 115 rfl rfl 0 rfl ?_
      refine j_get C dX5_minds_115 118 rfl hiX5 0 rfl rfl 0 (by decide) rfl kX5_minds_f10 rfl ?_
      refine j_get C dX5_minds_118 121 rfl hiX4 4 rfl rfl 3 (by decide) rfl kX5_minds_f112 rfl ?_
      refine j_iload_n C dX5_minds_121 122 rfl rfl 3 rfl ?_
      refine j_iload C dX5_minds_122 124 rfl 6 rfl ?_
      refine j_iadd C dX5_minds_124 125 rfl ?_
      refine j_iconst (v := 0) C dX5_minds_125 126 rfl (by decide) ?_
      refine j_bipush (v := 8) C dX5_minds_126 128 rfl (by decide) ?_
      refine j_aload C dX5_minds_128 130 rfl 5 rfl ?_
      refine j_get C dX5_minds_130 133 rfl hiX1 11 rfl rfl 0 (by decide) rfl kX5_minds_f207 rfl ?_
      refine j_iload_n C dX5_minds_133 134 rfl rfl 2 rfl ?_
      refine j_iload C dX5_minds_134 136 rfl 6 rfl ?_
      refine j_iadd C dX5_minds_136 137 rfl ?_
      refine j_lald C dX5_minds_137 138 rfl 12 rfl (add_in hq.1 h0 (by omega) (by decide)) ((x2 + x6)).toNatClampNeg rfl ?_
      refine j_l2i C dX5_minds_138 139 rfl ?_
      refine j_mmin C dX5_minds_139 142 rfl kX5_minds_m227 kX5_minds_smin kX5_minds_iMath kX5_minds_omin (by decide) (Nat.le_of_ble_eq_true rfl) (by decide) (by decide) ?_
      refine j_mmax C dX5_minds_142 145 rfl kX5_minds_m232 kX5_minds_smax kX5_minds_iMath kX5_minds_omax (by decide) (Nat.le_of_ble_eq_true rfl) (by decide) (by decide) ?_
      refine j_iast C dX5_minds_145 146 rfl 8 rfl (add_in hp.1 h0 (by omega) (by decide)) ((x3 + x6)).toNatClampNeg rfl ((wX τ a rws isv rc) ++ (wT τ (fun j => a (10 + j)) nlw nkd nbt (upd nph ((x3 + x6)).toNatClampNeg (if (0 : Int32) < (if ((((sit 0) ((x2 + x6)).toNatClampNeg) : Int64).toInt32) < (8 : Int32) then ((((sit 0) ((x2 + x6)).toNatClampNeg) : Int64).toInt32) else (8 : Int32)) then (if ((((sit 0) ((x2 + x6)).toNatClampNeg) : Int64).toInt32) < (8 : Int32) then ((((sit 0) ((x2 + x6)).toNatClampNeg) : Int64).toInt32) else (8 : Int32)) else (0 : Int32))) ncn nno nct nsc nrn nlg ndn nzz) ++ (wSS τ a sit ssr ssi)) rfl ?_
      refine j_iinc (v := (x6 + 1)) C dX5_minds_146 149 rfl 6 rfl rfl (by decide) [(6, .int (x6 + 1)), (0, .ref (a 0)), (1, .int 0), (2, .int x2), (3, .int x3), (4, .int x4), (5, .ref (a 60))] rfl ?_
      refine j_goto C dX5_minds_149 107 rfl ?_
      exact j_lv [1, 2, 3, 4, 5, 6, 0] [(0, .ref (a 0)), (1, .int 0), (2, .int x2), (3, .int x3), (4, .int x4), (5, .ref (a 60)), (6, .int (x6 + 1))] rfl (ih _ _ (by have := hs.2.2.1; omega) hs.1 hs.2.1 hR)
set_option maxHeartbeats 4000000 in
set_option maxRecDepth 100000 in
theorem L_X5_minds_107_x11 {τ : SX} {κ : KX} (C : Cx τ κ cX5_minds RX5 wsX5_minds rmX5_minds 7) (a : Nat → Nat) (rws : Nat → Int32) (isv : Int32) (rc : Int32) (nlw : Nat → Int32) (nkd : Nat → Int32) (nbt : Nat → Int32) (ncn : Nat → Int32) (nno : Nat → Int32) (nct : Int32) (nsc : Int32) (nrn : Int32) (nlg : Int32) (ndn : Int32) (nzz : Int32) (sit : Nat → Nat → Int64) (ssr : Nat → Int32) (ssi : Nat → Int32) (x2 : Int32) (x3 : Int32) (x4 : Int32) (hrc0 : 0 ≤ rc.toInt) (hrc : rc.toInt ≤ 10) (hn0 : 0 ≤ nct.toInt) (hn : nct.toInt ≤ 8) (hsi : ∀ i, 0 ≤ (ssi i).toInt ∧ (ssi i).toInt ≤ 40) (hp : 0 ≤ x3.toInt ∧ x3.toInt + x4.toInt ≤ 8 ∧ x4.toInt ≤ 8) (hq : 0 ≤ x2.toInt ∧ x2.toInt + x4.toInt ≤ 40) (Φ : Int32 × (Nat → Int32) → Prop) (hE : ∀ (x6 : Int32) (nph : Nat → Int32), Φ (x6, nph) → J τ κ 0 0 ((wX τ a rws isv rc) ++ (wT τ (fun j => a (10 + j)) nlw nkd nbt nph ncn nno nct nsc nrn nlg ndn nzz) ++ (wSS τ a sit ssr ssi)) [(0, .ref (a 0)), (1, .int 1), (2, .int x2), (3, .int x3), (4, .int x4), (5, .ref (a 62)), (6, .int x6)] 152 []) : ∀ (N : Nat) (x6 : Int32) (nph : Nat → Int32), ((8 : Int) - x6.toInt).toNat < N → (0 ≤ x6.toInt) → (x6.toInt ≤ 8) → Φ (l_X5_minds_107 sit (1 : Int32) x2 x3 x4 N x6 nph) → J τ κ 0 0 ((wX τ a rws isv rc) ++ (wT τ (fun j => a (10 + j)) nlw nkd nbt nph ncn nno nct nsc nrn nlg ndn nzz) ++ (wSS τ a sit ssr ssi)) [(0, .ref (a 0)), (1, .int 1), (2, .int x2), (3, .int x3), (4, .int x4), (5, .ref (a 62)), (6, .int x6)] 107 [] := by
  have hiX1 : ∀ w ∈ wsX10, w ∈ wsX5_minds := fun w h => List.mem_cons_of_mem _ (List.mem_append_right _ h)
  have hiX4 : ∀ w ∈ wsX40, w ∈ wsX5_minds := fun w h => List.mem_cons_of_mem _ (List.mem_append_left _ (List.mem_append_right _ h))
  have hiX5 : ∀ w ∈ wsX50, w ∈ wsX5_minds := fun w h => List.mem_cons_of_mem _ (List.mem_append_left _ (List.mem_append_left _ (List.mem_append_right _ h)))
  intro N
  induction N with
  | zero => intro x6 nph hm; exact absurd hm (Nat.not_lt_zero _)
  | succ N ih =>
    intro x6 nph hm h0 h1 hR
    rw [l_X5_minds_107] at hR
    try rw [show (1 : Int32).toNatClampNeg = 1 from rfl] at hR
    refine j_iload C dX5_minds_107 109 rfl 6 rfl ?_
    refine j_iload C dX5_minds_109 111 rfl 4 rfl ?_
    refine j_icmp_ge C dX5_minds_111 152 rfl 114 rfl (fun c28 => ?_) (fun c28 => ?_)
    · rw [if_pos c28] at hR
      exact j_lv [0, 1, 2, 3, 4, 5, 6] [(0, .ref (a 0)), (1, .int 1), (2, .int x2), (3, .int x3), (4, .int x4), (5, .ref (a 62)), (6, .int x6)] rfl (hE _ _  hR)
    · rw [if_neg c28] at hR
      have hs := cnt_step (B := 8) h0 (by omega) (by decide) c28
      have hlt := mt i32_le.mpr c28
      refine j_aload_n C dX5_minds_114 115 rfl rfl 0 rfl ?_
      refine j_get C dX5_minds_115 118 rfl hiX5 0 rfl rfl 0 (by decide) rfl kX5_minds_f10 rfl ?_
      refine j_get C dX5_minds_118 121 rfl hiX4 4 rfl rfl 3 (by decide) rfl kX5_minds_f112 rfl ?_
      refine j_iload_n C dX5_minds_121 122 rfl rfl 3 rfl ?_
      refine j_iload C dX5_minds_122 124 rfl 6 rfl ?_
      refine j_iadd C dX5_minds_124 125 rfl ?_
      refine j_iconst (v := 0) C dX5_minds_125 126 rfl (by decide) ?_
      refine j_bipush (v := 8) C dX5_minds_126 128 rfl (by decide) ?_
      refine j_aload C dX5_minds_128 130 rfl 5 rfl ?_
      refine j_get C dX5_minds_130 133 rfl hiX1 13 rfl rfl 0 (by decide) rfl kX5_minds_f207 rfl ?_
      refine j_iload_n C dX5_minds_133 134 rfl rfl 2 rfl ?_
      refine j_iload C dX5_minds_134 136 rfl 6 rfl ?_
      refine j_iadd C dX5_minds_136 137 rfl ?_
      refine j_lald C dX5_minds_137 138 rfl 14 rfl (add_in hq.1 h0 (by omega) (by decide)) ((x2 + x6)).toNatClampNeg rfl ?_
      refine j_l2i C dX5_minds_138 139 rfl ?_
      refine j_mmin C dX5_minds_139 142 rfl kX5_minds_m227 kX5_minds_smin kX5_minds_iMath kX5_minds_omin (by decide) (Nat.le_of_ble_eq_true rfl) (by decide) (by decide) ?_
      refine j_mmax C dX5_minds_142 145 rfl kX5_minds_m232 kX5_minds_smax kX5_minds_iMath kX5_minds_omax (by decide) (Nat.le_of_ble_eq_true rfl) (by decide) (by decide) ?_
      refine j_iast C dX5_minds_145 146 rfl 8 rfl (add_in hp.1 h0 (by omega) (by decide)) ((x3 + x6)).toNatClampNeg rfl ((wX τ a rws isv rc) ++ (wT τ (fun j => a (10 + j)) nlw nkd nbt (upd nph ((x3 + x6)).toNatClampNeg (if (0 : Int32) < (if ((((sit 1) ((x2 + x6)).toNatClampNeg) : Int64).toInt32) < (8 : Int32) then ((((sit 1) ((x2 + x6)).toNatClampNeg) : Int64).toInt32) else (8 : Int32)) then (if ((((sit 1) ((x2 + x6)).toNatClampNeg) : Int64).toInt32) < (8 : Int32) then ((((sit 1) ((x2 + x6)).toNatClampNeg) : Int64).toInt32) else (8 : Int32)) else (0 : Int32))) ncn nno nct nsc nrn nlg ndn nzz) ++ (wSS τ a sit ssr ssi)) rfl ?_
      refine j_iinc (v := (x6 + 1)) C dX5_minds_146 149 rfl 6 rfl rfl (by decide) [(6, .int (x6 + 1)), (0, .ref (a 0)), (1, .int 1), (2, .int x2), (3, .int x3), (4, .int x4), (5, .ref (a 62))] rfl ?_
      refine j_goto C dX5_minds_149 107 rfl ?_
      exact j_lv [1, 2, 3, 4, 5, 6, 0] [(0, .ref (a 0)), (1, .int 1), (2, .int x2), (3, .int x3), (4, .int x4), (5, .ref (a 62)), (6, .int (x6 + 1))] rfl (ih _ _ (by have := hs.2.2.1; omega) hs.1 hs.2.1 hR)
set_option maxHeartbeats 4000000 in
set_option maxRecDepth 100000 in
theorem L_X5_minds_107_x12 {τ : SX} {κ : KX} (C : Cx τ κ cX5_minds RX5 wsX5_minds rmX5_minds 7) (a : Nat → Nat) (rws : Nat → Int32) (isv : Int32) (rc : Int32) (nlw : Nat → Int32) (nkd : Nat → Int32) (nbt : Nat → Int32) (ncn : Nat → Int32) (nno : Nat → Int32) (nct : Int32) (nsc : Int32) (nrn : Int32) (nlg : Int32) (ndn : Int32) (nzz : Int32) (sit : Nat → Nat → Int64) (ssr : Nat → Int32) (ssi : Nat → Int32) (x2 : Int32) (x3 : Int32) (x4 : Int32) (hrc0 : 0 ≤ rc.toInt) (hrc : rc.toInt ≤ 10) (hn0 : 0 ≤ nct.toInt) (hn : nct.toInt ≤ 8) (hsi : ∀ i, 0 ≤ (ssi i).toInt ∧ (ssi i).toInt ≤ 40) (hp : 0 ≤ x3.toInt ∧ x3.toInt + x4.toInt ≤ 8 ∧ x4.toInt ≤ 8) (hq : 0 ≤ x2.toInt ∧ x2.toInt + x4.toInt ≤ 40) (Φ : Int32 × (Nat → Int32) → Prop) (hE : ∀ (x6 : Int32) (nph : Nat → Int32), Φ (x6, nph) → J τ κ 0 0 ((wX τ a rws isv rc) ++ (wT τ (fun j => a (10 + j)) nlw nkd nbt nph ncn nno nct nsc nrn nlg ndn nzz) ++ (wSS τ a sit ssr ssi)) [(0, .ref (a 0)), (1, .int 2), (2, .int x2), (3, .int x3), (4, .int x4), (5, .ref (a 64)), (6, .int x6)] 152 []) : ∀ (N : Nat) (x6 : Int32) (nph : Nat → Int32), ((8 : Int) - x6.toInt).toNat < N → (0 ≤ x6.toInt) → (x6.toInt ≤ 8) → Φ (l_X5_minds_107 sit (2 : Int32) x2 x3 x4 N x6 nph) → J τ κ 0 0 ((wX τ a rws isv rc) ++ (wT τ (fun j => a (10 + j)) nlw nkd nbt nph ncn nno nct nsc nrn nlg ndn nzz) ++ (wSS τ a sit ssr ssi)) [(0, .ref (a 0)), (1, .int 2), (2, .int x2), (3, .int x3), (4, .int x4), (5, .ref (a 64)), (6, .int x6)] 107 [] := by
  have hiX1 : ∀ w ∈ wsX10, w ∈ wsX5_minds := fun w h => List.mem_cons_of_mem _ (List.mem_append_right _ h)
  have hiX4 : ∀ w ∈ wsX40, w ∈ wsX5_minds := fun w h => List.mem_cons_of_mem _ (List.mem_append_left _ (List.mem_append_right _ h))
  have hiX5 : ∀ w ∈ wsX50, w ∈ wsX5_minds := fun w h => List.mem_cons_of_mem _ (List.mem_append_left _ (List.mem_append_left _ (List.mem_append_right _ h)))
  intro N
  induction N with
  | zero => intro x6 nph hm; exact absurd hm (Nat.not_lt_zero _)
  | succ N ih =>
    intro x6 nph hm h0 h1 hR
    rw [l_X5_minds_107] at hR
    try rw [show (2 : Int32).toNatClampNeg = 2 from rfl] at hR
    refine j_iload C dX5_minds_107 109 rfl 6 rfl ?_
    refine j_iload C dX5_minds_109 111 rfl 4 rfl ?_
    refine j_icmp_ge C dX5_minds_111 152 rfl 114 rfl (fun c35 => ?_) (fun c35 => ?_)
    · rw [if_pos c35] at hR
      exact j_lv [0, 1, 2, 3, 4, 5, 6] [(0, .ref (a 0)), (1, .int 2), (2, .int x2), (3, .int x3), (4, .int x4), (5, .ref (a 64)), (6, .int x6)] rfl (hE _ _  hR)
    · rw [if_neg c35] at hR
      have hs := cnt_step (B := 8) h0 (by omega) (by decide) c35
      have hlt := mt i32_le.mpr c35
      refine j_aload_n C dX5_minds_114 115 rfl rfl 0 rfl ?_
      refine j_get C dX5_minds_115 118 rfl hiX5 0 rfl rfl 0 (by decide) rfl kX5_minds_f10 rfl ?_
      refine j_get C dX5_minds_118 121 rfl hiX4 4 rfl rfl 3 (by decide) rfl kX5_minds_f112 rfl ?_
      refine j_iload_n C dX5_minds_121 122 rfl rfl 3 rfl ?_
      refine j_iload C dX5_minds_122 124 rfl 6 rfl ?_
      refine j_iadd C dX5_minds_124 125 rfl ?_
      refine j_iconst (v := 0) C dX5_minds_125 126 rfl (by decide) ?_
      refine j_bipush (v := 8) C dX5_minds_126 128 rfl (by decide) ?_
      refine j_aload C dX5_minds_128 130 rfl 5 rfl ?_
      refine j_get C dX5_minds_130 133 rfl hiX1 15 rfl rfl 0 (by decide) rfl kX5_minds_f207 rfl ?_
      refine j_iload_n C dX5_minds_133 134 rfl rfl 2 rfl ?_
      refine j_iload C dX5_minds_134 136 rfl 6 rfl ?_
      refine j_iadd C dX5_minds_136 137 rfl ?_
      refine j_lald C dX5_minds_137 138 rfl 16 rfl (add_in hq.1 h0 (by omega) (by decide)) ((x2 + x6)).toNatClampNeg rfl ?_
      refine j_l2i C dX5_minds_138 139 rfl ?_
      refine j_mmin C dX5_minds_139 142 rfl kX5_minds_m227 kX5_minds_smin kX5_minds_iMath kX5_minds_omin (by decide) (Nat.le_of_ble_eq_true rfl) (by decide) (by decide) ?_
      refine j_mmax C dX5_minds_142 145 rfl kX5_minds_m232 kX5_minds_smax kX5_minds_iMath kX5_minds_omax (by decide) (Nat.le_of_ble_eq_true rfl) (by decide) (by decide) ?_
      refine j_iast C dX5_minds_145 146 rfl 8 rfl (add_in hp.1 h0 (by omega) (by decide)) ((x3 + x6)).toNatClampNeg rfl ((wX τ a rws isv rc) ++ (wT τ (fun j => a (10 + j)) nlw nkd nbt (upd nph ((x3 + x6)).toNatClampNeg (if (0 : Int32) < (if ((((sit 2) ((x2 + x6)).toNatClampNeg) : Int64).toInt32) < (8 : Int32) then ((((sit 2) ((x2 + x6)).toNatClampNeg) : Int64).toInt32) else (8 : Int32)) then (if ((((sit 2) ((x2 + x6)).toNatClampNeg) : Int64).toInt32) < (8 : Int32) then ((((sit 2) ((x2 + x6)).toNatClampNeg) : Int64).toInt32) else (8 : Int32)) else (0 : Int32))) ncn nno nct nsc nrn nlg ndn nzz) ++ (wSS τ a sit ssr ssi)) rfl ?_
      refine j_iinc (v := (x6 + 1)) C dX5_minds_146 149 rfl 6 rfl rfl (by decide) [(6, .int (x6 + 1)), (0, .ref (a 0)), (1, .int 2), (2, .int x2), (3, .int x3), (4, .int x4), (5, .ref (a 64))] rfl ?_
      refine j_goto C dX5_minds_149 107 rfl ?_
      exact j_lv [1, 2, 3, 4, 5, 6, 0] [(0, .ref (a 0)), (1, .int 2), (2, .int x2), (3, .int x3), (4, .int x4), (5, .ref (a 64)), (6, .int (x6 + 1))] rfl (ih _ _ (by have := hs.2.2.1; omega) hs.1 hs.2.1 hR)
set_option maxHeartbeats 4000000 in
set_option maxRecDepth 100000 in
theorem L_X5_minds_107_x13 {τ : SX} {κ : KX} (C : Cx τ κ cX5_minds RX5 wsX5_minds rmX5_minds 7) (a : Nat → Nat) (rws : Nat → Int32) (isv : Int32) (rc : Int32) (nlw : Nat → Int32) (nkd : Nat → Int32) (nbt : Nat → Int32) (ncn : Nat → Int32) (nno : Nat → Int32) (nct : Int32) (nsc : Int32) (nrn : Int32) (nlg : Int32) (ndn : Int32) (nzz : Int32) (sit : Nat → Nat → Int64) (ssr : Nat → Int32) (ssi : Nat → Int32) (x2 : Int32) (x3 : Int32) (x4 : Int32) (hrc0 : 0 ≤ rc.toInt) (hrc : rc.toInt ≤ 10) (hn0 : 0 ≤ nct.toInt) (hn : nct.toInt ≤ 8) (hsi : ∀ i, 0 ≤ (ssi i).toInt ∧ (ssi i).toInt ≤ 40) (hp : 0 ≤ x3.toInt ∧ x3.toInt + x4.toInt ≤ 8 ∧ x4.toInt ≤ 8) (hq : 0 ≤ x2.toInt ∧ x2.toInt + x4.toInt ≤ 40) (Φ : Int32 × (Nat → Int32) → Prop) (hE : ∀ (x6 : Int32) (nph : Nat → Int32), Φ (x6, nph) → J τ κ 0 0 ((wX τ a rws isv rc) ++ (wT τ (fun j => a (10 + j)) nlw nkd nbt nph ncn nno nct nsc nrn nlg ndn nzz) ++ (wSS τ a sit ssr ssi)) [(0, .ref (a 0)), (1, .int 3), (2, .int x2), (3, .int x3), (4, .int x4), (5, .ref (a 66)), (6, .int x6)] 152 []) : ∀ (N : Nat) (x6 : Int32) (nph : Nat → Int32), ((8 : Int) - x6.toInt).toNat < N → (0 ≤ x6.toInt) → (x6.toInt ≤ 8) → Φ (l_X5_minds_107 sit (3 : Int32) x2 x3 x4 N x6 nph) → J τ κ 0 0 ((wX τ a rws isv rc) ++ (wT τ (fun j => a (10 + j)) nlw nkd nbt nph ncn nno nct nsc nrn nlg ndn nzz) ++ (wSS τ a sit ssr ssi)) [(0, .ref (a 0)), (1, .int 3), (2, .int x2), (3, .int x3), (4, .int x4), (5, .ref (a 66)), (6, .int x6)] 107 [] := by
  have hiX1 : ∀ w ∈ wsX10, w ∈ wsX5_minds := fun w h => List.mem_cons_of_mem _ (List.mem_append_right _ h)
  have hiX4 : ∀ w ∈ wsX40, w ∈ wsX5_minds := fun w h => List.mem_cons_of_mem _ (List.mem_append_left _ (List.mem_append_right _ h))
  have hiX5 : ∀ w ∈ wsX50, w ∈ wsX5_minds := fun w h => List.mem_cons_of_mem _ (List.mem_append_left _ (List.mem_append_left _ (List.mem_append_right _ h)))
  intro N
  induction N with
  | zero => intro x6 nph hm; exact absurd hm (Nat.not_lt_zero _)
  | succ N ih =>
    intro x6 nph hm h0 h1 hR
    rw [l_X5_minds_107] at hR
    try rw [show (3 : Int32).toNatClampNeg = 3 from rfl] at hR
    refine j_iload C dX5_minds_107 109 rfl 6 rfl ?_
    refine j_iload C dX5_minds_109 111 rfl 4 rfl ?_
    refine j_icmp_ge C dX5_minds_111 152 rfl 114 rfl (fun c42 => ?_) (fun c42 => ?_)
    · rw [if_pos c42] at hR
      exact j_lv [0, 1, 2, 3, 4, 5, 6] [(0, .ref (a 0)), (1, .int 3), (2, .int x2), (3, .int x3), (4, .int x4), (5, .ref (a 66)), (6, .int x6)] rfl (hE _ _  hR)
    · rw [if_neg c42] at hR
      have hs := cnt_step (B := 8) h0 (by omega) (by decide) c42
      have hlt := mt i32_le.mpr c42
      refine j_aload_n C dX5_minds_114 115 rfl rfl 0 rfl ?_
      refine j_get C dX5_minds_115 118 rfl hiX5 0 rfl rfl 0 (by decide) rfl kX5_minds_f10 rfl ?_
      refine j_get C dX5_minds_118 121 rfl hiX4 4 rfl rfl 3 (by decide) rfl kX5_minds_f112 rfl ?_
      refine j_iload_n C dX5_minds_121 122 rfl rfl 3 rfl ?_
      refine j_iload C dX5_minds_122 124 rfl 6 rfl ?_
      refine j_iadd C dX5_minds_124 125 rfl ?_
      refine j_iconst (v := 0) C dX5_minds_125 126 rfl (by decide) ?_
      refine j_bipush (v := 8) C dX5_minds_126 128 rfl (by decide) ?_
      refine j_aload C dX5_minds_128 130 rfl 5 rfl ?_
      refine j_get C dX5_minds_130 133 rfl hiX1 17 rfl rfl 0 (by decide) rfl kX5_minds_f207 rfl ?_
      refine j_iload_n C dX5_minds_133 134 rfl rfl 2 rfl ?_
      refine j_iload C dX5_minds_134 136 rfl 6 rfl ?_
      refine j_iadd C dX5_minds_136 137 rfl ?_
      refine j_lald C dX5_minds_137 138 rfl 18 rfl (add_in hq.1 h0 (by omega) (by decide)) ((x2 + x6)).toNatClampNeg rfl ?_
      refine j_l2i C dX5_minds_138 139 rfl ?_
      refine j_mmin C dX5_minds_139 142 rfl kX5_minds_m227 kX5_minds_smin kX5_minds_iMath kX5_minds_omin (by decide) (Nat.le_of_ble_eq_true rfl) (by decide) (by decide) ?_
      refine j_mmax C dX5_minds_142 145 rfl kX5_minds_m232 kX5_minds_smax kX5_minds_iMath kX5_minds_omax (by decide) (Nat.le_of_ble_eq_true rfl) (by decide) (by decide) ?_
      refine j_iast C dX5_minds_145 146 rfl 8 rfl (add_in hp.1 h0 (by omega) (by decide)) ((x3 + x6)).toNatClampNeg rfl ((wX τ a rws isv rc) ++ (wT τ (fun j => a (10 + j)) nlw nkd nbt (upd nph ((x3 + x6)).toNatClampNeg (if (0 : Int32) < (if ((((sit 3) ((x2 + x6)).toNatClampNeg) : Int64).toInt32) < (8 : Int32) then ((((sit 3) ((x2 + x6)).toNatClampNeg) : Int64).toInt32) else (8 : Int32)) then (if ((((sit 3) ((x2 + x6)).toNatClampNeg) : Int64).toInt32) < (8 : Int32) then ((((sit 3) ((x2 + x6)).toNatClampNeg) : Int64).toInt32) else (8 : Int32)) else (0 : Int32))) ncn nno nct nsc nrn nlg ndn nzz) ++ (wSS τ a sit ssr ssi)) rfl ?_
      refine j_iinc (v := (x6 + 1)) C dX5_minds_146 149 rfl 6 rfl rfl (by decide) [(6, .int (x6 + 1)), (0, .ref (a 0)), (1, .int 3), (2, .int x2), (3, .int x3), (4, .int x4), (5, .ref (a 66))] rfl ?_
      refine j_goto C dX5_minds_149 107 rfl ?_
      exact j_lv [1, 2, 3, 4, 5, 6, 0] [(0, .ref (a 0)), (1, .int 3), (2, .int x2), (3, .int x3), (4, .int x4), (5, .ref (a 66)), (6, .int (x6 + 1))] rfl (ih _ _ (by have := hs.2.2.1; omega) hs.1 hs.2.1 hR)
set_option maxHeartbeats 4000000 in
set_option maxRecDepth 100000 in
theorem c_X5_minds (τ : SX) (a : Nat → Nat) (rws : Nat → Int32) (isv : Int32) (rc : Int32) (nlw : Nat → Int32) (nkd : Nat → Int32) (nbt : Nat → Int32) (nph : Nat → Int32) (ncn : Nat → Int32) (nno : Nat → Int32) (nct : Int32) (nsc : Int32) (nrn : Int32) (nlg : Int32) (ndn : Int32) (nzz : Int32) (sit : Nat → Nat → Int64) (ssr : Nat → Int32) (ssi : Nat → Int32) (x1 : Int32) (x2 : Int32) (x3 : Int32) (x4 : Int32) (hrc0 : 0 ≤ rc.toInt) (hrc : rc.toInt ≤ 10) (hn0 : 0 ≤ nct.toInt) (hn : nct.toInt ≤ 8) (hsi : ∀ i, 0 ≤ (ssi i).toInt ∧ (ssi i).toInt ≤ 40) (sz : Nat) : McI τ yX5_minds wsX5_minds rmX5_minds .int [.ref (a 0), .int x1, .int x2, .int x3, .int x4] ((wX τ a rws isv rc) ++ (wT τ (fun j => a (10 + j)) nlw nkd nbt nph ncn nno nct nsc nrn nlg ndn nzz) ++ (wSS τ a sit ssr ssi)) (fun u : (Nat → Int32) => ((wX τ a rws isv rc) ++ (wT τ (fun j => a (10 + j)) nlw nkd nbt u ncn nno nct nsc nrn nlg ndn nzz) ++ (wSS τ a sit ssr ssi))) (f_X5_minds nph nct sit ssr ssi x1 x2 x3 x4) sz := by
  refine mc_I (cc := cX5_minds) (own := RX5) [(0, .ref (a 0)), (1, .int x1), (2, .int x2), (3, .int x3), (4, .int x4)] rfl (by decide) rfl rfl (Nat.le_of_ble_eq_true rfl) (fun κ C hR => ?_)
  have hiX1 : ∀ w ∈ wsX10, w ∈ wsX5_minds := fun w h => List.mem_cons_of_mem _ (List.mem_append_right _ h)
  have hiX4 : ∀ w ∈ wsX40, w ∈ wsX5_minds := fun w h => List.mem_cons_of_mem _ (List.mem_append_left _ (List.mem_append_right _ h))
  have hiX5 : ∀ w ∈ wsX50, w ∈ wsX5_minds := fun w h => List.mem_cons_of_mem _ (List.mem_append_left _ (List.mem_append_left _ (List.mem_append_right _ h)))
  unfold f_X5_minds at hR
  refine j_iload_n C dX5_minds_0 1 rfl rfl 1 rfl ?_
  refine j_cs0I (na := 1) C dX5_minds_1 4 rfl (c_X5_isSheet τ  x1 ) rfl ggX5_minds_X5_isSheet rfl rfl rfl kX5_minds_iRX5 kX5_minds_m193 kX5_minds_sX5_isSheet qd_X5_isSheet rfl ⟨by decide, by decide⟩ ⟨by decide, by decide⟩ rfl (Nat.le_of_ble_eq_true rfl) (fun r1 u1 hX1 hn1 => ?_)
  obtain rfl := (Prod.mk.inj hX1).1
  refine j_if_eq C dX5_minds_4 43 rfl 7 rfl (fun c2 => ?_) (fun c2 => ?_)
  · rw [if_pos c2] at hR
    refine j_iconst (v := (-1)) C dX5_minds_43 44 rfl (by decide) ?_
    exact Rt.ret (hR) rfl dX5_minds_44
  · rw [if_neg c2] at hR
    refine j_aload_n C dX5_minds_7 8 rfl rfl 0 rfl ?_
    refine j_get C dX5_minds_8 11 rfl hiX5 0 rfl rfl 0 (by decide) rfl kX5_minds_f10 rfl ?_
    refine j_iload_n C dX5_minds_11 12 rfl rfl 3 rfl ?_
    refine j_cvI (na := 1) C dX5_minds_12 15 rfl (c_X4_has τ (fun j => a (10 + j)) nlw nkd nbt nph ncn nno nct nsc nrn nlg ndn nzz x3 ) gX5_minds_X4_has rfl rfl rfl qd_X4_has rfl ⟨by decide, by decide⟩ ⟨by decide, by decide⟩ rfl (Nat.le_of_ble_eq_true rfl) [4, 5, 6, 7, 8, 9, 10] [0, 1, 2, 3, 11, 12, 13, 14, 15, 16, 17, 18] [0, 1, 2, 3, 12, 13, 14, 15, 16, 17, 18, 4, 5, 6, 7, 8, 9, 10, 11] ((wX τ a rws isv rc) ++ (wSS τ a sit ssr ssi)) rfl (by decide) rfl (by decide) (by decide) 4 0 rfl rfl (fun u => ((wX τ a rws isv rc) ++ (wT τ (fun j => a (10 + j)) nlw nkd nbt nph ncn nno nct nsc nrn nlg ndn nzz) ++ (wSS τ a sit ssr ssi))) (fun _ => rfl) (by decide) (fun r3 u3 hX3 hn3 => ?_)
    obtain rfl := (Prod.mk.inj hX3).1
    refine j_if_eq C dX5_minds_15 43 rfl 18 rfl (fun c4 => ?_) (fun c4 => ?_)
    · rw [if_pos c4] at hR
      refine j_iconst (v := (-1)) C dX5_minds_43 44 rfl (by decide) ?_
      exact Rt.ret (hR) rfl dX5_minds_44
    · rw [if_neg c4] at hR
      refine j_iload C dX5_minds_18 20 rfl 4 rfl ?_
      refine j_iconst (v := 0) C dX5_minds_20 21 rfl (by decide) ?_
      refine j_bipush (v := 8) C dX5_minds_21 23 rfl (by decide) ?_
      refine j_cs0I (na := 3) C dX5_minds_23 26 rfl (c_X5_isIn τ  x4 (0 : Int32) (8 : Int32) ) rfl ggX5_minds_X5_isIn rfl rfl rfl kX5_minds_iRX5 kX5_minds_m79 kX5_minds_sX5_isIn qd_X5_isIn rfl ⟨by decide, by decide⟩ ⟨by decide, by decide⟩ rfl (Nat.le_of_ble_eq_true rfl) (fun r5 u5 hX5 hn5 => ?_)
      obtain rfl := (Prod.mk.inj hX5).1
      refine j_if_eq C dX5_minds_26 43 rfl 29 rfl (fun c6 => ?_) (fun c6 => ?_)
      · rw [if_pos c6] at hR
        refine j_iconst (v := (-1)) C dX5_minds_43 44 rfl (by decide) ?_
        exact Rt.ret (hR) rfl dX5_minds_44
      · rw [if_neg c6] at hR
        refine j_iload_n C dX5_minds_29 30 rfl rfl 3 rfl ?_
        refine j_iload C dX5_minds_30 32 rfl 4 rfl ?_
        refine j_iadd C dX5_minds_32 33 rfl ?_
        refine j_aload_n C dX5_minds_33 34 rfl rfl 0 rfl ?_
        refine j_get C dX5_minds_34 37 rfl hiX5 0 rfl rfl 0 (by decide) rfl kX5_minds_f10 rfl ?_
        refine j_get C dX5_minds_37 40 rfl hiX4 4 rfl rfl 6 (by decide) rfl kX5_minds_f76 rfl ?_
        refine j_icmp_le C dX5_minds_40 45 rfl 43 rfl (fun c7 => ?_) (fun c7 => ?_)
        · rw [if_pos c7] at hR
          refine j_aload_n C dX5_minds_45 46 rfl rfl 0 rfl ?_
          refine j_get C dX5_minds_46 49 rfl hiX5 0 rfl rfl 7 (by decide) rfl kX5_minds_f35 rfl ?_
          refine j_iload_n C dX5_minds_49 50 rfl rfl 1 rfl ?_
          rcases four_of (n := x1) (in_sheet c2) with rfl | rfl | rfl | rfl
          · try rw [show (0 : Int32).toNatClampNeg = 0 from rfl] at hR
            refine j_aald (t0 := 2) (b := (a 60)) (N := 4) C dX5_minds_50 51 rfl 2 rfl rfl (by unfold vp_in; decide) (by rfl) ?_
            refine j_astore C dX5_minds_51 53 rfl (by decide) [(5, .ref (a 60)), (0, .ref (a 0)), (1, .int 0), (2, .int x2), (3, .int x3), (4, .int x4)] rfl ?_
            refine j_aload C dX5_minds_53 55 rfl 0 rfl ?_
            refine j_get C dX5_minds_55 58 rfl hiX1 11 rfl rfl 1 (by decide) rfl kX5_minds_f196 rfl ?_
            refine j_iconst (v := (-1)) C dX5_minds_58 59 rfl (by decide) ?_
            refine j_icmp_ne C dX5_minds_59 65 rfl 62 rfl (fun c15 => ?_) (fun c15 => ?_)
            · rw [if_neg c15] at hR
              refine j_aload C dX5_minds_65 67 rfl 0 rfl ?_
              refine j_get C dX5_minds_67 70 rfl hiX1 11 rfl rfl 1 (by decide) rfl kX5_minds_f196 rfl ?_
              refine j_if_eq C dX5_minds_70 76 rfl 73 rfl (fun c16 => ?_) (fun c16 => ?_)
              · rw [if_pos c16] at hR
                refine j_iload_n C dX5_minds_76 77 rfl rfl 3 rfl ?_
                refine j_iconst (v := 0) C dX5_minds_77 78 rfl (by decide) ?_
                refine j_aload C dX5_minds_78 80 rfl 0 rfl ?_
                refine j_get C dX5_minds_80 83 rfl hiX1 11 rfl rfl 2 (by decide) rfl kX5_minds_f206 rfl ?_
                refine j_cs0I (na := 3) C dX5_minds_83 86 rfl (c_X5_isIn τ  x2 (0 : Int32) (ssi 0) ) rfl ggX5_minds_X5_isIn rfl rfl rfl kX5_minds_iRX5 kX5_minds_m79 kX5_minds_sX5_isIn qd_X5_isIn rfl ⟨by decide, by decide⟩ ⟨by decide, by decide⟩ rfl (Nat.le_of_ble_eq_true rfl) (fun r17 u17 hX17 hn17 => ?_)
                obtain rfl := (Prod.mk.inj hX17).1
                refine j_if_eq C dX5_minds_86 101 rfl 89 rfl (fun c18 => ?_) (fun c18 => ?_)
                · rw [if_pos c18] at hR
                  refine j_bipush (v := (-12)) C dX5_minds_101 103 rfl (by decide) ?_
                  exact Rt.ret (hR) rfl dX5_minds_103
                · rw [if_neg c18] at hR
                  refine j_iload_n C dX5_minds_89 90 rfl rfl 3 rfl ?_
                  refine j_iload C dX5_minds_90 92 rfl 5 rfl ?_
                  refine j_iadd C dX5_minds_92 93 rfl ?_
                  refine j_aload C dX5_minds_93 95 rfl 0 rfl ?_
                  refine j_get C dX5_minds_95 98 rfl hiX1 11 rfl rfl 2 (by decide) rfl kX5_minds_f206 rfl ?_
                  refine j_icmp_le C dX5_minds_98 104 rfl 101 rfl (fun c19 => ?_) (fun c19 => ?_)
                  · rw [if_pos c19] at hR
                    refine j_iconst (v := 0) C dX5_minds_104 105 rfl (by decide) ?_
                    refine j_istore C dX5_minds_105 107 rfl (by decide) [(6, .int 0), (5, .ref (a 60)), (0, .ref (a 0)), (1, .int 0), (2, .int x2), (3, .int x3), (4, .int x4)] rfl ?_
                    refine j_lv [2, 3, 4, 5, 6, 1, 0] [(0, .ref (a 0)), (1, .int 0), (2, .int x2), (3, .int x3), (4, .int x4), (5, .ref (a 60)), (6, .int 0)] rfl (L_X5_minds_107_x10 C a rws isv rc nlw nkd nbt ncn nno nct nsc nrn nlg ndn nzz sit ssr ssi x2 x3 x4 hrc0 hrc hn0 hn hsi (md_a c4 c6 c7 hn0 hn) (md_b c18 c6 c19 (hsi _)) (fun (o : Int32 × (Nat → Int32)) => Rt τ κ cX5_minds .int (fun u : (Nat → Int32) => ((wX τ a rws isv rc) ++ (wT τ (fun j => a (10 + j)) nlw nkd nbt u ncn nno nct nsc nrn nlg ndn nzz) ++ (wSS τ a sit ssr ssi))) (pr2 o (fun x6_20 nph_20 => (x4, nph_20)))) (fun x6_20 nph_20  hR => ?_) 300 (0 : Int32) nph (by decide) (by decide) (by decide) hR)
                    rw [pr2_mk x6_20 nph_20] at hR
                    refine j_iload C dX5_minds_152 154 rfl 4 rfl ?_
                    exact Rt.ret (hR) rfl dX5_minds_154
                  · rw [if_neg c19] at hR
                    refine j_bipush (v := (-12)) C dX5_minds_101 103 rfl (by decide) ?_
                    exact Rt.ret (hR) rfl dX5_minds_103
              · rw [if_neg c16] at hR
                refine j_bipush (v := (-13)) C dX5_minds_73 75 rfl (by decide) ?_
                exact Rt.ret (hR) rfl dX5_minds_75
            · rw [if_pos c15] at hR
              refine j_bipush (v := (-11)) C dX5_minds_62 64 rfl (by decide) ?_
              exact Rt.ret (hR) rfl dX5_minds_64
          · try rw [show (1 : Int32).toNatClampNeg = 1 from rfl] at hR
            refine j_aald (t0 := 2) (b := (a 62)) (N := 4) C dX5_minds_50 51 rfl 2 rfl rfl (by unfold vp_in; decide) (by rfl) ?_
            refine j_astore C dX5_minds_51 53 rfl (by decide) [(5, .ref (a 62)), (0, .ref (a 0)), (1, .int 1), (2, .int x2), (3, .int x3), (4, .int x4)] rfl ?_
            refine j_aload C dX5_minds_53 55 rfl 0 rfl ?_
            refine j_get C dX5_minds_55 58 rfl hiX1 13 rfl rfl 1 (by decide) rfl kX5_minds_f196 rfl ?_
            refine j_iconst (v := (-1)) C dX5_minds_58 59 rfl (by decide) ?_
            refine j_icmp_ne C dX5_minds_59 65 rfl 62 rfl (fun c22 => ?_) (fun c22 => ?_)
            · rw [if_neg c22] at hR
              refine j_aload C dX5_minds_65 67 rfl 0 rfl ?_
              refine j_get C dX5_minds_67 70 rfl hiX1 13 rfl rfl 1 (by decide) rfl kX5_minds_f196 rfl ?_
              refine j_if_eq C dX5_minds_70 76 rfl 73 rfl (fun c23 => ?_) (fun c23 => ?_)
              · rw [if_pos c23] at hR
                refine j_iload_n C dX5_minds_76 77 rfl rfl 3 rfl ?_
                refine j_iconst (v := 0) C dX5_minds_77 78 rfl (by decide) ?_
                refine j_aload C dX5_minds_78 80 rfl 0 rfl ?_
                refine j_get C dX5_minds_80 83 rfl hiX1 13 rfl rfl 2 (by decide) rfl kX5_minds_f206 rfl ?_
                refine j_cs0I (na := 3) C dX5_minds_83 86 rfl (c_X5_isIn τ  x2 (0 : Int32) (ssi 1) ) rfl ggX5_minds_X5_isIn rfl rfl rfl kX5_minds_iRX5 kX5_minds_m79 kX5_minds_sX5_isIn qd_X5_isIn rfl ⟨by decide, by decide⟩ ⟨by decide, by decide⟩ rfl (Nat.le_of_ble_eq_true rfl) (fun r24 u24 hX24 hn24 => ?_)
                obtain rfl := (Prod.mk.inj hX24).1
                refine j_if_eq C dX5_minds_86 101 rfl 89 rfl (fun c25 => ?_) (fun c25 => ?_)
                · rw [if_pos c25] at hR
                  refine j_bipush (v := (-12)) C dX5_minds_101 103 rfl (by decide) ?_
                  exact Rt.ret (hR) rfl dX5_minds_103
                · rw [if_neg c25] at hR
                  refine j_iload_n C dX5_minds_89 90 rfl rfl 3 rfl ?_
                  refine j_iload C dX5_minds_90 92 rfl 5 rfl ?_
                  refine j_iadd C dX5_minds_92 93 rfl ?_
                  refine j_aload C dX5_minds_93 95 rfl 0 rfl ?_
                  refine j_get C dX5_minds_95 98 rfl hiX1 13 rfl rfl 2 (by decide) rfl kX5_minds_f206 rfl ?_
                  refine j_icmp_le C dX5_minds_98 104 rfl 101 rfl (fun c26 => ?_) (fun c26 => ?_)
                  · rw [if_pos c26] at hR
                    refine j_iconst (v := 0) C dX5_minds_104 105 rfl (by decide) ?_
                    refine j_istore C dX5_minds_105 107 rfl (by decide) [(6, .int 0), (5, .ref (a 62)), (0, .ref (a 0)), (1, .int 1), (2, .int x2), (3, .int x3), (4, .int x4)] rfl ?_
                    refine j_lv [2, 3, 4, 5, 6, 1, 0] [(0, .ref (a 0)), (1, .int 1), (2, .int x2), (3, .int x3), (4, .int x4), (5, .ref (a 62)), (6, .int 0)] rfl (L_X5_minds_107_x11 C a rws isv rc nlw nkd nbt ncn nno nct nsc nrn nlg ndn nzz sit ssr ssi x2 x3 x4 hrc0 hrc hn0 hn hsi (md_a c4 c6 c7 hn0 hn) (md_b c25 c6 c26 (hsi _)) (fun (o : Int32 × (Nat → Int32)) => Rt τ κ cX5_minds .int (fun u : (Nat → Int32) => ((wX τ a rws isv rc) ++ (wT τ (fun j => a (10 + j)) nlw nkd nbt u ncn nno nct nsc nrn nlg ndn nzz) ++ (wSS τ a sit ssr ssi))) (pr2 o (fun x6_27 nph_27 => (x4, nph_27)))) (fun x6_27 nph_27  hR => ?_) 300 (0 : Int32) nph (by decide) (by decide) (by decide) hR)
                    rw [pr2_mk x6_27 nph_27] at hR
                    refine j_iload C dX5_minds_152 154 rfl 4 rfl ?_
                    exact Rt.ret (hR) rfl dX5_minds_154
                  · rw [if_neg c26] at hR
                    refine j_bipush (v := (-12)) C dX5_minds_101 103 rfl (by decide) ?_
                    exact Rt.ret (hR) rfl dX5_minds_103
              · rw [if_neg c23] at hR
                refine j_bipush (v := (-13)) C dX5_minds_73 75 rfl (by decide) ?_
                exact Rt.ret (hR) rfl dX5_minds_75
            · rw [if_pos c22] at hR
              refine j_bipush (v := (-11)) C dX5_minds_62 64 rfl (by decide) ?_
              exact Rt.ret (hR) rfl dX5_minds_64
          · try rw [show (2 : Int32).toNatClampNeg = 2 from rfl] at hR
            refine j_aald (t0 := 2) (b := (a 64)) (N := 4) C dX5_minds_50 51 rfl 2 rfl rfl (by unfold vp_in; decide) (by rfl) ?_
            refine j_astore C dX5_minds_51 53 rfl (by decide) [(5, .ref (a 64)), (0, .ref (a 0)), (1, .int 2), (2, .int x2), (3, .int x3), (4, .int x4)] rfl ?_
            refine j_aload C dX5_minds_53 55 rfl 0 rfl ?_
            refine j_get C dX5_minds_55 58 rfl hiX1 15 rfl rfl 1 (by decide) rfl kX5_minds_f196 rfl ?_
            refine j_iconst (v := (-1)) C dX5_minds_58 59 rfl (by decide) ?_
            refine j_icmp_ne C dX5_minds_59 65 rfl 62 rfl (fun c29 => ?_) (fun c29 => ?_)
            · rw [if_neg c29] at hR
              refine j_aload C dX5_minds_65 67 rfl 0 rfl ?_
              refine j_get C dX5_minds_67 70 rfl hiX1 15 rfl rfl 1 (by decide) rfl kX5_minds_f196 rfl ?_
              refine j_if_eq C dX5_minds_70 76 rfl 73 rfl (fun c30 => ?_) (fun c30 => ?_)
              · rw [if_pos c30] at hR
                refine j_iload_n C dX5_minds_76 77 rfl rfl 3 rfl ?_
                refine j_iconst (v := 0) C dX5_minds_77 78 rfl (by decide) ?_
                refine j_aload C dX5_minds_78 80 rfl 0 rfl ?_
                refine j_get C dX5_minds_80 83 rfl hiX1 15 rfl rfl 2 (by decide) rfl kX5_minds_f206 rfl ?_
                refine j_cs0I (na := 3) C dX5_minds_83 86 rfl (c_X5_isIn τ  x2 (0 : Int32) (ssi 2) ) rfl ggX5_minds_X5_isIn rfl rfl rfl kX5_minds_iRX5 kX5_minds_m79 kX5_minds_sX5_isIn qd_X5_isIn rfl ⟨by decide, by decide⟩ ⟨by decide, by decide⟩ rfl (Nat.le_of_ble_eq_true rfl) (fun r31 u31 hX31 hn31 => ?_)
                obtain rfl := (Prod.mk.inj hX31).1
                refine j_if_eq C dX5_minds_86 101 rfl 89 rfl (fun c32 => ?_) (fun c32 => ?_)
                · rw [if_pos c32] at hR
                  refine j_bipush (v := (-12)) C dX5_minds_101 103 rfl (by decide) ?_
                  exact Rt.ret (hR) rfl dX5_minds_103
                · rw [if_neg c32] at hR
                  refine j_iload_n C dX5_minds_89 90 rfl rfl 3 rfl ?_
                  refine j_iload C dX5_minds_90 92 rfl 5 rfl ?_
                  refine j_iadd C dX5_minds_92 93 rfl ?_
                  refine j_aload C dX5_minds_93 95 rfl 0 rfl ?_
                  refine j_get C dX5_minds_95 98 rfl hiX1 15 rfl rfl 2 (by decide) rfl kX5_minds_f206 rfl ?_
                  refine j_icmp_le C dX5_minds_98 104 rfl 101 rfl (fun c33 => ?_) (fun c33 => ?_)
                  · rw [if_pos c33] at hR
                    refine j_iconst (v := 0) C dX5_minds_104 105 rfl (by decide) ?_
                    refine j_istore C dX5_minds_105 107 rfl (by decide) [(6, .int 0), (5, .ref (a 64)), (0, .ref (a 0)), (1, .int 2), (2, .int x2), (3, .int x3), (4, .int x4)] rfl ?_
                    refine j_lv [2, 3, 4, 5, 6, 1, 0] [(0, .ref (a 0)), (1, .int 2), (2, .int x2), (3, .int x3), (4, .int x4), (5, .ref (a 64)), (6, .int 0)] rfl (L_X5_minds_107_x12 C a rws isv rc nlw nkd nbt ncn nno nct nsc nrn nlg ndn nzz sit ssr ssi x2 x3 x4 hrc0 hrc hn0 hn hsi (md_a c4 c6 c7 hn0 hn) (md_b c32 c6 c33 (hsi _)) (fun (o : Int32 × (Nat → Int32)) => Rt τ κ cX5_minds .int (fun u : (Nat → Int32) => ((wX τ a rws isv rc) ++ (wT τ (fun j => a (10 + j)) nlw nkd nbt u ncn nno nct nsc nrn nlg ndn nzz) ++ (wSS τ a sit ssr ssi))) (pr2 o (fun x6_34 nph_34 => (x4, nph_34)))) (fun x6_34 nph_34  hR => ?_) 300 (0 : Int32) nph (by decide) (by decide) (by decide) hR)
                    rw [pr2_mk x6_34 nph_34] at hR
                    refine j_iload C dX5_minds_152 154 rfl 4 rfl ?_
                    exact Rt.ret (hR) rfl dX5_minds_154
                  · rw [if_neg c33] at hR
                    refine j_bipush (v := (-12)) C dX5_minds_101 103 rfl (by decide) ?_
                    exact Rt.ret (hR) rfl dX5_minds_103
              · rw [if_neg c30] at hR
                refine j_bipush (v := (-13)) C dX5_minds_73 75 rfl (by decide) ?_
                exact Rt.ret (hR) rfl dX5_minds_75
            · rw [if_pos c29] at hR
              refine j_bipush (v := (-11)) C dX5_minds_62 64 rfl (by decide) ?_
              exact Rt.ret (hR) rfl dX5_minds_64
          · try rw [show (3 : Int32).toNatClampNeg = 3 from rfl] at hR
            refine j_aald (t0 := 2) (b := (a 66)) (N := 4) C dX5_minds_50 51 rfl 2 rfl rfl (by unfold vp_in; decide) (by rfl) ?_
            refine j_astore C dX5_minds_51 53 rfl (by decide) [(5, .ref (a 66)), (0, .ref (a 0)), (1, .int 3), (2, .int x2), (3, .int x3), (4, .int x4)] rfl ?_
            refine j_aload C dX5_minds_53 55 rfl 0 rfl ?_
            refine j_get C dX5_minds_55 58 rfl hiX1 17 rfl rfl 1 (by decide) rfl kX5_minds_f196 rfl ?_
            refine j_iconst (v := (-1)) C dX5_minds_58 59 rfl (by decide) ?_
            refine j_icmp_ne C dX5_minds_59 65 rfl 62 rfl (fun c36 => ?_) (fun c36 => ?_)
            · rw [if_neg c36] at hR
              refine j_aload C dX5_minds_65 67 rfl 0 rfl ?_
              refine j_get C dX5_minds_67 70 rfl hiX1 17 rfl rfl 1 (by decide) rfl kX5_minds_f196 rfl ?_
              refine j_if_eq C dX5_minds_70 76 rfl 73 rfl (fun c37 => ?_) (fun c37 => ?_)
              · rw [if_pos c37] at hR
                refine j_iload_n C dX5_minds_76 77 rfl rfl 3 rfl ?_
                refine j_iconst (v := 0) C dX5_minds_77 78 rfl (by decide) ?_
                refine j_aload C dX5_minds_78 80 rfl 0 rfl ?_
                refine j_get C dX5_minds_80 83 rfl hiX1 17 rfl rfl 2 (by decide) rfl kX5_minds_f206 rfl ?_
                refine j_cs0I (na := 3) C dX5_minds_83 86 rfl (c_X5_isIn τ  x2 (0 : Int32) (ssi 3) ) rfl ggX5_minds_X5_isIn rfl rfl rfl kX5_minds_iRX5 kX5_minds_m79 kX5_minds_sX5_isIn qd_X5_isIn rfl ⟨by decide, by decide⟩ ⟨by decide, by decide⟩ rfl (Nat.le_of_ble_eq_true rfl) (fun r38 u38 hX38 hn38 => ?_)
                obtain rfl := (Prod.mk.inj hX38).1
                refine j_if_eq C dX5_minds_86 101 rfl 89 rfl (fun c39 => ?_) (fun c39 => ?_)
                · rw [if_pos c39] at hR
                  refine j_bipush (v := (-12)) C dX5_minds_101 103 rfl (by decide) ?_
                  exact Rt.ret (hR) rfl dX5_minds_103
                · rw [if_neg c39] at hR
                  refine j_iload_n C dX5_minds_89 90 rfl rfl 3 rfl ?_
                  refine j_iload C dX5_minds_90 92 rfl 5 rfl ?_
                  refine j_iadd C dX5_minds_92 93 rfl ?_
                  refine j_aload C dX5_minds_93 95 rfl 0 rfl ?_
                  refine j_get C dX5_minds_95 98 rfl hiX1 17 rfl rfl 2 (by decide) rfl kX5_minds_f206 rfl ?_
                  refine j_icmp_le C dX5_minds_98 104 rfl 101 rfl (fun c40 => ?_) (fun c40 => ?_)
                  · rw [if_pos c40] at hR
                    refine j_iconst (v := 0) C dX5_minds_104 105 rfl (by decide) ?_
                    refine j_istore C dX5_minds_105 107 rfl (by decide) [(6, .int 0), (5, .ref (a 66)), (0, .ref (a 0)), (1, .int 3), (2, .int x2), (3, .int x3), (4, .int x4)] rfl ?_
                    refine j_lv [2, 3, 4, 5, 6, 1, 0] [(0, .ref (a 0)), (1, .int 3), (2, .int x2), (3, .int x3), (4, .int x4), (5, .ref (a 66)), (6, .int 0)] rfl (L_X5_minds_107_x13 C a rws isv rc nlw nkd nbt ncn nno nct nsc nrn nlg ndn nzz sit ssr ssi x2 x3 x4 hrc0 hrc hn0 hn hsi (md_a c4 c6 c7 hn0 hn) (md_b c39 c6 c40 (hsi _)) (fun (o : Int32 × (Nat → Int32)) => Rt τ κ cX5_minds .int (fun u : (Nat → Int32) => ((wX τ a rws isv rc) ++ (wT τ (fun j => a (10 + j)) nlw nkd nbt u ncn nno nct nsc nrn nlg ndn nzz) ++ (wSS τ a sit ssr ssi))) (pr2 o (fun x6_41 nph_41 => (x4, nph_41)))) (fun x6_41 nph_41  hR => ?_) 300 (0 : Int32) nph (by decide) (by decide) (by decide) hR)
                    rw [pr2_mk x6_41 nph_41] at hR
                    refine j_iload C dX5_minds_152 154 rfl 4 rfl ?_
                    exact Rt.ret (hR) rfl dX5_minds_154
                  · rw [if_neg c40] at hR
                    refine j_bipush (v := (-12)) C dX5_minds_101 103 rfl (by decide) ?_
                    exact Rt.ret (hR) rfl dX5_minds_103
              · rw [if_neg c37] at hR
                refine j_bipush (v := (-13)) C dX5_minds_73 75 rfl (by decide) ?_
                exact Rt.ret (hR) rfl dX5_minds_75
            · rw [if_pos c36] at hR
              refine j_bipush (v := (-11)) C dX5_minds_62 64 rfl (by decide) ?_
              exact Rt.ret (hR) rfl dX5_minds_64
        · rw [if_neg c7] at hR
          refine j_iconst (v := (-1)) C dX5_minds_43 44 rfl (by decide) ?_
          exact Rt.ret (hR) rfl dX5_minds_44

theorem feed_n {x : Int32} (c1 : ¬ x < 1) (c2 : x ≤ 8) : x.toInt ≤ 8 := i32_le.mp c2
-- X5_feed main tape
def l_X5_feed_34 (x1 : Int64) (x3 : Int32) : Nat → Int32 → (Nat → Int32) → Int32 → Int32 × (Nat → Int32) × Int32
  | 0, x4, bs, tz => (x4, bs, tz)
  | N + 1, x4, bs, tz => if (x3 ≤ x4) then (x4, bs, tz) else (pr2 (f_X3_append bs tz (((((x1.toUInt64 >>> ((((8 : Int32) * x4) : Int32).toInt64.toUInt64 &&& Int64.toUInt64 63)).toInt64) : Int64).toInt32) &&& 255)) (fun bs_6 tz_6 => l_X5_feed_34 x1 x3 N (x4 + 1) bs_6 tz_6))
def f_X5_feed (bs : Nat → Int32) (tz : Int32) (x1 : Int64) (x3 : Int32) : Int32 × (Nat → Int32) × Int32 := if (x3 < 1) then (((-1) : Int32), bs, tz) else (if (x3 ≤ 8) then (if ((tz + x3) ≤ 200) then (pr3 (l_X5_feed_34 x1 x3 300 (0 : Int32) bs tz) (fun x4_4 bs_4 tz_4 => (tz_4, bs_4, tz_4))) else (((-2) : Int32), bs, tz)) else (((-1) : Int32), bs, tz))
theorem kX5_feed_f25 : Cond.fieldLink RX5 25 "TwoMinutes" "tape" "LTwoMinutes$Tape;" ∈ wsX5_feed := by decide +kernel
theorem kX5_feed_f54 : Cond.fieldLink RX5 54 "TwoMinutes$Tape" "size" "I" ∈ wsX5_feed := by decide +kernel
theorem qd_X5_feed : yX5_feed.cls = RX5 ∧ yX5_feed.cls ≠ "java/lang/invoke/MethodHandle" ∧ yX5_feed.cls ≠ "java/lang/invoke/VarHandle" ∧ (parseMethodDescriptor yX5_feed.desc).map (fun d => d.parameters.length) = some 2 := by decide +kernel
abbrev rmX5_feed : Room := { frames := 1, cells := 0, slots := 0, locals := 21 }
set_option maxHeartbeats 4000000 in
set_option maxRecDepth 100000 in
theorem L_X5_feed_34 {τ : SX} {κ : KX} (C : Cx τ κ cX5_feed RX5 wsX5_feed rmX5_feed 5) (a : Nat → Nat) (rws : Nat → Int32) (isv : Int32) (rc : Int32) (so : Int32) (fr : Int32) (tt : Int32) (ft : Int32) (x1 : Int64) (x3 : Int32) (hrc0 : 0 ≤ rc.toInt) (hrc : rc.toInt ≤ 10) (hx : x3.toInt ≤ 8) (Φ : Int32 × (Nat → Int32) × Int32 → Prop) (hE : ∀ (x4 : Int32) (bs : Nat → Int32) (tz : Int32), Φ (x4, bs, tz) → J τ κ 0 0 ((wX τ a rws isv rc) ++ (wP τ (fun j => a (40 + j)) bs tz so fr tt ft)) [(0, .ref (a 0)), (1, .long x1), (3, .int x3), (4, .int x4)] 65 []) : ∀ (N : Nat) (x4 : Int32) (bs : Nat → Int32) (tz : Int32), ((8 : Int) - x4.toInt).toNat < N → (0 ≤ x4.toInt) → (x4.toInt ≤ 8) → (0 ≤ tz.toInt) → (tz.toInt ≤ 200) → Φ (l_X5_feed_34 x1 x3 N x4 bs tz) → J τ κ 0 0 ((wX τ a rws isv rc) ++ (wP τ (fun j => a (40 + j)) bs tz so fr tt ft)) [(0, .ref (a 0)), (1, .long x1), (3, .int x3), (4, .int x4)] 34 [] := by
  have hiX3 : ∀ w ∈ wsX30, w ∈ wsX5_feed := fun w h => List.mem_cons_of_mem _ (List.mem_append_right _ h)
  have hiX5 : ∀ w ∈ wsX50, w ∈ wsX5_feed := fun w h => List.mem_cons_of_mem _ (List.mem_append_left _ (List.mem_append_right _ h))
  intro N
  induction N with
  | zero => intro x4 bs tz hm; exact absurd hm (Nat.not_lt_zero _)
  | succ N ih =>
    intro x4 bs tz hm h0 h1 htz0 htz hR
    rw [l_X5_feed_34] at hR
    refine j_iload C dX5_feed_34 36 rfl 3 rfl ?_
    refine j_iload_n C dX5_feed_36 37 rfl rfl 2 rfl ?_
    refine j_icmp_ge C dX5_feed_37 65 rfl 40 rfl (fun c5 => ?_) (fun c5 => ?_)
    · rw [if_pos c5] at hR
      exact j_lv [0, 1, 2, 3] [(0, .ref (a 0)), (1, .long x1), (3, .int x3), (4, .int x4)] rfl (hE _ _ _  hR)
    · rw [if_neg c5] at hR
      have hs := cnt_step (B := 8) h0 (hx) (by decide) c5
      refine j_aload_n C dX5_feed_40 41 rfl rfl 0 rfl ?_
      refine j_get C dX5_feed_41 44 rfl hiX5 0 rfl rfl 4 (by decide) rfl kX5_feed_f25 rfl ?_
      refine j_lload_n C dX5_feed_44 45 rfl rfl 1 rfl ?_
      refine j_bipush (v := 8) C dX5_feed_45 47 rfl (by decide) ?_
      refine j_iload C dX5_feed_47 49 rfl 3 rfl ?_
      refine j_imul C dX5_feed_49 50 rfl ?_
      refine j_lushr C dX5_feed_50 51 rfl ?_
      refine j_l2i C dX5_feed_51 52 rfl ?_
      refine j_sipush (v := 255) C dX5_feed_52 55 rfl (by decide) ?_
      refine j_iand C dX5_feed_55 56 rfl ?_
      refine j_cvV (na := 1) C dX5_feed_56 59 rfl (c_X3_append τ (fun j => a (40 + j)) bs tz so fr tt ft (((((x1.toUInt64 >>> ((((8 : Int32) * x4) : Int32).toInt64.toUInt64 &&& Int64.toUInt64 63)).toInt64) : Int64).toInt32) &&& 255) (by first | assumption | (unfold vp_in; decide)) (by first | assumption | (unfold vp_in; decide))) gX5_feed_X3_append rfl rfl rfl qd_X3_append rfl ⟨by decide, by decide⟩ ⟨by decide, by decide⟩ rfl (Nat.le_of_ble_eq_true rfl) [4, 5] [0, 1, 2, 3] [0, 1, 2, 3, 4, 5] ((wX τ a rws isv rc)) rfl (by decide) rfl (by decide) (by decide) 3 0 rfl rfl (fun u => ((wX τ a rws isv rc) ++ (wP τ (fun j => a (40 + j)) u.1 u.2 so fr tt ft))) (fun _ => rfl) (by decide) (fun u6 hX6 => ?_)
      obtain ⟨bs_6, tz_6⟩ := u6
      rw [hX6] at hR; rw [pr2_mk bs_6 tz_6] at hR
      obtain ⟨ha6, hb6⟩ := app_tz hX6 (by assumption) (by assumption)
      refine j_iinc (v := (x4 + 1)) C dX5_feed_59 62 rfl 3 rfl rfl (by decide) [(4, .int (x4 + 1)), (0, .ref (a 0)), (1, .long x1), (3, .int x3)] rfl ?_
      refine j_goto C dX5_feed_62 34 rfl ?_
      exact j_lv [1, 2, 3, 0] [(0, .ref (a 0)), (1, .long x1), (3, .int x3), (4, .int (x4 + 1))] rfl (ih _ _ _ (by have := hs.2.2.1; omega) hs.1 hs.2.1 (by assumption) (by assumption) hR)
set_option maxHeartbeats 4000000 in
set_option maxRecDepth 100000 in
theorem c_X5_feed (τ : SX) (a : Nat → Nat) (rws : Nat → Int32) (isv : Int32) (rc : Int32) (bs : Nat → Int32) (tz : Int32) (so : Int32) (fr : Int32) (tt : Int32) (ft : Int32) (x1 : Int64) (x3 : Int32) (hrc0 : 0 ≤ rc.toInt) (hrc : rc.toInt ≤ 10) (htz0 : 0 ≤ tz.toInt) (htz : tz.toInt ≤ 200) (sz : Nat) : McI τ yX5_feed wsX5_feed rmX5_feed .int [.ref (a 0), .long x1, .int x3] ((wX τ a rws isv rc) ++ (wP τ (fun j => a (40 + j)) bs tz so fr tt ft)) (fun u : (Nat → Int32) × Int32 => ((wX τ a rws isv rc) ++ (wP τ (fun j => a (40 + j)) u.1 u.2 so fr tt ft))) (f_X5_feed bs tz x1 x3) sz := by
  refine mc_I (cc := cX5_feed) (own := RX5) [(0, .ref (a 0)), (1, .long x1), (3, .int x3)] rfl (by decide) rfl rfl (Nat.le_of_ble_eq_true rfl) (fun κ C hR => ?_)
  have hiX3 : ∀ w ∈ wsX30, w ∈ wsX5_feed := fun w h => List.mem_cons_of_mem _ (List.mem_append_right _ h)
  have hiX5 : ∀ w ∈ wsX50, w ∈ wsX5_feed := fun w h => List.mem_cons_of_mem _ (List.mem_append_left _ (List.mem_append_right _ h))
  unfold f_X5_feed at hR
  refine j_iload_n C dX5_feed_0 1 rfl rfl 2 rfl ?_
  refine j_iconst (v := 1) C dX5_feed_1 2 rfl (by decide) ?_
  refine j_icmp_lt C dX5_feed_2 11 rfl 5 rfl (fun c1 => ?_) (fun c1 => ?_)
  · rw [if_pos c1] at hR
    refine j_iconst (v := (-1)) C dX5_feed_11 12 rfl (by decide) ?_
    exact Rt.ret (hR) rfl dX5_feed_12
  · rw [if_neg c1] at hR
    refine j_iload_n C dX5_feed_5 6 rfl rfl 2 rfl ?_
    refine j_bipush (v := 8) C dX5_feed_6 8 rfl (by decide) ?_
    refine j_icmp_le C dX5_feed_8 13 rfl 11 rfl (fun c2 => ?_) (fun c2 => ?_)
    · rw [if_pos c2] at hR
      refine j_aload_n C dX5_feed_13 14 rfl rfl 0 rfl ?_
      refine j_get C dX5_feed_14 17 rfl hiX5 0 rfl rfl 4 (by decide) rfl kX5_feed_f25 rfl ?_
      refine j_get C dX5_feed_17 20 rfl hiX3 4 rfl rfl 1 (by decide) rfl kX5_feed_f54 rfl ?_
      refine j_iload_n C dX5_feed_20 21 rfl rfl 2 rfl ?_
      refine j_iadd C dX5_feed_21 22 rfl ?_
      refine j_sipush (v := 200) C dX5_feed_22 25 rfl (by decide) ?_
      refine j_icmp_le C dX5_feed_25 31 rfl 28 rfl (fun c3 => ?_) (fun c3 => ?_)
      · rw [if_pos c3] at hR
        refine j_iconst (v := 0) C dX5_feed_31 32 rfl (by decide) ?_
        refine j_istore C dX5_feed_32 34 rfl (by decide) [(4, .int 0), (0, .ref (a 0)), (1, .long x1), (3, .int x3)] rfl ?_
        refine j_lv [1, 2, 3, 0] [(0, .ref (a 0)), (1, .long x1), (3, .int x3), (4, .int 0)] rfl (L_X5_feed_34 C a rws isv rc so fr tt ft x1 x3 hrc0 hrc (feed_n c1 c2) (fun (o : Int32 × (Nat → Int32) × Int32) => Rt τ κ cX5_feed .int (fun u : (Nat → Int32) × Int32 => ((wX τ a rws isv rc) ++ (wP τ (fun j => a (40 + j)) u.1 u.2 so fr tt ft))) (pr3 o (fun x4_4 bs_4 tz_4 => (tz_4, bs_4, tz_4)))) (fun x4_4 bs_4 tz_4  hR => ?_) 300 (0 : Int32) bs tz (by decide) (by decide) (by decide) htz0 htz hR)
        rw [pr3_mk x4_4 bs_4 tz_4] at hR
        refine j_aload_n C dX5_feed_65 66 rfl rfl 0 rfl ?_
        refine j_get C dX5_feed_66 69 rfl hiX5 0 rfl rfl 4 (by decide) rfl kX5_feed_f25 rfl ?_
        refine j_get C dX5_feed_69 72 rfl hiX3 4 rfl rfl 1 (by decide) rfl kX5_feed_f54 rfl ?_
        exact Rt.ret (hR) rfl dX5_feed_72
      · rw [if_neg c3] at hR
        refine j_bipush (v := (-2)) C dX5_feed_28 30 rfl (by decide) ?_
        exact Rt.ret (hR) rfl dX5_feed_30
    · rw [if_neg c2] at hR
      refine j_iconst (v := (-1)) C dX5_feed_11 12 rfl (by decide) ?_
      exact Rt.ret (hR) rfl dX5_feed_12

