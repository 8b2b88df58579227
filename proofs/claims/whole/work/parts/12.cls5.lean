theorem in_kind {x : Int32} (c : ¬ f_X5_isKind x = 0) : vp_in x 6 := by
  have h1 := in_isIn (x := x) (l := 0) (h := 5) c
  rw [show (0 : Int32).toInt = 0 from rfl, show (5 : Int32).toInt = 5 from rfl] at h1
  exact vpI h1.1 (by omega)
theorem app_tz {bs bs2 : Nat → Int32} {tz tz2 x : Int32} (h : f_X3_append bs tz x = (bs2, tz2)) (h0 : 0 ≤ tz.toInt) (h1 : tz.toInt ≤ 200) : 0 ≤ tz2.toInt ∧ tz2.toInt ≤ 200 := by
  unfold f_X3_append at h
  by_cases c : (200 : Int32) ≤ tz
  · rw [if_pos c] at h
    rw [← (Prod.mk.inj h).2]; exact ⟨h0, h1⟩
  · rw [if_neg c] at h
    have hs := cnt_step (B := 200) h0 (by decide) (by decide) c
    rw [← (Prod.mk.inj h).2]; exact ⟨hs.1, hs.2.1⟩
theorem add_in {x y : Int32} {n : Nat} (h0 : 0 ≤ x.toInt) (h1 : 0 ≤ y.toInt) (h : x.toInt + y.toInt < n) (hn : n < 1000) : vp_in (x + y) n := by
  have e : (x + y).toInt = x.toInt + y.toInt := i32_addE (by omega) (by omega)
  exact vpI (by omega) (by omega)
theorem md_a {nct x3 x4 : Int32} (c1 : ¬ f_X4_has nct x3 = 0) (c2 : ¬ f_X5_isIn x4 0 8 = 0) (c3 : x3 + x4 ≤ nct) (h0 : 0 ≤ nct.toInt) (h : nct.toInt ≤ 8) : 0 ≤ x3.toInt ∧ x3.toInt + x4.toInt ≤ 8 ∧ x4.toInt ≤ 8 := by
  have a1 := in_hasI c1 h0
  have a2 := in_isIn c2
  rw [show (0 : Int32).toInt = 0 from rfl, show (8 : Int32).toInt = 8 from rfl] at a2
  have e : (x3 + x4).toInt = x3.toInt + x4.toInt := i32_addE (by omega) (by omega)
  rw [i32_le] at c3
  omega
theorem md_b {sz x2 x4 : Int32} (c1 : ¬ f_X5_isIn x2 0 sz = 0) (c2 : ¬ f_X5_isIn x4 0 8 = 0) (c3 : x2 + x4 ≤ sz) (h : 0 ≤ sz.toInt ∧ sz.toInt ≤ 40) : 0 ≤ x2.toInt ∧ x2.toInt + x4.toInt ≤ 40 := by
  have a1 := in_isIn c1
  have a2 := in_isIn c2
  rw [show (0 : Int32).toInt = 0 from rfl] at a1
  rw [show (0 : Int32).toInt = 0 from rfl, show (8 : Int32).toInt = 8 from rfl] at a2
  have e : (x2 + x4).toInt = x2.toInt + x4.toInt := i32_addE (by omega) (by omega)
  rw [i32_le] at c3
  omega

-- X5_isUnder
def l_X5_isUnder_4 (x1 : Int32) : Nat → Int32 → Int32 → (Int32 × Int32) ⊕ (Int32)
  | 0, x2, x3 => Sum.inl (x2, x3)
  | N + 1, x2, x3 => if (6 ≤ x3) then (Sum.inl (x2, x3)) else (if ((f_X5_isKind x2) = 0) then (Sum.inl (x2, x3)) else (if (x2 = x1) then (Sum.inr (1 : Int32)) else (l_X5_isUnder_4 x1 N (saG 3 (x2).toNatClampNeg) (x3 + 1))))
def f_X5_isUnder (x0 : Int32) (x1 : Int32) : Int32 := sm (l_X5_isUnder_4 x1 300 x0 (0 : Int32)) (fun (z1 : Int32 × Int32) => pr2 z1 (fun x2_1 x3_1 => (0 : Int32))) (fun X => X)
theorem kX5_isUnder_iRX5 : Cond.initialized yX5_isKind.cls ∈ wsX5_isUnder := by decide +kernel
theorem kX5_isUnder_sX5_isKind : Cond.static yX5_isKind ∈ wsX5_isUnder := by decide +kernel
theorem kX5_isUnder_m92 : Cond.methodLink RX5 92 yX5_isKind ∈ wsX5_isUnder := by decide +kernel
theorem kX5_isUnder_f280 : Cond.fieldLink RX5 280 "TwoMinutes" "ABOVE" "[I" ∈ wsX5_isUnder := by decide +kernel
theorem qd_X5_isUnder : yX5_isUnder.cls ≠ "java/lang/invoke/MethodHandle" ∧ yX5_isUnder.cls ≠ "java/lang/invoke/VarHandle" ∧ (parseMethodDescriptor yX5_isUnder.desc).map (fun d => d.parameters.length) = some 2 := by decide +kernel
abbrev rmX5_isUnder : Room := { frames := 2, cells := 0, slots := 0, locals := 42 }
set_option maxHeartbeats 4000000 in
set_option maxRecDepth 100000 in
theorem L_X5_isUnder_4 {τ : SX} {κ : KX} (C : Cx τ κ cX5_isUnder RX5 wsX5_isUnder rmX5_isUnder 4) (x0 : Int32) (x1 : Int32) (Φ : (Int32 × Int32) ⊕ (Int32) → Prop) (hE : ∀ (x2 : Int32) (x3 : Int32), Φ (Sum.inl (x2, x3)) → J τ κ 0 0 [] [(0, .int x0), (1, .int x1), (2, .int x2), (3, .int x3)] 36 []) (hRet : ∀ X, Φ (Sum.inr X) → Rt τ κ cX5_isUnder .boolean (fun _ : Unit => []) ((X, ()))) : ∀ (N : Nat) (x2 : Int32) (x3 : Int32), ((6 : Int) - x3.toInt).toNat < N → (0 ≤ x3.toInt) → (x3.toInt ≤ 6) → Φ (l_X5_isUnder_4 x1 N x2 x3) → J τ κ 0 0 [] [(0, .int x0), (1, .int x1), (2, .int x2), (3, .int x3)] 4 [] := by
  intro N
  induction N with
  | zero => intro x2 x3 hm; exact absurd hm (Nat.not_lt_zero _)
  | succ N ih =>
    intro x2 x3 hm h0 h1 hR
    rw [l_X5_isUnder_4] at hR
    refine j_iload_n C dX5_isUnder_4 5 rfl rfl 3 rfl ?_
    refine j_bipush (v := 6) C dX5_isUnder_5 7 rfl (by decide) ?_
    refine j_icmp_ge C dX5_isUnder_7 36 rfl 10 rfl (fun c2 => ?_) (fun c2 => ?_)
    · rw [if_pos c2] at hR
      exact j_lv [0, 1, 2, 3] [(0, .int x0), (1, .int x1), (2, .int x2), (3, .int x3)] rfl (hE _ _  hR)
    · rw [if_neg c2] at hR
      have hs := cnt_step (B := 6) h0 (by decide) (by decide) c2
      refine j_iload_n C dX5_isUnder_10 11 rfl rfl 2 rfl ?_
      refine j_cs0I (na := 1) C dX5_isUnder_11 14 rfl (c_X5_isKind τ  x2 ) rfl ggX5_isUnder_X5_isKind rfl rfl rfl kX5_isUnder_iRX5 kX5_isUnder_m92 kX5_isUnder_sX5_isKind qd_X5_isKind rfl ⟨by decide, by decide⟩ ⟨by decide, by decide⟩ rfl (Nat.le_of_ble_eq_true rfl) (fun r3 u3 hX3 hn3 => ?_)
      obtain rfl := (Prod.mk.inj hX3).1
      refine j_if_eq C dX5_isUnder_14 36 rfl 17 rfl (fun c4 => ?_) (fun c4 => ?_)
      · rw [if_pos c4] at hR
        exact j_lv [0, 1, 2, 3] [(0, .int x0), (1, .int x1), (2, .int x2), (3, .int x3)] rfl (hE _ _  hR)
      · rw [if_neg c4] at hR
        refine j_iload_n C dX5_isUnder_17 18 rfl rfl 2 rfl ?_
        refine j_iload_n C dX5_isUnder_18 19 rfl rfl 1 rfl ?_
        refine j_icmp_ne C dX5_isUnder_19 24 rfl 22 rfl (fun c5 => ?_) (fun c5 => ?_)
        · rw [if_neg c5] at hR
          refine j_gets C dX5_isUnder_24 27 rfl 3 rfl rfl rfl rfl kX5_isUnder_f280 ?_
          refine j_iload_n C dX5_isUnder_27 28 rfl rfl 2 rfl ?_
          refine j_sald C dX5_isUnder_28 29 rfl 3 rfl (in_kind c4) (x2).toNatClampNeg rfl ?_
          refine j_istore_n C dX5_isUnder_29 30 rfl rfl (by decide) [(2, .int (saG 3 (x2).toNatClampNeg)), (0, .int x0), (1, .int x1), (3, .int x3)] rfl ?_
          refine j_iinc (v := (x3 + 1)) C dX5_isUnder_30 33 rfl 3 rfl rfl (by decide) [(3, .int (x3 + 1)), (2, .int (saG 3 (x2).toNatClampNeg)), (0, .int x0), (1, .int x1)] rfl ?_
          refine j_goto C dX5_isUnder_33 4 rfl ?_
          exact j_lv [2, 3, 1, 0] [(0, .int x0), (1, .int x1), (2, .int (saG 3 (x2).toNatClampNeg)), (3, .int (x3 + 1))] rfl (ih _ _ (by have := hs.2.2.1; omega) hs.1 hs.2.1 hR)
        · rw [if_pos c5] at hR
          refine j_iconst (v := 1) C dX5_isUnder_22 23 rfl (by decide) ?_
          exact Rt.ret (hRet _ hR) (show narrow .boolean (.int (1 : Int32)) = .int (1 : Int32) from rfl) dX5_isUnder_23
set_option maxHeartbeats 4000000 in
set_option maxRecDepth 100000 in
theorem c_X5_isUnder (τ : SX) (x0 : Int32) (x1 : Int32) (sz : Nat) : McI τ yX5_isUnder wsX5_isUnder rmX5_isUnder .boolean [.int x0, .int x1] [] (fun _ : Unit => []) (f_X5_isUnder x0 x1, ()) sz := by
  refine mc_I (cc := cX5_isUnder) (own := RX5) [(0, .int x0), (1, .int x1)] rfl (by decide) rfl rfl (Nat.le_of_ble_eq_true rfl) (fun κ C hR => ?_)
  unfold f_X5_isUnder at hR
  refine j_iload_n C dX5_isUnder_0 1 rfl rfl 0 rfl ?_
  refine j_istore_n C dX5_isUnder_1 2 rfl rfl (by decide) [(2, .int x0), (0, .int x0), (1, .int x1)] rfl ?_
  refine j_iconst (v := 0) C dX5_isUnder_2 3 rfl (by decide) ?_
  refine j_istore_n C dX5_isUnder_3 4 rfl rfl (by decide) [(3, .int 0), (2, .int x0), (0, .int x0), (1, .int x1)] rfl ?_
  refine j_lv [2, 3, 1, 0] [(0, .int x0), (1, .int x1), (2, .int x0), (3, .int 0)] rfl (L_X5_isUnder_4 C   x0 x1  (fun (o : (Int32 × Int32) ⊕ (Int32)) => Rt τ κ cX5_isUnder .boolean (fun _ : Unit => []) ((sm o (fun (z : Int32 × Int32) => pr2 z (fun x2_1 x3_1 => (0 : Int32))) (fun X => X), ()))) (fun x2_1 x3_1  hR => ?_) (fun X hR => by rw [sm_inr] at hR; exact hR) 300 x0 (0 : Int32) (by decide) (by decide) (by decide) hR)
  rw [sm_inl, pr2_mk x2_1 x3_1] at hR
  refine j_iconst (v := 0) C dX5_isUnder_36 37 rfl (by decide) ?_
  exact Rt.ret (hR) (show narrow .boolean (.int (0 : Int32)) = .int (0 : Int32) from rfl) dX5_isUnder_37

-- X5_holdsPerson main now
def f_X5_holdsPerson (nct : Int32) (vw : Int32) (vn : Int32) : Int32 := if (vw = 0) then (if ((f_X4_has nct vn) = 0) then (0 : Int32) else (1 : Int32)) else (0 : Int32)
theorem kX5_holdsPerson_f259 : Cond.fieldLink RX5 259 "TwoMinutes$Shelf" "what" "I" ∈ wsX5_holdsPerson := by decide +kernel
theorem kX5_holdsPerson_f10 : Cond.fieldLink RX5 10 "TwoMinutes" "now" "LTwoMinutes$Town;" ∈ wsX5_holdsPerson := by decide +kernel
theorem kX5_holdsPerson_f264 : Cond.fieldLink RX5 264 "TwoMinutes$Shelf" "number" "I" ∈ wsX5_holdsPerson := by decide +kernel
theorem qd_X5_holdsPerson : yX5_holdsPerson.cls = RX5 ∧ yX5_holdsPerson.cls ≠ "java/lang/invoke/MethodHandle" ∧ yX5_holdsPerson.cls ≠ "java/lang/invoke/VarHandle" ∧ (parseMethodDescriptor yX5_holdsPerson.desc).map (fun d => d.parameters.length) = some 1 := by decide +kernel
abbrev rmX5_holdsPerson : Room := { frames := 2, cells := 0, slots := 0, locals := 43 }
set_option maxHeartbeats 4000000 in
set_option maxRecDepth 100000 in
theorem c_X5_holdsPerson (τ : SX) (a b : Nat → Nat) (rws : Nat → Int32) (isv : Int32) (rc : Int32) (nlw : Nat → Int32) (nkd : Nat → Int32) (nbt : Nat → Int32) (nph : Nat → Int32) (ncn : Nat → Int32) (nno : Nat → Int32) (nct : Int32) (nsc : Int32) (nrn : Int32) (nlg : Int32) (ndn : Int32) (nzz : Int32) (vw : Int32) (vn : Int32) (vs : Int32) (vz : Int32) (hrc0 : 0 ≤ rc.toInt) (hrc : rc.toInt ≤ 10) (hn0 : 0 ≤ nct.toInt) (hn : nct.toInt ≤ 8) (sz : Nat) : McI τ yX5_holdsPerson wsX5_holdsPerson rmX5_holdsPerson .boolean [.ref (a 0), .ref (b 0)] ((wX τ a rws isv rc) ++ (wT τ (fun j => a (10 + j)) nlw nkd nbt nph ncn nno nct nsc nrn nlg ndn nzz) ++ (wH τ b vw vn vs vz)) (fun _ : Unit => ((wX τ a rws isv rc) ++ (wT τ (fun j => a (10 + j)) nlw nkd nbt nph ncn nno nct nsc nrn nlg ndn nzz) ++ (wH τ b vw vn vs vz))) (f_X5_holdsPerson nct vw vn, ()) sz := by
  refine mc_I (cc := cX5_holdsPerson) (own := RX5) [(0, .ref (a 0)), (1, .ref (b 0))] rfl (by decide) rfl rfl (Nat.le_of_ble_eq_true rfl) (fun κ C hR => ?_)
  have hiX4 : ∀ w ∈ wsX40, w ∈ wsX5_holdsPerson := fun w h => List.mem_cons_of_mem _ (List.mem_append_right _ h)
  have hiX5 : ∀ w ∈ wsX50, w ∈ wsX5_holdsPerson := fun w h => List.mem_cons_of_mem _ (List.mem_append_left _ (List.mem_append_right _ h))
  have hiX2 : ∀ w ∈ wsX20, w ∈ wsX5_holdsPerson := fun w h => List.mem_cons_of_mem _ (List.mem_append_left _ (List.mem_append_left _ (List.mem_append_right _ h)))
  unfold f_X5_holdsPerson at hR
  refine j_aload_n C dX5_holdsPerson_0 1 rfl rfl 1 rfl ?_
  refine j_get C dX5_holdsPerson_1 4 rfl hiX2 11 rfl rfl 0 (by decide) rfl kX5_holdsPerson_f259 rfl ?_
  refine j_if_ne C dX5_holdsPerson_4 25 rfl 7 rfl (fun c1 => ?_) (fun c1 => ?_)
  · rw [if_neg c1] at hR
    refine j_iconst (v := 0) C dX5_holdsPerson_25 26 rfl (by decide) ?_
    exact Rt.ret (hR) (show narrow .boolean (.int (0 : Int32)) = .int (0 : Int32) from rfl) dX5_holdsPerson_26
  · rw [if_pos c1] at hR
    refine j_aload_n C dX5_holdsPerson_7 8 rfl rfl 0 rfl ?_
    refine j_get C dX5_holdsPerson_8 11 rfl hiX5 0 rfl rfl 0 (by decide) rfl kX5_holdsPerson_f10 rfl ?_
    refine j_aload_n C dX5_holdsPerson_11 12 rfl rfl 1 rfl ?_
    refine j_get C dX5_holdsPerson_12 15 rfl hiX2 11 rfl rfl 1 (by decide) rfl kX5_holdsPerson_f264 rfl ?_
    refine j_cvI (na := 1) C dX5_holdsPerson_15 18 rfl (c_X4_has τ (fun j => a (10 + j)) nlw nkd nbt nph ncn nno nct nsc nrn nlg ndn nzz vn ) gX5_holdsPerson_X4_has rfl rfl rfl qd_X4_has rfl ⟨by decide, by decide⟩ ⟨by decide, by decide⟩ rfl (Nat.le_of_ble_eq_true rfl) [4, 5, 6, 7, 8, 9, 10] [0, 1, 2, 3, 11] [0, 1, 2, 3, 5, 6, 7, 8, 9, 10, 11, 4] ((wX τ a rws isv rc) ++ (wH τ b vw vn vs vz)) rfl (by decide) rfl (by decide) (by decide) 4 0 rfl rfl (fun u => ((wX τ a rws isv rc) ++ (wT τ (fun j => a (10 + j)) nlw nkd nbt nph ncn nno nct nsc nrn nlg ndn nzz) ++ (wH τ b vw vn vs vz))) (fun _ => rfl) (by decide) (fun r2 u2 hX2 hn2 => ?_)
    obtain rfl := (Prod.mk.inj hX2).1
    refine j_if_eq C dX5_holdsPerson_18 25 rfl 21 rfl (fun c3 => ?_) (fun c3 => ?_)
    · rw [if_pos c3] at hR
      refine j_iconst (v := 0) C dX5_holdsPerson_25 26 rfl (by decide) ?_
      exact Rt.ret (hR) (show narrow .boolean (.int (0 : Int32)) = .int (0 : Int32) from rfl) dX5_holdsPerson_26
    · rw [if_neg c3] at hR
      refine j_iconst (v := 1) C dX5_holdsPerson_21 22 rfl (by decide) ?_
      refine j_goto C dX5_holdsPerson_22 26 rfl ?_
      exact Rt.ret (hR) (show narrow .boolean (.int (1 : Int32)) = .int (1 : Int32) from rfl) dX5_holdsPerson_26

theorem hold_in {nct vw vn : Int32} (c : ¬ f_X5_holdsPerson nct vw vn = 0) (h0 : 0 ≤ nct.toInt) (h : nct.toInt ≤ 8) : vp_in vn 8 := by
  unfold f_X5_holdsPerson at c
  by_cases c1 : vw = 0
  · rw [if_pos c1] at c
    by_cases c2 : f_X4_has nct vn = 0
    · rw [if_pos c2] at c; exact absurd rfl c
    · exact in_has c2 h0 h
  · rw [if_neg c1] at c; exact absurd rfl c

-- X5_isTold main tried now
def l_X5_isTold_24 (tlw : Nat → Int32) (tkd : Nat → Int32) (tbt : Nat → Int32) (tph : Nat → Int32) (tcn : Nat → Int32) (tno : Nat → Int32) (tct : Int32) (tzz : Int32) (it : Nat → Int64) (si : Int32) : Nat → Int32 → Int32 → Int32 → Int32 → Int32 → (Int32 × Int32 × Int32 × Int32 × Int32) ⊕ (Int32 × (Nat → Int32) × (Nat → Int32) × (Nat → Int32) × (Nat → Int32) × (Nat → Int32) × (Nat → Int32) × Int32 × Int32 × Int32 × Int32 × Int32 × Int32)
  | 0, x4, tsc, trn, tlg, tdn => Sum.inl (x4, tsc, trn, tlg, tdn)
  | N + 1, x4, tsc, trn, tlg, tdn => if (si ≤ x4) then (Sum.inl (x4, tsc, trn, tlg, tdn)) else (pr4 (f_X4_endSecond tlw tsc trn tlg tdn (f_X4_soundingSet tlw tkd tbt tph tct tsc trn)) (fun tsc_5 trn_5 tlg_5 tdn_5 => if ((lg_cmp (it (x4).toNatClampNeg) (-1)) = 0) then (l_X5_isTold_24 tlw tkd tbt tph tcn tno tct tzz it si N (x4 + 1) tsc_5 trn_5 tlg_5 tdn_5) else (if ((lg_cmp (it (x4).toNatClampNeg) ((trn_5 : Int32).toInt64)) = 0) then (l_X5_isTold_24 tlw tkd tbt tph tcn tno tct tzz it si N (x4 + 1) tsc_5 trn_5 tlg_5 tdn_5) else (Sum.inr ((0 : Int32), tlw, tkd, tbt, tph, tcn, tno, tct, tsc_5, trn_5, tlg_5, tdn_5, tzz)))))
def f_X5_isTold (nlw : Nat → Int32) (nkd : Nat → Int32) (nbt : Nat → Int32) (nph : Nat → Int32) (ncn : Nat → Int32) (nno : Nat → Int32) (nct : Int32) (nsc : Int32) (nrn : Int32) (nlg : Int32) (ndn : Int32) (nzz : Int32) (tlw : Nat → Int32) (tkd : Nat → Int32) (tbt : Nat → Int32) (tph : Nat → Int32) (tcn : Nat → Int32) (tno : Nat → Int32) (it : Nat → Int64) (si : Int32) (x2 : Int32) (x3 : Int32) : Int32 × (Nat → Int32) × (Nat → Int32) × (Nat → Int32) × (Nat → Int32) × (Nat → Int32) × (Nat → Int32) × Int32 × Int32 × Int32 × Int32 × Int32 × Int32 := sm (l_X5_isTold_24 (va_cpy nlw tlw 0 0 4) (va_cpy nkd tkd 0 0 8) (va_cpy nbt tbt 0 0 8) (upd (va_cpy nph tph 0 0 8) (x2).toNatClampNeg x3) (va_cpy ncn tcn 0 0 8) (va_cpy nno tno 0 0 8) nct nzz it si 300 (0 : Int32) nsc nrn nlg ndn) (fun (z2 : Int32 × Int32 × Int32 × Int32 × Int32) => pr5 z2 (fun x4_2 tsc_2 trn_2 tlg_2 tdn_2 => ((1 : Int32), (va_cpy nlw tlw 0 0 4), (va_cpy nkd tkd 0 0 8), (va_cpy nbt tbt 0 0 8), (upd (va_cpy nph tph 0 0 8) (x2).toNatClampNeg x3), (va_cpy ncn tcn 0 0 8), (va_cpy nno tno 0 0 8), nct, tsc_2, trn_2, tlg_2, tdn_2, nzz))) (fun X => X)
theorem kX5_isTold_f16 : Cond.fieldLink RX5 16 "TwoMinutes" "tried" "LTwoMinutes$Town;" ∈ wsX5_isTold := by decide +kernel
theorem kX5_isTold_f10 : Cond.fieldLink RX5 10 "TwoMinutes" "now" "LTwoMinutes$Town;" ∈ wsX5_isTold := by decide +kernel
theorem kX5_isTold_f112 : Cond.fieldLink RX5 112 "TwoMinutes$Town" "phases" "[I" ∈ wsX5_isTold := by decide +kernel
theorem kX5_isTold_f206 : Cond.fieldLink RX5 206 "TwoMinutes$Sheet" "size" "I" ∈ wsX5_isTold := by decide +kernel
theorem kX5_isTold_f207 : Cond.fieldLink RX5 207 "TwoMinutes$Sheet" "items" "[J" ∈ wsX5_isTold := by decide +kernel
theorem kX5_isTold_c211 : Cond.constantLong RX5 211 (-1) ∈ wsX5_isTold := by decide +kernel
theorem kX5_isTold_f142 : Cond.fieldLink RX5 142 "TwoMinutes$Town" "run" "I" ∈ wsX5_isTold := by decide +kernel
theorem qd_X5_isTold : yX5_isTold.cls = RX5 ∧ yX5_isTold.cls ≠ "java/lang/invoke/MethodHandle" ∧ yX5_isTold.cls ≠ "java/lang/invoke/VarHandle" ∧ (parseMethodDescriptor yX5_isTold.desc).map (fun d => d.parameters.length) = some 3 := by decide +kernel
abbrev rmX5_isTold : Room := { frames := 4, cells := 0, slots := 0, locals := 86 }
set_option maxHeartbeats 4000000 in
set_option maxRecDepth 100000 in
theorem L_X5_isTold_24 {τ : SX} {κ : KX} (C : Cx τ κ cX5_isTold RX5 wsX5_isTold rmX5_isTold 5) (a b : Nat → Nat) (rws : Nat → Int32) (isv : Int32) (rc : Int32) (nlw : Nat → Int32) (nkd : Nat → Int32) (nbt : Nat → Int32) (nph : Nat → Int32) (ncn : Nat → Int32) (nno : Nat → Int32) (nct : Int32) (nsc : Int32) (nrn : Int32) (nlg : Int32) (ndn : Int32) (nzz : Int32) (tlw : Nat → Int32) (tkd : Nat → Int32) (tbt : Nat → Int32) (tph : Nat → Int32) (tcn : Nat → Int32) (tno : Nat → Int32) (tct : Int32) (tzz : Int32) (it : Nat → Int64) (sr : Int32) (si : Int32) (x2 : Int32) (x3 : Int32) (hrc0 : 0 ≤ rc.toInt) (hrc : rc.toInt ≤ 10) (hn0 : 0 ≤ nct.toInt) (hn : nct.toInt ≤ 8) (hv : vp_in x2 8) (hsz : si.toInt ≤ 40) (htc : tct.toInt ≤ 8) (Φ : (Int32 × Int32 × Int32 × Int32 × Int32) ⊕ (Int32 × (Nat → Int32) × (Nat → Int32) × (Nat → Int32) × (Nat → Int32) × (Nat → Int32) × (Nat → Int32) × Int32 × Int32 × Int32 × Int32 × Int32 × Int32) → Prop) (hE : ∀ (x4 : Int32) (tsc : Int32) (trn : Int32) (tlg : Int32) (tdn : Int32), Φ (Sum.inl (x4, tsc, trn, tlg, tdn)) → J τ κ 0 0 ((wX τ a rws isv rc) ++ (wT τ (fun j => a (10 + j)) nlw nkd nbt nph ncn nno nct nsc nrn nlg ndn nzz) ++ (wT τ (fun j => a (20 + j)) tlw tkd tbt tph tcn tno tct tsc trn tlg tdn tzz) ++ (wS τ b it sr si)) [(0, .ref (a 0)), (1, .ref (b 0)), (2, .int x2), (3, .int x3), (4, .int x4)] 88 []) (hRet : ∀ X, Φ (Sum.inr X) → Rt τ κ cX5_isTold .boolean (fun u : (Nat → Int32) × (Nat → Int32) × (Nat → Int32) × (Nat → Int32) × (Nat → Int32) × (Nat → Int32) × Int32 × Int32 × Int32 × Int32 × Int32 × Int32 => ((wX τ a rws isv rc) ++ (wT τ (fun j => a (10 + j)) nlw nkd nbt nph ncn nno nct nsc nrn nlg ndn nzz) ++ (wT τ (fun j => a (20 + j)) u.1 u.2.1 u.2.2.1 u.2.2.2.1 u.2.2.2.2.1 u.2.2.2.2.2.1 u.2.2.2.2.2.2.1 u.2.2.2.2.2.2.2.1 u.2.2.2.2.2.2.2.2.1 u.2.2.2.2.2.2.2.2.2.1 u.2.2.2.2.2.2.2.2.2.2.1 u.2.2.2.2.2.2.2.2.2.2.2) ++ (wS τ b it sr si))) (X)) : ∀ (N : Nat) (x4 : Int32) (tsc : Int32) (trn : Int32) (tlg : Int32) (tdn : Int32), ((40 : Int) - x4.toInt).toNat < N → (0 ≤ x4.toInt) → (x4.toInt ≤ 40) → Φ (l_X5_isTold_24 tlw tkd tbt tph tcn tno tct tzz it si N x4 tsc trn tlg tdn) → J τ κ 0 0 ((wX τ a rws isv rc) ++ (wT τ (fun j => a (10 + j)) nlw nkd nbt nph ncn nno nct nsc nrn nlg ndn nzz) ++ (wT τ (fun j => a (20 + j)) tlw tkd tbt tph tcn tno tct tsc trn tlg tdn tzz) ++ (wS τ b it sr si)) [(0, .ref (a 0)), (1, .ref (b 0)), (2, .int x2), (3, .int x3), (4, .int x4)] 24 [] := by
  have hiX1 : ∀ w ∈ wsX10, w ∈ wsX5_isTold := fun w h => List.mem_cons_of_mem _ (List.mem_append_right _ h)
  have hiX4 : ∀ w ∈ wsX40, w ∈ wsX5_isTold := fun w h => List.mem_cons_of_mem _ (List.mem_append_left _ (List.mem_append_right _ h))
  have hiX5 : ∀ w ∈ wsX50, w ∈ wsX5_isTold := fun w h => List.mem_cons_of_mem _ (List.mem_append_left _ (List.mem_append_left _ (List.mem_append_right _ h)))
  intro N
  induction N with
  | zero => intro x4 tsc trn tlg tdn hm; exact absurd hm (Nat.not_lt_zero _)
  | succ N ih =>
    intro x4 tsc trn tlg tdn hm h0 h1 hR
    rw [l_X5_isTold_24] at hR
    refine j_iload C dX5_isTold_24 26 rfl 4 rfl ?_
    refine j_aload_n C dX5_isTold_26 27 rfl rfl 1 rfl ?_
    refine j_get C dX5_isTold_27 30 rfl hiX1 18 rfl rfl 2 (by decide) rfl kX5_isTold_f206 rfl ?_
    refine j_icmp_ge C dX5_isTold_30 88 rfl 33 rfl (fun c3 => ?_) (fun c3 => ?_)
    · rw [if_pos c3] at hR
      exact j_lv [0, 1, 2, 3, 4] [(0, .ref (a 0)), (1, .ref (b 0)), (2, .int x2), (3, .int x3), (4, .int x4)] rfl (hE _ _ _ _ _  hR)
    · rw [if_neg c3] at hR
      have hs := cnt_step (B := 40) h0 (hsz) (by decide) c3
      refine j_aload_n C dX5_isTold_33 34 rfl rfl 0 rfl ?_
      refine j_get C dX5_isTold_34 37 rfl hiX5 0 rfl rfl 1 (by decide) rfl kX5_isTold_f16 rfl ?_
      refine j_aload_n C dX5_isTold_37 38 rfl rfl 0 rfl ?_
      refine j_get C dX5_isTold_38 41 rfl hiX5 0 rfl rfl 1 (by decide) rfl kX5_isTold_f16 rfl ?_
      refine j_cvI (na := 0) C dX5_isTold_41 44 rfl (c_X4_soundingSet τ (fun j => a (20 + j)) tlw tkd tbt tph tcn tno tct tsc trn tlg tdn tzz (by first | assumption | exact vp_in_iff.mpr ⟨by omega, by omega⟩)) gX5_isTold_X4_soundingSet rfl rfl rfl qd_X4_soundingSet rfl ⟨by decide, by decide⟩ ⟨by decide, by decide⟩ rfl (Nat.le_of_ble_eq_true rfl) [11, 12, 13, 14, 15, 16, 17] [0, 1, 2, 3, 4, 5, 6, 7, 8, 9, 10, 18, 19] [0, 1, 2, 3, 4, 5, 6, 7, 8, 9, 10, 13, 14, 15, 16, 17, 18, 19, 11, 12] ((wX τ a rws isv rc) ++ (wT τ (fun j => a (10 + j)) nlw nkd nbt nph ncn nno nct nsc nrn nlg ndn nzz) ++ (wS τ b it sr si)) rfl (by decide) rfl (by decide) (by decide) 4 0 rfl rfl (fun u => ((wX τ a rws isv rc) ++ (wT τ (fun j => a (10 + j)) nlw nkd nbt nph ncn nno nct nsc nrn nlg ndn nzz) ++ (wT τ (fun j => a (20 + j)) tlw tkd tbt tph tcn tno tct tsc trn tlg tdn tzz) ++ (wS τ b it sr si))) (fun _ => rfl) (by decide) (fun r4 u4 hX4 hn4 => ?_)
      obtain rfl := (Prod.mk.inj hX4).1
      refine j_cvV (na := 1) C dX5_isTold_44 47 rfl (c_X4_endSecond τ (fun j => a (20 + j)) tlw tkd tbt tph tcn tno tct tsc trn tlg tdn tzz (f_X4_soundingSet tlw tkd tbt tph tct tsc trn) ) gX5_isTold_X4_endSecond rfl rfl rfl qd_X4_endSecond rfl ⟨by decide, by decide⟩ ⟨by decide, by decide⟩ rfl (Nat.le_of_ble_eq_true rfl) [11, 12, 13, 14, 15, 16, 17] [0, 1, 2, 3, 4, 5, 6, 7, 8, 9, 10, 18, 19] [0, 1, 2, 3, 4, 5, 6, 7, 8, 9, 10, 13, 14, 15, 16, 17, 18, 19, 11, 12] ((wX τ a rws isv rc) ++ (wT τ (fun j => a (10 + j)) nlw nkd nbt nph ncn nno nct nsc nrn nlg ndn nzz) ++ (wS τ b it sr si)) rfl (by decide) rfl (by decide) (by decide) 4 0 rfl rfl (fun u => ((wX τ a rws isv rc) ++ (wT τ (fun j => a (10 + j)) nlw nkd nbt nph ncn nno nct nsc nrn nlg ndn nzz) ++ (wT τ (fun j => a (20 + j)) tlw tkd tbt tph tcn tno tct u.1 u.2.1 u.2.2.1 u.2.2.2 tzz) ++ (wS τ b it sr si))) (fun _ => rfl) (by decide) (fun u5 hX5 => ?_)
      obtain ⟨tsc_5, trn_5, tlg_5, tdn_5⟩ := u5
      rw [hX5] at hR; rw [pr4_mk tsc_5 trn_5 tlg_5 tdn_5] at hR
      refine j_aload_n C dX5_isTold_47 48 rfl rfl 1 rfl ?_
      refine j_get C dX5_isTold_48 51 rfl hiX1 18 rfl rfl 0 (by decide) rfl kX5_isTold_f207 rfl ?_
      refine j_iload C dX5_isTold_51 53 rfl 4 rfl ?_
      refine j_lald C dX5_isTold_53 54 rfl 19 rfl (by first | assumption | exact vp_in_iff.mpr ⟨by omega, by omega⟩) (x4).toNatClampNeg rfl ?_
      refine j_ldc2 C dX5_isTold_54 57 rfl kX5_isTold_c211 ?_
      refine j_lcmp C dX5_isTold_57 58 rfl ?_
      refine j_if_eq C dX5_isTold_58 82 rfl 61 rfl (fun c6 => ?_) (fun c6 => ?_)
      · rw [if_pos c6] at hR
        refine j_iinc (v := (x4 + 1)) C dX5_isTold_82 85 rfl 4 rfl rfl (by decide) [(4, .int (x4 + 1)), (0, .ref (a 0)), (1, .ref (b 0)), (2, .int x2), (3, .int x3)] rfl ?_
        refine j_goto C dX5_isTold_85 24 rfl ?_
        exact j_lv [1, 2, 3, 4, 0] [(0, .ref (a 0)), (1, .ref (b 0)), (2, .int x2), (3, .int x3), (4, .int (x4 + 1))] rfl (ih _ _ _ _ _ (by have := hs.2.2.1; omega) hs.1 hs.2.1 hR)
      · rw [if_neg c6] at hR
        refine j_aload_n C dX5_isTold_61 62 rfl rfl 1 rfl ?_
        refine j_get C dX5_isTold_62 65 rfl hiX1 18 rfl rfl 0 (by decide) rfl kX5_isTold_f207 rfl ?_
        refine j_iload C dX5_isTold_65 67 rfl 4 rfl ?_
        refine j_lald C dX5_isTold_67 68 rfl 19 rfl (by first | assumption | exact vp_in_iff.mpr ⟨by omega, by omega⟩) (x4).toNatClampNeg rfl ?_
        refine j_aload_n C dX5_isTold_68 69 rfl rfl 0 rfl ?_
        refine j_get C dX5_isTold_69 72 rfl hiX5 0 rfl rfl 1 (by decide) rfl kX5_isTold_f16 rfl ?_
        refine j_get C dX5_isTold_72 75 rfl hiX4 11 rfl rfl 8 (by decide) rfl kX5_isTold_f142 rfl ?_
        refine j_i2l C dX5_isTold_75 76 rfl ?_
        refine j_lcmp C dX5_isTold_76 77 rfl ?_
        refine j_if_eq C dX5_isTold_77 82 rfl 80 rfl (fun c7 => ?_) (fun c7 => ?_)
        · rw [if_pos c7] at hR
          refine j_iinc (v := (x4 + 1)) C dX5_isTold_82 85 rfl 4 rfl rfl (by decide) [(4, .int (x4 + 1)), (0, .ref (a 0)), (1, .ref (b 0)), (2, .int x2), (3, .int x3)] rfl ?_
          refine j_goto C dX5_isTold_85 24 rfl ?_
          exact j_lv [1, 2, 3, 4, 0] [(0, .ref (a 0)), (1, .ref (b 0)), (2, .int x2), (3, .int x3), (4, .int (x4 + 1))] rfl (ih _ _ _ _ _ (by have := hs.2.2.1; omega) hs.1 hs.2.1 hR)
        · rw [if_neg c7] at hR
          refine j_iconst (v := 0) C dX5_isTold_80 81 rfl (by decide) ?_
          exact Rt.ret (hRet _ hR) (show narrow .boolean (.int (0 : Int32)) = .int (0 : Int32) from rfl) dX5_isTold_81
set_option maxHeartbeats 4000000 in
set_option maxRecDepth 100000 in
theorem c_X5_isTold (τ : SX) (a b : Nat → Nat) (rws : Nat → Int32) (isv : Int32) (rc : Int32) (nlw : Nat → Int32) (nkd : Nat → Int32) (nbt : Nat → Int32) (nph : Nat → Int32) (ncn : Nat → Int32) (nno : Nat → Int32) (nct : Int32) (nsc : Int32) (nrn : Int32) (nlg : Int32) (ndn : Int32) (nzz : Int32) (tlw : Nat → Int32) (tkd : Nat → Int32) (tbt : Nat → Int32) (tph : Nat → Int32) (tcn : Nat → Int32) (tno : Nat → Int32) (tct : Int32) (tsc : Int32) (trn : Int32) (tlg : Int32) (tdn : Int32) (tzz : Int32) (it : Nat → Int64) (sr : Int32) (si : Int32) (x2 : Int32) (x3 : Int32) (hrc0 : 0 ≤ rc.toInt) (hrc : rc.toInt ≤ 10) (hn0 : 0 ≤ nct.toInt) (hn : nct.toInt ≤ 8) (hv : vp_in x2 8) (hsz : si.toInt ≤ 40) (sz : Nat) : McI τ yX5_isTold wsX5_isTold rmX5_isTold .boolean [.ref (a 0), .ref (b 0), .int x2, .int x3] ((wX τ a rws isv rc) ++ (wT τ (fun j => a (10 + j)) nlw nkd nbt nph ncn nno nct nsc nrn nlg ndn nzz) ++ (wT τ (fun j => a (20 + j)) tlw tkd tbt tph tcn tno tct tsc trn tlg tdn tzz) ++ (wS τ b it sr si)) (fun u : (Nat → Int32) × (Nat → Int32) × (Nat → Int32) × (Nat → Int32) × (Nat → Int32) × (Nat → Int32) × Int32 × Int32 × Int32 × Int32 × Int32 × Int32 => ((wX τ a rws isv rc) ++ (wT τ (fun j => a (10 + j)) nlw nkd nbt nph ncn nno nct nsc nrn nlg ndn nzz) ++ (wT τ (fun j => a (20 + j)) u.1 u.2.1 u.2.2.1 u.2.2.2.1 u.2.2.2.2.1 u.2.2.2.2.2.1 u.2.2.2.2.2.2.1 u.2.2.2.2.2.2.2.1 u.2.2.2.2.2.2.2.2.1 u.2.2.2.2.2.2.2.2.2.1 u.2.2.2.2.2.2.2.2.2.2.1 u.2.2.2.2.2.2.2.2.2.2.2) ++ (wS τ b it sr si))) (f_X5_isTold nlw nkd nbt nph ncn nno nct nsc nrn nlg ndn nzz tlw tkd tbt tph tcn tno it si x2 x3) sz := by
  refine mc_I (cc := cX5_isTold) (own := RX5) [(0, .ref (a 0)), (1, .ref (b 0)), (2, .int x2), (3, .int x3)] rfl (by decide) rfl rfl (Nat.le_of_ble_eq_true rfl) (fun κ C hR => ?_)
  have hiX1 : ∀ w ∈ wsX10, w ∈ wsX5_isTold := fun w h => List.mem_cons_of_mem _ (List.mem_append_right _ h)
  have hiX4 : ∀ w ∈ wsX40, w ∈ wsX5_isTold := fun w h => List.mem_cons_of_mem _ (List.mem_append_left _ (List.mem_append_right _ h))
  have hiX5 : ∀ w ∈ wsX50, w ∈ wsX5_isTold := fun w h => List.mem_cons_of_mem _ (List.mem_append_left _ (List.mem_append_left _ (List.mem_append_right _ h)))
  unfold f_X5_isTold at hR
  refine j_aload_n C dX5_isTold_0 1 rfl rfl 0 rfl ?_
  refine j_get C dX5_isTold_1 4 rfl hiX5 0 rfl rfl 1 (by decide) rfl kX5_isTold_f16 rfl ?_
  refine j_aload_n C dX5_isTold_4 5 rfl rfl 0 rfl ?_
  refine j_get C dX5_isTold_5 8 rfl hiX5 0 rfl rfl 0 (by decide) rfl kX5_isTold_f10 rfl ?_
  refine j_cvV (na := 1) C dX5_isTold_8 11 rfl (c_X4_copyFrom τ (fun j => a (20 + j)) (fun j => a (10 + j)) tlw tkd tbt tph tcn tno tct tsc trn tlg tdn tzz nlw nkd nbt nph ncn nno nct nsc nrn nlg ndn nzz ) gX5_isTold_X4_copyFrom rfl rfl rfl qd_X4_copyFrom rfl ⟨by decide, by decide⟩ ⟨by decide, by decide⟩ rfl (Nat.le_of_ble_eq_true rfl) [11, 12, 13, 14, 15, 16, 17, 4, 5, 6, 7, 8, 9, 10] [0, 1, 2, 3, 18, 19] [0, 1, 2, 3, 13, 14, 15, 16, 17, 18, 19, 6, 7, 8, 9, 10, 11, 12, 4, 5] ((wX τ a rws isv rc) ++ (wS τ b it sr si)) rfl (by decide) rfl (by decide) (by decide) 4 0 rfl rfl (fun u => ((wX τ a rws isv rc) ++ (wT τ (fun j => a (10 + j)) nlw nkd nbt nph ncn nno nct nsc nrn nlg ndn nzz) ++ (wT τ (fun j => a (20 + j)) u.1 u.2.1 u.2.2.1 u.2.2.2.1 u.2.2.2.2.1 u.2.2.2.2.2.1 u.2.2.2.2.2.2.1 u.2.2.2.2.2.2.2.1 u.2.2.2.2.2.2.2.2.1 u.2.2.2.2.2.2.2.2.2.1 u.2.2.2.2.2.2.2.2.2.2.1 u.2.2.2.2.2.2.2.2.2.2.2) ++ (wS τ b it sr si))) (fun _ => rfl) (by decide) (fun u1 hX1 => ?_)
  obtain ⟨tlw_1, tkd_1, tbt_1, tph_1, tcn_1, tno_1, tct_1, tsc_1, trn_1, tlg_1, tdn_1, tzz_1⟩ := u1
  simp only [f_X4_copyFrom, Prod.mk.injEq] at hX1
  obtain ⟨rfl, rfl, rfl, rfl, rfl, rfl, rfl, rfl, rfl, rfl, rfl, rfl⟩ := hX1
  refine j_aload_n C dX5_isTold_11 12 rfl rfl 0 rfl ?_
  refine j_get C dX5_isTold_12 15 rfl hiX5 0 rfl rfl 1 (by decide) rfl kX5_isTold_f16 rfl ?_
  refine j_get C dX5_isTold_15 18 rfl hiX4 11 rfl rfl 3 (by decide) rfl kX5_isTold_f112 rfl ?_
  refine j_iload_n C dX5_isTold_18 19 rfl rfl 2 rfl ?_
  refine j_iload_n C dX5_isTold_19 20 rfl rfl 3 rfl ?_
  refine j_iast C dX5_isTold_20 21 rfl 15 rfl (by first | assumption | exact vp_in_iff.mpr ⟨by omega, by omega⟩) (x2).toNatClampNeg rfl ((wX τ a rws isv rc) ++ (wT τ (fun j => a (10 + j)) nlw nkd nbt nph ncn nno nct nsc nrn nlg ndn nzz) ++ (wT τ (fun j => a (20 + j)) (va_cpy nlw tlw 0 0 4) (va_cpy nkd tkd 0 0 8) (va_cpy nbt tbt 0 0 8) (upd (va_cpy nph tph 0 0 8) (x2).toNatClampNeg x3) (va_cpy ncn tcn 0 0 8) (va_cpy nno tno 0 0 8) nct nsc nrn nlg ndn nzz) ++ (wS τ b it sr si)) rfl ?_
  refine j_iconst (v := 0) C dX5_isTold_21 22 rfl (by decide) ?_
  refine j_istore C dX5_isTold_22 24 rfl (by decide) [(4, .int 0), (0, .ref (a 0)), (1, .ref (b 0)), (2, .int x2), (3, .int x3)] rfl ?_
  refine j_lv [1, 2, 3, 4, 0] [(0, .ref (a 0)), (1, .ref (b 0)), (2, .int x2), (3, .int x3), (4, .int 0)] rfl (L_X5_isTold_24 C a b rws isv rc nlw nkd nbt nph ncn nno nct nsc nrn nlg ndn nzz (va_cpy nlw tlw 0 0 4) (va_cpy nkd tkd 0 0 8) (va_cpy nbt tbt 0 0 8) (upd (va_cpy nph tph 0 0 8) (x2).toNatClampNeg x3) (va_cpy ncn tcn 0 0 8) (va_cpy nno tno 0 0 8) nct nzz it sr si x2 x3 hrc0 hrc hn0 hn hv hsz (hn) (fun (o : (Int32 × Int32 × Int32 × Int32 × Int32) ⊕ (Int32 × (Nat → Int32) × (Nat → Int32) × (Nat → Int32) × (Nat → Int32) × (Nat → Int32) × (Nat → Int32) × Int32 × Int32 × Int32 × Int32 × Int32 × Int32)) => Rt τ κ cX5_isTold .boolean (fun u : (Nat → Int32) × (Nat → Int32) × (Nat → Int32) × (Nat → Int32) × (Nat → Int32) × (Nat → Int32) × Int32 × Int32 × Int32 × Int32 × Int32 × Int32 => ((wX τ a rws isv rc) ++ (wT τ (fun j => a (10 + j)) nlw nkd nbt nph ncn nno nct nsc nrn nlg ndn nzz) ++ (wT τ (fun j => a (20 + j)) u.1 u.2.1 u.2.2.1 u.2.2.2.1 u.2.2.2.2.1 u.2.2.2.2.2.1 u.2.2.2.2.2.2.1 u.2.2.2.2.2.2.2.1 u.2.2.2.2.2.2.2.2.1 u.2.2.2.2.2.2.2.2.2.1 u.2.2.2.2.2.2.2.2.2.2.1 u.2.2.2.2.2.2.2.2.2.2.2) ++ (wS τ b it sr si))) (sm o (fun (z : Int32 × Int32 × Int32 × Int32 × Int32) => pr5 z (fun x4_2 tsc_2 trn_2 tlg_2 tdn_2 => ((1 : Int32), (va_cpy nlw tlw 0 0 4), (va_cpy nkd tkd 0 0 8), (va_cpy nbt tbt 0 0 8), (upd (va_cpy nph tph 0 0 8) (x2).toNatClampNeg x3), (va_cpy ncn tcn 0 0 8), (va_cpy nno tno 0 0 8), nct, tsc_2, trn_2, tlg_2, tdn_2, nzz))) (fun X => X))) (fun x4_2 tsc_2 trn_2 tlg_2 tdn_2  hR => ?_) (fun X hR => by rw [sm_inr] at hR; exact hR) 300 (0 : Int32) nsc nrn nlg ndn (by decide) (by decide) (by decide) hR)
  rw [sm_inl, pr5_mk x4_2 tsc_2 trn_2 tlg_2 tdn_2] at hR
  refine j_iconst (v := 1) C dX5_isTold_88 89 rfl (by decide) ?_
  exact Rt.ret (hR) (show narrow .boolean (.int (1 : Int32)) = .int (1 : Int32) from rfl) dX5_isTold_89

-- X5_put main sheets
def f_X5_put (sit : Nat → Nat → Int64) (ssr : Nat → Int32) (ssi : Nat → Int32) (x1 : Int32) (x2 : Int32) (x3 : Int32) : Int32 × (Nat → Nat → Int64) := if ((f_X5_isSheet x1) = 0) then (((-1) : Int32), sit) else (if ((ssr (x1).toNatClampNeg) = (-1)) then (((-11) : Int32), sit) else (if ((f_X5_isIn x2 (0 : Int32) ((ssi (x1).toNatClampNeg) - 1)) = 0) then (((-12) : Int32), sit) else ((1 : Int32), (upS sit (x1).toNatClampNeg (vp_updL (sit (x1).toNatClampNeg) (x2).toNatClampNeg (f_X1_narrowed (ssr (x1).toNatClampNeg) x3))))))
theorem kX5_put_iRX5 : Cond.initialized yX5_isIn.cls ∈ wsX5_put := by decide +kernel
theorem kX5_put_sX5_isSheet : Cond.static yX5_isSheet ∈ wsX5_put := by decide +kernel
theorem kX5_put_m193 : Cond.methodLink RX5 193 yX5_isSheet ∈ wsX5_put := by decide +kernel
theorem kX5_put_f35 : Cond.fieldLink RX5 35 "TwoMinutes" "sheets" "[LTwoMinutes$Sheet;" ∈ wsX5_put := by decide +kernel
theorem kX5_put_f196 : Cond.fieldLink RX5 196 "TwoMinutes$Sheet" "sort" "I" ∈ wsX5_put := by decide +kernel
theorem kX5_put_f206 : Cond.fieldLink RX5 206 "TwoMinutes$Sheet" "size" "I" ∈ wsX5_put := by decide +kernel
theorem kX5_put_sX5_isIn : Cond.static yX5_isIn ∈ wsX5_put := by decide +kernel
theorem kX5_put_m79 : Cond.methodLink RX5 79 yX5_isIn ∈ wsX5_put := by decide +kernel
theorem kX5_put_f207 : Cond.fieldLink RX5 207 "TwoMinutes$Sheet" "items" "[J" ∈ wsX5_put := by decide +kernel
theorem qd_X5_put : yX5_put.cls = RX5 ∧ yX5_put.cls ≠ "java/lang/invoke/MethodHandle" ∧ yX5_put.cls ≠ "java/lang/invoke/VarHandle" ∧ (parseMethodDescriptor yX5_put.desc).map (fun d => d.parameters.length) = some 3 := by decide +kernel
abbrev rmX5_put : Room := { frames := 2, cells := 0, slots := 0, locals := 42 }
set_option maxHeartbeats 4000000 in
set_option maxRecDepth 100000 in
theorem c_X5_put (τ : SX) (a : Nat → Nat) (rws : Nat → Int32) (isv : Int32) (rc : Int32) (sit : Nat → Nat → Int64) (ssr : Nat → Int32) (ssi : Nat → Int32) (x1 : Int32) (x2 : Int32) (x3 : Int32) (hrc0 : 0 ≤ rc.toInt) (hrc : rc.toInt ≤ 10) (hsi : ∀ i, 0 ≤ (ssi i).toInt ∧ (ssi i).toInt ≤ 40) (sz : Nat) : McI τ yX5_put wsX5_put rmX5_put .int [.ref (a 0), .int x1, .int x2, .int x3] ((wX τ a rws isv rc) ++ (wSS τ a sit ssr ssi)) (fun u : (Nat → Nat → Int64) => ((wX τ a rws isv rc) ++ (wSS τ a u ssr ssi))) (f_X5_put sit ssr ssi x1 x2 x3) sz := by
  refine mc_I (cc := cX5_put) (own := RX5) [(0, .ref (a 0)), (1, .int x1), (2, .int x2), (3, .int x3)] rfl (by decide) rfl rfl (Nat.le_of_ble_eq_true rfl) (fun κ C hR => ?_)
  have hiX1 : ∀ w ∈ wsX10, w ∈ wsX5_put := fun w h => List.mem_cons_of_mem _ (List.mem_append_right _ h)
  have hiX5 : ∀ w ∈ wsX50, w ∈ wsX5_put := fun w h => List.mem_cons_of_mem _ (List.mem_append_left _ (List.mem_append_right _ h))
  unfold f_X5_put at hR
  refine j_iload_n C dX5_put_0 1 rfl rfl 1 rfl ?_
  refine j_cs0I (na := 1) C dX5_put_1 4 rfl (c_X5_isSheet τ  x1 ) rfl ggX5_put_X5_isSheet rfl rfl rfl kX5_put_iRX5 kX5_put_m193 kX5_put_sX5_isSheet qd_X5_isSheet rfl ⟨by decide, by decide⟩ ⟨by decide, by decide⟩ rfl (Nat.le_of_ble_eq_true rfl) (fun r1 u1 hX1 hn1 => ?_)
  obtain rfl := (Prod.mk.inj hX1).1
  refine j_if_ne C dX5_put_4 9 rfl 7 rfl (fun c2 => ?_) (fun c2 => ?_)
  · rw [if_neg c2] at hR
    refine j_aload_n C dX5_put_9 10 rfl rfl 0 rfl ?_
    refine j_get C dX5_put_10 13 rfl hiX5 0 rfl rfl 7 (by decide) rfl kX5_put_f35 rfl ?_
    refine j_iload_n C dX5_put_13 14 rfl rfl 1 rfl ?_
    rcases four_of (n := x1) (in_sheet c2) with rfl | rfl | rfl | rfl
    · try rw [show (0 : Int32).toNatClampNeg = 0 from rfl] at hR
      refine j_aald (t0 := 2) (b := (a 60)) (N := 4) C dX5_put_14 15 rfl 2 rfl rfl (by unfold vp_in; decide) (by rfl) ?_
      refine j_get C dX5_put_15 18 rfl hiX1 4 rfl rfl 1 (by decide) rfl kX5_put_f196 rfl ?_
      refine j_iconst (v := (-1)) C dX5_put_18 19 rfl (by decide) ?_
      refine j_icmp_ne C dX5_put_19 25 rfl 22 rfl (fun c7 => ?_) (fun c7 => ?_)
      · rw [if_neg c7] at hR
        refine j_iload_n C dX5_put_25 26 rfl rfl 2 rfl ?_
        refine j_iconst (v := 0) C dX5_put_26 27 rfl (by decide) ?_
        refine j_aload_n C dX5_put_27 28 rfl rfl 0 rfl ?_
        refine j_get C dX5_put_28 31 rfl hiX5 0 rfl rfl 7 (by decide) rfl kX5_put_f35 rfl ?_
        refine j_iload_n C dX5_put_31 32 rfl rfl 1 rfl ?_
        refine j_aald (t0 := 2) (b := (a 60)) (N := 4) C dX5_put_32 33 rfl 2 rfl rfl (by unfold vp_in; decide) (by rfl) ?_
        refine j_get C dX5_put_33 36 rfl hiX1 4 rfl rfl 2 (by decide) rfl kX5_put_f206 rfl ?_
        refine j_iconst (v := 1) C dX5_put_36 37 rfl (by decide) ?_
        refine j_isub C dX5_put_37 38 rfl ?_
        refine j_cs0I (na := 3) C dX5_put_38 41 rfl (c_X5_isIn τ  x2 (0 : Int32) ((ssi 0) - 1) ) rfl ggX5_put_X5_isIn rfl rfl rfl kX5_put_iRX5 kX5_put_m79 kX5_put_sX5_isIn qd_X5_isIn rfl ⟨by decide, by decide⟩ ⟨by decide, by decide⟩ rfl (Nat.le_of_ble_eq_true rfl) (fun r8 u8 hX8 hn8 => ?_)
        obtain rfl := (Prod.mk.inj hX8).1
        refine j_if_ne C dX5_put_41 47 rfl 44 rfl (fun c9 => ?_) (fun c9 => ?_)
        · rw [if_neg c9] at hR
          refine j_aload_n C dX5_put_47 48 rfl rfl 0 rfl ?_
          refine j_get C dX5_put_48 51 rfl hiX5 0 rfl rfl 7 (by decide) rfl kX5_put_f35 rfl ?_
          refine j_iload_n C dX5_put_51 52 rfl rfl 1 rfl ?_
          refine j_aald (t0 := 2) (b := (a 60)) (N := 4) C dX5_put_52 53 rfl 2 rfl rfl (by unfold vp_in; decide) (by rfl) ?_
          refine j_get C dX5_put_53 56 rfl hiX1 4 rfl rfl 0 (by decide) rfl kX5_put_f207 rfl ?_
          refine j_iload_n C dX5_put_56 57 rfl rfl 2 rfl ?_
          refine j_aload_n C dX5_put_57 58 rfl rfl 0 rfl ?_
          refine j_get C dX5_put_58 61 rfl hiX5 0 rfl rfl 7 (by decide) rfl kX5_put_f35 rfl ?_
          refine j_iload_n C dX5_put_61 62 rfl rfl 1 rfl ?_
          refine j_aald (t0 := 2) (b := (a 60)) (N := 4) C dX5_put_62 63 rfl 2 rfl rfl (by unfold vp_in; decide) (by rfl) ?_
          refine j_iload_n C dX5_put_63 64 rfl rfl 3 rfl ?_
          refine j_cvL (na := 1) C dX5_put_64 67 rfl (c_X1_narrowed τ (fun j => a (60 + j)) (sit 0) (ssr 0) (ssi 0) x3 ) gX5_put_X1_narrowed rfl rfl rfl qd_X1_narrowed rfl ⟨by decide, by decide⟩ ⟨by decide, by decide⟩ rfl (Nat.le_of_ble_eq_true rfl) [4, 5] [0, 1, 2, 3, 6, 7, 8, 9, 10, 11] [0, 1, 2, 3, 10, 11, 4, 5, 6, 7, 8, 9] ((wX τ a rws isv rc) ++ [(a 62, .inr (1, [.ref (a 63), .int (ssr 1), .int (ssi 1)])), (a 63, .inl (τ.2.2.1 1, 40, .inr (.inl (sit 1)))), (a 64, .inr (1, [.ref (a 65), .int (ssr 2), .int (ssi 2)])), (a 65, .inl (τ.2.2.1 1, 40, .inr (.inl (sit 2)))), (a 66, .inr (1, [.ref (a 67), .int (ssr 3), .int (ssi 3)])), (a 67, .inl (τ.2.2.1 1, 40, .inr (.inl (sit 3))))]) rfl (by decide) rfl (by decide) (by decide) 1 0 rfl rfl (fun u => ((wX τ a rws isv rc) ++ (wSS τ a sit ssr ssi))) (fun _ => rfl) (by decide) (fun r10 u10 hX10 => ?_)
          obtain rfl := (Prod.mk.inj hX10).1
          refine j_last C dX5_put_67 68 rfl 5 rfl (vps c9 (hsi _).1 (hsi _).2) (x2).toNatClampNeg rfl ((wX τ a rws isv rc) ++ (wSS τ a (upS sit 0 (vp_updL (sit 0) (x2).toNatClampNeg (f_X1_narrowed (ssr 0) x3))) ssr ssi)) rfl ?_
          refine j_iconst (v := 1) C dX5_put_68 69 rfl (by decide) ?_
          exact Rt.ret (hR) rfl dX5_put_69
        · rw [if_pos c9] at hR
          refine j_bipush (v := (-12)) C dX5_put_44 46 rfl (by decide) ?_
          exact Rt.ret (hR) rfl dX5_put_46
      · rw [if_pos c7] at hR
        refine j_bipush (v := (-11)) C dX5_put_22 24 rfl (by decide) ?_
        exact Rt.ret (hR) rfl dX5_put_24
    · try rw [show (1 : Int32).toNatClampNeg = 1 from rfl] at hR
      refine j_aald (t0 := 2) (b := (a 62)) (N := 4) C dX5_put_14 15 rfl 2 rfl rfl (by unfold vp_in; decide) (by rfl) ?_
      refine j_get C dX5_put_15 18 rfl hiX1 6 rfl rfl 1 (by decide) rfl kX5_put_f196 rfl ?_
      refine j_iconst (v := (-1)) C dX5_put_18 19 rfl (by decide) ?_
      refine j_icmp_ne C dX5_put_19 25 rfl 22 rfl (fun c11 => ?_) (fun c11 => ?_)
      · rw [if_neg c11] at hR
        refine j_iload_n C dX5_put_25 26 rfl rfl 2 rfl ?_
        refine j_iconst (v := 0) C dX5_put_26 27 rfl (by decide) ?_
        refine j_aload_n C dX5_put_27 28 rfl rfl 0 rfl ?_
        refine j_get C dX5_put_28 31 rfl hiX5 0 rfl rfl 7 (by decide) rfl kX5_put_f35 rfl ?_
        refine j_iload_n C dX5_put_31 32 rfl rfl 1 rfl ?_
        refine j_aald (t0 := 2) (b := (a 62)) (N := 4) C dX5_put_32 33 rfl 2 rfl rfl (by unfold vp_in; decide) (by rfl) ?_
        refine j_get C dX5_put_33 36 rfl hiX1 6 rfl rfl 2 (by decide) rfl kX5_put_f206 rfl ?_
        refine j_iconst (v := 1) C dX5_put_36 37 rfl (by decide) ?_
        refine j_isub C dX5_put_37 38 rfl ?_
        refine j_cs0I (na := 3) C dX5_put_38 41 rfl (c_X5_isIn τ  x2 (0 : Int32) ((ssi 1) - 1) ) rfl ggX5_put_X5_isIn rfl rfl rfl kX5_put_iRX5 kX5_put_m79 kX5_put_sX5_isIn qd_X5_isIn rfl ⟨by decide, by decide⟩ ⟨by decide, by decide⟩ rfl (Nat.le_of_ble_eq_true rfl) (fun r12 u12 hX12 hn12 => ?_)
        obtain rfl := (Prod.mk.inj hX12).1
        refine j_if_ne C dX5_put_41 47 rfl 44 rfl (fun c13 => ?_) (fun c13 => ?_)
        · rw [if_neg c13] at hR
          refine j_aload_n C dX5_put_47 48 rfl rfl 0 rfl ?_
          refine j_get C dX5_put_48 51 rfl hiX5 0 rfl rfl 7 (by decide) rfl kX5_put_f35 rfl ?_
          refine j_iload_n C dX5_put_51 52 rfl rfl 1 rfl ?_
          refine j_aald (t0 := 2) (b := (a 62)) (N := 4) C dX5_put_52 53 rfl 2 rfl rfl (by unfold vp_in; decide) (by rfl) ?_
          refine j_get C dX5_put_53 56 rfl hiX1 6 rfl rfl 0 (by decide) rfl kX5_put_f207 rfl ?_
          refine j_iload_n C dX5_put_56 57 rfl rfl 2 rfl ?_
          refine j_aload_n C dX5_put_57 58 rfl rfl 0 rfl ?_
          refine j_get C dX5_put_58 61 rfl hiX5 0 rfl rfl 7 (by decide) rfl kX5_put_f35 rfl ?_
          refine j_iload_n C dX5_put_61 62 rfl rfl 1 rfl ?_
          refine j_aald (t0 := 2) (b := (a 62)) (N := 4) C dX5_put_62 63 rfl 2 rfl rfl (by unfold vp_in; decide) (by rfl) ?_
          refine j_iload_n C dX5_put_63 64 rfl rfl 3 rfl ?_
          refine j_cvL (na := 1) C dX5_put_64 67 rfl (c_X1_narrowed τ (fun j => a (62 + j)) (sit 1) (ssr 1) (ssi 1) x3 ) gX5_put_X1_narrowed rfl rfl rfl qd_X1_narrowed rfl ⟨by decide, by decide⟩ ⟨by decide, by decide⟩ rfl (Nat.le_of_ble_eq_true rfl) [6, 7] [0, 1, 2, 3, 4, 5, 8, 9, 10, 11] [0, 1, 2, 3, 4, 5, 10, 11, 6, 7, 8, 9] ((wX τ a rws isv rc) ++ [(a 60, .inr (1, [.ref (a 61), .int (ssr 0), .int (ssi 0)])), (a 61, .inl (τ.2.2.1 1, 40, .inr (.inl (sit 0)))), (a 64, .inr (1, [.ref (a 65), .int (ssr 2), .int (ssi 2)])), (a 65, .inl (τ.2.2.1 1, 40, .inr (.inl (sit 2)))), (a 66, .inr (1, [.ref (a 67), .int (ssr 3), .int (ssi 3)])), (a 67, .inl (τ.2.2.1 1, 40, .inr (.inl (sit 3))))]) rfl (by decide) rfl (by decide) (by decide) 1 0 rfl rfl (fun u => ((wX τ a rws isv rc) ++ (wSS τ a sit ssr ssi))) (fun _ => rfl) (by decide) (fun r14 u14 hX14 => ?_)
          obtain rfl := (Prod.mk.inj hX14).1
          refine j_last C dX5_put_67 68 rfl 7 rfl (vps c13 (hsi _).1 (hsi _).2) (x2).toNatClampNeg rfl ((wX τ a rws isv rc) ++ (wSS τ a (upS sit 1 (vp_updL (sit 1) (x2).toNatClampNeg (f_X1_narrowed (ssr 1) x3))) ssr ssi)) rfl ?_
          refine j_iconst (v := 1) C dX5_put_68 69 rfl (by decide) ?_
          exact Rt.ret (hR) rfl dX5_put_69
        · rw [if_pos c13] at hR
          refine j_bipush (v := (-12)) C dX5_put_44 46 rfl (by decide) ?_
          exact Rt.ret (hR) rfl dX5_put_46
      · rw [if_pos c11] at hR
        refine j_bipush (v := (-11)) C dX5_put_22 24 rfl (by decide) ?_
        exact Rt.ret (hR) rfl dX5_put_24
    · try rw [show (2 : Int32).toNatClampNeg = 2 from rfl] at hR
      refine j_aald (t0 := 2) (b := (a 64)) (N := 4) C dX5_put_14 15 rfl 2 rfl rfl (by unfold vp_in; decide) (by rfl) ?_
      refine j_get C dX5_put_15 18 rfl hiX1 8 rfl rfl 1 (by decide) rfl kX5_put_f196 rfl ?_
      refine j_iconst (v := (-1)) C dX5_put_18 19 rfl (by decide) ?_
      refine j_icmp_ne C dX5_put_19 25 rfl 22 rfl (fun c15 => ?_) (fun c15 => ?_)
      · rw [if_neg c15] at hR
        refine j_iload_n C dX5_put_25 26 rfl rfl 2 rfl ?_
        refine j_iconst (v := 0) C dX5_put_26 27 rfl (by decide) ?_
        refine j_aload_n C dX5_put_27 28 rfl rfl 0 rfl ?_
        refine j_get C dX5_put_28 31 rfl hiX5 0 rfl rfl 7 (by decide) rfl kX5_put_f35 rfl ?_
        refine j_iload_n C dX5_put_31 32 rfl rfl 1 rfl ?_
        refine j_aald (t0 := 2) (b := (a 64)) (N := 4) C dX5_put_32 33 rfl 2 rfl rfl (by unfold vp_in; decide) (by rfl) ?_
        refine j_get C dX5_put_33 36 rfl hiX1 8 rfl rfl 2 (by decide) rfl kX5_put_f206 rfl ?_
        refine j_iconst (v := 1) C dX5_put_36 37 rfl (by decide) ?_
        refine j_isub C dX5_put_37 38 rfl ?_
        refine j_cs0I (na := 3) C dX5_put_38 41 rfl (c_X5_isIn τ  x2 (0 : Int32) ((ssi 2) - 1) ) rfl ggX5_put_X5_isIn rfl rfl rfl kX5_put_iRX5 kX5_put_m79 kX5_put_sX5_isIn qd_X5_isIn rfl ⟨by decide, by decide⟩ ⟨by decide, by decide⟩ rfl (Nat.le_of_ble_eq_true rfl) (fun r16 u16 hX16 hn16 => ?_)
        obtain rfl := (Prod.mk.inj hX16).1
        refine j_if_ne C dX5_put_41 47 rfl 44 rfl (fun c17 => ?_) (fun c17 => ?_)
        · rw [if_neg c17] at hR
          refine j_aload_n C dX5_put_47 48 rfl rfl 0 rfl ?_
          refine j_get C dX5_put_48 51 rfl hiX5 0 rfl rfl 7 (by decide) rfl kX5_put_f35 rfl ?_
          refine j_iload_n C dX5_put_51 52 rfl rfl 1 rfl ?_
          refine j_aald (t0 := 2) (b := (a 64)) (N := 4) C dX5_put_52 53 rfl 2 rfl rfl (by unfold vp_in; decide) (by rfl) ?_
          refine j_get C dX5_put_53 56 rfl hiX1 8 rfl rfl 0 (by decide) rfl kX5_put_f207 rfl ?_
          refine j_iload_n C dX5_put_56 57 rfl rfl 2 rfl ?_
          refine j_aload_n C dX5_put_57 58 rfl rfl 0 rfl ?_
          refine j_get C dX5_put_58 61 rfl hiX5 0 rfl rfl 7 (by decide) rfl kX5_put_f35 rfl ?_
          refine j_iload_n C dX5_put_61 62 rfl rfl 1 rfl ?_
          refine j_aald (t0 := 2) (b := (a 64)) (N := 4) C dX5_put_62 63 rfl 2 rfl rfl (by unfold vp_in; decide) (by rfl) ?_
          refine j_iload_n C dX5_put_63 64 rfl rfl 3 rfl ?_
          refine j_cvL (na := 1) C dX5_put_64 67 rfl (c_X1_narrowed τ (fun j => a (64 + j)) (sit 2) (ssr 2) (ssi 2) x3 ) gX5_put_X1_narrowed rfl rfl rfl qd_X1_narrowed rfl ⟨by decide, by decide⟩ ⟨by decide, by decide⟩ rfl (Nat.le_of_ble_eq_true rfl) [8, 9] [0, 1, 2, 3, 4, 5, 6, 7, 10, 11] [0, 1, 2, 3, 4, 5, 6, 7, 10, 11, 8, 9] ((wX τ a rws isv rc) ++ [(a 60, .inr (1, [.ref (a 61), .int (ssr 0), .int (ssi 0)])), (a 61, .inl (τ.2.2.1 1, 40, .inr (.inl (sit 0)))), (a 62, .inr (1, [.ref (a 63), .int (ssr 1), .int (ssi 1)])), (a 63, .inl (τ.2.2.1 1, 40, .inr (.inl (sit 1)))), (a 66, .inr (1, [.ref (a 67), .int (ssr 3), .int (ssi 3)])), (a 67, .inl (τ.2.2.1 1, 40, .inr (.inl (sit 3))))]) rfl (by decide) rfl (by decide) (by decide) 1 0 rfl rfl (fun u => ((wX τ a rws isv rc) ++ (wSS τ a sit ssr ssi))) (fun _ => rfl) (by decide) (fun r18 u18 hX18 => ?_)
          obtain rfl := (Prod.mk.inj hX18).1
          refine j_last C dX5_put_67 68 rfl 9 rfl (vps c17 (hsi _).1 (hsi _).2) (x2).toNatClampNeg rfl ((wX τ a rws isv rc) ++ (wSS τ a (upS sit 2 (vp_updL (sit 2) (x2).toNatClampNeg (f_X1_narrowed (ssr 2) x3))) ssr ssi)) rfl ?_
          refine j_iconst (v := 1) C dX5_put_68 69 rfl (by decide) ?_
          exact Rt.ret (hR) rfl dX5_put_69
        · rw [if_pos c17] at hR
          refine j_bipush (v := (-12)) C dX5_put_44 46 rfl (by decide) ?_
          exact Rt.ret (hR) rfl dX5_put_46
      · rw [if_pos c15] at hR
        refine j_bipush (v := (-11)) C dX5_put_22 24 rfl (by decide) ?_
        exact Rt.ret (hR) rfl dX5_put_24
    · try rw [show (3 : Int32).toNatClampNeg = 3 from rfl] at hR
      refine j_aald (t0 := 2) (b := (a 66)) (N := 4) C dX5_put_14 15 rfl 2 rfl rfl (by unfold vp_in; decide) (by rfl) ?_
      refine j_get C dX5_put_15 18 rfl hiX1 10 rfl rfl 1 (by decide) rfl kX5_put_f196 rfl ?_
      refine j_iconst (v := (-1)) C dX5_put_18 19 rfl (by decide) ?_
      refine j_icmp_ne C dX5_put_19 25 rfl 22 rfl (fun c19 => ?_) (fun c19 => ?_)
      · rw [if_neg c19] at hR
        refine j_iload_n C dX5_put_25 26 rfl rfl 2 rfl ?_
        refine j_iconst (v := 0) C dX5_put_26 27 rfl (by decide) ?_
        refine j_aload_n C dX5_put_27 28 rfl rfl 0 rfl ?_
        refine j_get C dX5_put_28 31 rfl hiX5 0 rfl rfl 7 (by decide) rfl kX5_put_f35 rfl ?_
        refine j_iload_n C dX5_put_31 32 rfl rfl 1 rfl ?_
        refine j_aald (t0 := 2) (b := (a 66)) (N := 4) C dX5_put_32 33 rfl 2 rfl rfl (by unfold vp_in; decide) (by rfl) ?_
        refine j_get C dX5_put_33 36 rfl hiX1 10 rfl rfl 2 (by decide) rfl kX5_put_f206 rfl ?_
        refine j_iconst (v := 1) C dX5_put_36 37 rfl (by decide) ?_
        refine j_isub C dX5_put_37 38 rfl ?_
        refine j_cs0I (na := 3) C dX5_put_38 41 rfl (c_X5_isIn τ  x2 (0 : Int32) ((ssi 3) - 1) ) rfl ggX5_put_X5_isIn rfl rfl rfl kX5_put_iRX5 kX5_put_m79 kX5_put_sX5_isIn qd_X5_isIn rfl ⟨by decide, by decide⟩ ⟨by decide, by decide⟩ rfl (Nat.le_of_ble_eq_true rfl) (fun r20 u20 hX20 hn20 => ?_)
        obtain rfl := (Prod.mk.inj hX20).1
        refine j_if_ne C dX5_put_41 47 rfl 44 rfl (fun c21 => ?_) (fun c21 => ?_)
        · rw [if_neg c21] at hR
          refine j_aload_n C dX5_put_47 48 rfl rfl 0 rfl ?_
          refine j_get C dX5_put_48 51 rfl hiX5 0 rfl rfl 7 (by decide) rfl kX5_put_f35 rfl ?_
          refine j_iload_n C dX5_put_51 52 rfl rfl 1 rfl ?_
          refine j_aald (t0 := 2) (b := (a 66)) (N := 4) C dX5_put_52 53 rfl 2 rfl rfl (by unfold vp_in; decide) (by rfl) ?_
          refine j_get C dX5_put_53 56 rfl hiX1 10 rfl rfl 0 (by decide) rfl kX5_put_f207 rfl ?_
          refine j_iload_n C dX5_put_56 57 rfl rfl 2 rfl ?_
          refine j_aload_n C dX5_put_57 58 rfl rfl 0 rfl ?_
          refine j_get C dX5_put_58 61 rfl hiX5 0 rfl rfl 7 (by decide) rfl kX5_put_f35 rfl ?_
          refine j_iload_n C dX5_put_61 62 rfl rfl 1 rfl ?_
          refine j_aald (t0 := 2) (b := (a 66)) (N := 4) C dX5_put_62 63 rfl 2 rfl rfl (by unfold vp_in; decide) (by rfl) ?_
          refine j_iload_n C dX5_put_63 64 rfl rfl 3 rfl ?_
          refine j_cvL (na := 1) C dX5_put_64 67 rfl (c_X1_narrowed τ (fun j => a (66 + j)) (sit 3) (ssr 3) (ssi 3) x3 ) gX5_put_X1_narrowed rfl rfl rfl qd_X1_narrowed rfl ⟨by decide, by decide⟩ ⟨by decide, by decide⟩ rfl (Nat.le_of_ble_eq_true rfl) [10, 11] [0, 1, 2, 3, 4, 5, 6, 7, 8, 9] [0, 1, 2, 3, 4, 5, 6, 7, 8, 9, 10, 11] ((wX τ a rws isv rc) ++ [(a 60, .inr (1, [.ref (a 61), .int (ssr 0), .int (ssi 0)])), (a 61, .inl (τ.2.2.1 1, 40, .inr (.inl (sit 0)))), (a 62, .inr (1, [.ref (a 63), .int (ssr 1), .int (ssi 1)])), (a 63, .inl (τ.2.2.1 1, 40, .inr (.inl (sit 1)))), (a 64, .inr (1, [.ref (a 65), .int (ssr 2), .int (ssi 2)])), (a 65, .inl (τ.2.2.1 1, 40, .inr (.inl (sit 2))))]) rfl (by decide) rfl (by decide) (by decide) 1 0 rfl rfl (fun u => ((wX τ a rws isv rc) ++ (wSS τ a sit ssr ssi))) (fun _ => rfl) (by decide) (fun r22 u22 hX22 => ?_)
          obtain rfl := (Prod.mk.inj hX22).1
          refine j_last C dX5_put_67 68 rfl 11 rfl (vps c21 (hsi _).1 (hsi _).2) (x2).toNatClampNeg rfl ((wX τ a rws isv rc) ++ (wSS τ a (upS sit 3 (vp_updL (sit 3) (x2).toNatClampNeg (f_X1_narrowed (ssr 3) x3))) ssr ssi)) rfl ?_
          refine j_iconst (v := 1) C dX5_put_68 69 rfl (by decide) ?_
          exact Rt.ret (hR) rfl dX5_put_69
        · rw [if_pos c21] at hR
          refine j_bipush (v := (-12)) C dX5_put_44 46 rfl (by decide) ?_
          exact Rt.ret (hR) rfl dX5_put_46
      · rw [if_pos c19] at hR
        refine j_bipush (v := (-11)) C dX5_put_22 24 rfl (by decide) ?_
        exact Rt.ret (hR) rfl dX5_put_24
  · rw [if_pos c2] at hR
    refine j_iconst (v := (-1)) C dX5_put_7 8 rfl (by decide) ?_
    exact Rt.ret (hR) rfl dX5_put_8

-- X5_item main sheets
def f_X5_item (sit : Nat → Nat → Int64) (ssr : Nat → Int32) (ssi : Nat → Int32) (x1 : Int32) (x2 : Int32) (x3 : Int32) : Int32 := if ((f_X5_isSheet x1) = 0) then ((-1) : Int32) else (if ((f_X5_isIn x2 (0 : Int32) (3 : Int32)) = 0) then ((-1) : Int32) else (if ((ssr (x1).toNatClampNeg) = (-1)) then ((-11) : Int32) else (if ((ssr (x1).toNatClampNeg) = x2) then (if ((f_X5_isIn x3 (0 : Int32) ((ssi (x1).toNatClampNeg) - 1)) = 0) then ((-12) : Int32) else ((((sit (x1).toNatClampNeg) (x3).toNatClampNeg) : Int64).toInt32)) else ((-13) : Int32))))
theorem kX5_item_iRX5 : Cond.initialized yX5_isIn.cls ∈ wsX5_item := by decide +kernel
theorem kX5_item_sX5_isSheet : Cond.static yX5_isSheet ∈ wsX5_item := by decide +kernel
theorem kX5_item_m193 : Cond.methodLink RX5 193 yX5_isSheet ∈ wsX5_item := by decide +kernel
theorem kX5_item_sX5_isIn : Cond.static yX5_isIn ∈ wsX5_item := by decide +kernel
theorem kX5_item_m79 : Cond.methodLink RX5 79 yX5_isIn ∈ wsX5_item := by decide +kernel
theorem kX5_item_f35 : Cond.fieldLink RX5 35 "TwoMinutes" "sheets" "[LTwoMinutes$Sheet;" ∈ wsX5_item := by decide +kernel
theorem kX5_item_f196 : Cond.fieldLink RX5 196 "TwoMinutes$Sheet" "sort" "I" ∈ wsX5_item := by decide +kernel
theorem kX5_item_f206 : Cond.fieldLink RX5 206 "TwoMinutes$Sheet" "size" "I" ∈ wsX5_item := by decide +kernel
theorem kX5_item_f207 : Cond.fieldLink RX5 207 "TwoMinutes$Sheet" "items" "[J" ∈ wsX5_item := by decide +kernel
theorem qd_X5_item : yX5_item.cls = RX5 ∧ yX5_item.cls ≠ "java/lang/invoke/MethodHandle" ∧ yX5_item.cls ≠ "java/lang/invoke/VarHandle" ∧ (parseMethodDescriptor yX5_item.desc).map (fun d => d.parameters.length) = some 3 := by decide +kernel
abbrev rmX5_item : Room := { frames := 2, cells := 0, slots := 0, locals := 42 }
set_option maxHeartbeats 4000000 in
set_option maxRecDepth 100000 in
theorem c_X5_item (τ : SX) (a : Nat → Nat) (rws : Nat → Int32) (isv : Int32) (rc : Int32) (sit : Nat → Nat → Int64) (ssr : Nat → Int32) (ssi : Nat → Int32) (x1 : Int32) (x2 : Int32) (x3 : Int32) (hrc0 : 0 ≤ rc.toInt) (hrc : rc.toInt ≤ 10) (hsi : ∀ i, 0 ≤ (ssi i).toInt ∧ (ssi i).toInt ≤ 40) (sz : Nat) : McI τ yX5_item wsX5_item rmX5_item .int [.ref (a 0), .int x1, .int x2, .int x3] ((wX τ a rws isv rc) ++ (wSS τ a sit ssr ssi)) (fun _ : Unit => ((wX τ a rws isv rc) ++ (wSS τ a sit ssr ssi))) (f_X5_item sit ssr ssi x1 x2 x3, ()) sz := by
  refine mc_I (cc := cX5_item) (own := RX5) [(0, .ref (a 0)), (1, .int x1), (2, .int x2), (3, .int x3)] rfl (by decide) rfl rfl (Nat.le_of_ble_eq_true rfl) (fun κ C hR => ?_)
  have hiX1 : ∀ w ∈ wsX10, w ∈ wsX5_item := fun w h => List.mem_cons_of_mem _ (List.mem_append_right _ h)
  have hiX5 : ∀ w ∈ wsX50, w ∈ wsX5_item := fun w h => List.mem_cons_of_mem _ (List.mem_append_left _ (List.mem_append_right _ h))
  unfold f_X5_item at hR
  refine j_iload_n C dX5_item_0 1 rfl rfl 1 rfl ?_
  refine j_cs0I (na := 1) C dX5_item_1 4 rfl (c_X5_isSheet τ  x1 ) rfl ggX5_item_X5_isSheet rfl rfl rfl kX5_item_iRX5 kX5_item_m193 kX5_item_sX5_isSheet qd_X5_isSheet rfl ⟨by decide, by decide⟩ ⟨by decide, by decide⟩ rfl (Nat.le_of_ble_eq_true rfl) (fun r1 u1 hX1 hn1 => ?_)
  obtain rfl := (Prod.mk.inj hX1).1
  refine j_if_eq C dX5_item_4 16 rfl 7 rfl (fun c2 => ?_) (fun c2 => ?_)
  · rw [if_pos c2] at hR
    refine j_iconst (v := (-1)) C dX5_item_16 17 rfl (by decide) ?_
    exact Rt.ret (hR) rfl dX5_item_17
  · rw [if_neg c2] at hR
    refine j_iload_n C dX5_item_7 8 rfl rfl 2 rfl ?_
    refine j_iconst (v := 0) C dX5_item_8 9 rfl (by decide) ?_
    refine j_iconst (v := 3) C dX5_item_9 10 rfl (by decide) ?_
    refine j_cs0I (na := 3) C dX5_item_10 13 rfl (c_X5_isIn τ  x2 (0 : Int32) (3 : Int32) ) rfl ggX5_item_X5_isIn rfl rfl rfl kX5_item_iRX5 kX5_item_m79 kX5_item_sX5_isIn qd_X5_isIn rfl ⟨by decide, by decide⟩ ⟨by decide, by decide⟩ rfl (Nat.le_of_ble_eq_true rfl) (fun r3 u3 hX3 hn3 => ?_)
    obtain rfl := (Prod.mk.inj hX3).1
    refine j_if_ne C dX5_item_13 18 rfl 16 rfl (fun c4 => ?_) (fun c4 => ?_)
    · rw [if_neg c4] at hR
      refine j_aload_n C dX5_item_18 19 rfl rfl 0 rfl ?_
      refine j_get C dX5_item_19 22 rfl hiX5 0 rfl rfl 7 (by decide) rfl kX5_item_f35 rfl ?_
      refine j_iload_n C dX5_item_22 23 rfl rfl 1 rfl ?_
      rcases four_of (n := x1) (in_sheet c2) with rfl | rfl | rfl | rfl
      · try rw [show (0 : Int32).toNatClampNeg = 0 from rfl] at hR
        refine j_aald (t0 := 2) (b := (a 60)) (N := 4) C dX5_item_23 24 rfl 2 rfl rfl (by unfold vp_in; decide) (by rfl) ?_
        refine j_get C dX5_item_24 27 rfl hiX1 4 rfl rfl 1 (by decide) rfl kX5_item_f196 rfl ?_
        refine j_iconst (v := (-1)) C dX5_item_27 28 rfl (by decide) ?_
        refine j_icmp_ne C dX5_item_28 34 rfl 31 rfl (fun c9 => ?_) (fun c9 => ?_)
        · rw [if_neg c9] at hR
          refine j_aload_n C dX5_item_34 35 rfl rfl 0 rfl ?_
          refine j_get C dX5_item_35 38 rfl hiX5 0 rfl rfl 7 (by decide) rfl kX5_item_f35 rfl ?_
          refine j_iload_n C dX5_item_38 39 rfl rfl 1 rfl ?_
          refine j_aald (t0 := 2) (b := (a 60)) (N := 4) C dX5_item_39 40 rfl 2 rfl rfl (by unfold vp_in; decide) (by rfl) ?_
          refine j_get C dX5_item_40 43 rfl hiX1 4 rfl rfl 1 (by decide) rfl kX5_item_f196 rfl ?_
          refine j_iload_n C dX5_item_43 44 rfl rfl 2 rfl ?_
          refine j_icmp_eq C dX5_item_44 50 rfl 47 rfl (fun c10 => ?_) (fun c10 => ?_)
          · rw [if_pos c10] at hR
            refine j_iload_n C dX5_item_50 51 rfl rfl 3 rfl ?_
            refine j_iconst (v := 0) C dX5_item_51 52 rfl (by decide) ?_
            refine j_aload_n C dX5_item_52 53 rfl rfl 0 rfl ?_
            refine j_get C dX5_item_53 56 rfl hiX5 0 rfl rfl 7 (by decide) rfl kX5_item_f35 rfl ?_
            refine j_iload_n C dX5_item_56 57 rfl rfl 1 rfl ?_
            refine j_aald (t0 := 2) (b := (a 60)) (N := 4) C dX5_item_57 58 rfl 2 rfl rfl (by unfold vp_in; decide) (by rfl) ?_
            refine j_get C dX5_item_58 61 rfl hiX1 4 rfl rfl 2 (by decide) rfl kX5_item_f206 rfl ?_
            refine j_iconst (v := 1) C dX5_item_61 62 rfl (by decide) ?_
            refine j_isub C dX5_item_62 63 rfl ?_
            refine j_cs0I (na := 3) C dX5_item_63 66 rfl (c_X5_isIn τ  x3 (0 : Int32) ((ssi 0) - 1) ) rfl ggX5_item_X5_isIn rfl rfl rfl kX5_item_iRX5 kX5_item_m79 kX5_item_sX5_isIn qd_X5_isIn rfl ⟨by decide, by decide⟩ ⟨by decide, by decide⟩ rfl (Nat.le_of_ble_eq_true rfl) (fun r11 u11 hX11 hn11 => ?_)
            obtain rfl := (Prod.mk.inj hX11).1
            refine j_if_ne C dX5_item_66 72 rfl 69 rfl (fun c12 => ?_) (fun c12 => ?_)
            · rw [if_neg c12] at hR
              refine j_aload_n C dX5_item_72 73 rfl rfl 0 rfl ?_
              refine j_get C dX5_item_73 76 rfl hiX5 0 rfl rfl 7 (by decide) rfl kX5_item_f35 rfl ?_
              refine j_iload_n C dX5_item_76 77 rfl rfl 1 rfl ?_
              refine j_aald (t0 := 2) (b := (a 60)) (N := 4) C dX5_item_77 78 rfl 2 rfl rfl (by unfold vp_in; decide) (by rfl) ?_
              refine j_get C dX5_item_78 81 rfl hiX1 4 rfl rfl 0 (by decide) rfl kX5_item_f207 rfl ?_
              refine j_iload_n C dX5_item_81 82 rfl rfl 3 rfl ?_
              refine j_lald C dX5_item_82 83 rfl 5 rfl (vps c12 (hsi _).1 (hsi _).2) (x3).toNatClampNeg rfl ?_
              refine j_l2i C dX5_item_83 84 rfl ?_
              exact Rt.ret (hR) rfl dX5_item_84
            · rw [if_pos c12] at hR
              refine j_bipush (v := (-12)) C dX5_item_69 71 rfl (by decide) ?_
              exact Rt.ret (hR) rfl dX5_item_71
          · rw [if_neg c10] at hR
            refine j_bipush (v := (-13)) C dX5_item_47 49 rfl (by decide) ?_
            exact Rt.ret (hR) rfl dX5_item_49
        · rw [if_pos c9] at hR
          refine j_bipush (v := (-11)) C dX5_item_31 33 rfl (by decide) ?_
          exact Rt.ret (hR) rfl dX5_item_33
      · try rw [show (1 : Int32).toNatClampNeg = 1 from rfl] at hR
        refine j_aald (t0 := 2) (b := (a 62)) (N := 4) C dX5_item_23 24 rfl 2 rfl rfl (by unfold vp_in; decide) (by rfl) ?_
        refine j_get C dX5_item_24 27 rfl hiX1 6 rfl rfl 1 (by decide) rfl kX5_item_f196 rfl ?_
        refine j_iconst (v := (-1)) C dX5_item_27 28 rfl (by decide) ?_
        refine j_icmp_ne C dX5_item_28 34 rfl 31 rfl (fun c13 => ?_) (fun c13 => ?_)
        · rw [if_neg c13] at hR
          refine j_aload_n C dX5_item_34 35 rfl rfl 0 rfl ?_
          refine j_get C dX5_item_35 38 rfl hiX5 0 rfl rfl 7 (by decide) rfl kX5_item_f35 rfl ?_
          refine j_iload_n C dX5_item_38 39 rfl rfl 1 rfl ?_
          refine j_aald (t0 := 2) (b := (a 62)) (N := 4) C dX5_item_39 40 rfl 2 rfl rfl (by unfold vp_in; decide) (by rfl) ?_
          refine j_get C dX5_item_40 43 rfl hiX1 6 rfl rfl 1 (by decide) rfl kX5_item_f196 rfl ?_
          refine j_iload_n C dX5_item_43 44 rfl rfl 2 rfl ?_
          refine j_icmp_eq C dX5_item_44 50 rfl 47 rfl (fun c14 => ?_) (fun c14 => ?_)
          · rw [if_pos c14] at hR
            refine j_iload_n C dX5_item_50 51 rfl rfl 3 rfl ?_
            refine j_iconst (v := 0) C dX5_item_51 52 rfl (by decide) ?_
            refine j_aload_n C dX5_item_52 53 rfl rfl 0 rfl ?_
            refine j_get C dX5_item_53 56 rfl hiX5 0 rfl rfl 7 (by decide) rfl kX5_item_f35 rfl ?_
            refine j_iload_n C dX5_item_56 57 rfl rfl 1 rfl ?_
            refine j_aald (t0 := 2) (b := (a 62)) (N := 4) C dX5_item_57 58 rfl 2 rfl rfl (by unfold vp_in; decide) (by rfl) ?_
            refine j_get C dX5_item_58 61 rfl hiX1 6 rfl rfl 2 (by decide) rfl kX5_item_f206 rfl ?_
            refine j_iconst (v := 1) C dX5_item_61 62 rfl (by decide) ?_
            refine j_isub C dX5_item_62 63 rfl ?_
            refine j_cs0I (na := 3) C dX5_item_63 66 rfl (c_X5_isIn τ  x3 (0 : Int32) ((ssi 1) - 1) ) rfl ggX5_item_X5_isIn rfl rfl rfl kX5_item_iRX5 kX5_item_m79 kX5_item_sX5_isIn qd_X5_isIn rfl ⟨by decide, by decide⟩ ⟨by decide, by decide⟩ rfl (Nat.le_of_ble_eq_true rfl) (fun r15 u15 hX15 hn15 => ?_)
            obtain rfl := (Prod.mk.inj hX15).1
            refine j_if_ne C dX5_item_66 72 rfl 69 rfl (fun c16 => ?_) (fun c16 => ?_)
            · rw [if_neg c16] at hR
              refine j_aload_n C dX5_item_72 73 rfl rfl 0 rfl ?_
              refine j_get C dX5_item_73 76 rfl hiX5 0 rfl rfl 7 (by decide) rfl kX5_item_f35 rfl ?_
              refine j_iload_n C dX5_item_76 77 rfl rfl 1 rfl ?_
              refine j_aald (t0 := 2) (b := (a 62)) (N := 4) C dX5_item_77 78 rfl 2 rfl rfl (by unfold vp_in; decide) (by rfl) ?_
              refine j_get C dX5_item_78 81 rfl hiX1 6 rfl rfl 0 (by decide) rfl kX5_item_f207 rfl ?_
              refine j_iload_n C dX5_item_81 82 rfl rfl 3 rfl ?_
              refine j_lald C dX5_item_82 83 rfl 7 rfl (vps c16 (hsi _).1 (hsi _).2) (x3).toNatClampNeg rfl ?_
              refine j_l2i C dX5_item_83 84 rfl ?_
              exact Rt.ret (hR) rfl dX5_item_84
            · rw [if_pos c16] at hR
              refine j_bipush (v := (-12)) C dX5_item_69 71 rfl (by decide) ?_
              exact Rt.ret (hR) rfl dX5_item_71
          · rw [if_neg c14] at hR
            refine j_bipush (v := (-13)) C dX5_item_47 49 rfl (by decide) ?_
            exact Rt.ret (hR) rfl dX5_item_49
        · rw [if_pos c13] at hR
          refine j_bipush (v := (-11)) C dX5_item_31 33 rfl (by decide) ?_
          exact Rt.ret (hR) rfl dX5_item_33
      · try rw [show (2 : Int32).toNatClampNeg = 2 from rfl] at hR
        refine j_aald (t0 := 2) (b := (a 64)) (N := 4) C dX5_item_23 24 rfl 2 rfl rfl (by unfold vp_in; decide) (by rfl) ?_
        refine j_get C dX5_item_24 27 rfl hiX1 8 rfl rfl 1 (by decide) rfl kX5_item_f196 rfl ?_
        refine j_iconst (v := (-1)) C dX5_item_27 28 rfl (by decide) ?_
        refine j_icmp_ne C dX5_item_28 34 rfl 31 rfl (fun c17 => ?_) (fun c17 => ?_)
        · rw [if_neg c17] at hR
          refine j_aload_n C dX5_item_34 35 rfl rfl 0 rfl ?_
          refine j_get C dX5_item_35 38 rfl hiX5 0 rfl rfl 7 (by decide) rfl kX5_item_f35 rfl ?_
          refine j_iload_n C dX5_item_38 39 rfl rfl 1 rfl ?_
          refine j_aald (t0 := 2) (b := (a 64)) (N := 4) C dX5_item_39 40 rfl 2 rfl rfl (by unfold vp_in; decide) (by rfl) ?_
          refine j_get C dX5_item_40 43 rfl hiX1 8 rfl rfl 1 (by decide) rfl kX5_item_f196 rfl ?_
          refine j_iload_n C dX5_item_43 44 rfl rfl 2 rfl ?_
          refine j_icmp_eq C dX5_item_44 50 rfl 47 rfl (fun c18 => ?_) (fun c18 => ?_)
          · rw [if_pos c18] at hR
            refine j_iload_n C dX5_item_50 51 rfl rfl 3 rfl ?_
            refine j_iconst (v := 0) C dX5_item_51 52 rfl (by decide) ?_
            refine j_aload_n C dX5_item_52 53 rfl rfl 0 rfl ?_
            refine j_get C dX5_item_53 56 rfl hiX5 0 rfl rfl 7 (by decide) rfl kX5_item_f35 rfl ?_
            refine j_iload_n C dX5_item_56 57 rfl rfl 1 rfl ?_
            refine j_aald (t0 := 2) (b := (a 64)) (N := 4) C dX5_item_57 58 rfl 2 rfl rfl (by unfold vp_in; decide) (by rfl) ?_
            refine j_get C dX5_item_58 61 rfl hiX1 8 rfl rfl 2 (by decide) rfl kX5_item_f206 rfl ?_
            refine j_iconst (v := 1) C dX5_item_61 62 rfl (by decide) ?_
            refine j_isub C dX5_item_62 63 rfl ?_
            refine j_cs0I (na := 3) C dX5_item_63 66 rfl (c_X5_isIn τ  x3 (0 : Int32) ((ssi 2) - 1) ) rfl ggX5_item_X5_isIn rfl rfl rfl kX5_item_iRX5 kX5_item_m79 kX5_item_sX5_isIn qd_X5_isIn rfl ⟨by decide, by decide⟩ ⟨by decide, by decide⟩ rfl (Nat.le_of_ble_eq_true rfl) (fun r19 u19 hX19 hn19 => ?_)
            obtain rfl := (Prod.mk.inj hX19).1
            refine j_if_ne C dX5_item_66 72 rfl 69 rfl (fun c20 => ?_) (fun c20 => ?_)
            · rw [if_neg c20] at hR
              refine j_aload_n C dX5_item_72 73 rfl rfl 0 rfl ?_
              refine j_get C dX5_item_73 76 rfl hiX5 0 rfl rfl 7 (by decide) rfl kX5_item_f35 rfl ?_
              refine j_iload_n C dX5_item_76 77 rfl rfl 1 rfl ?_
              refine j_aald (t0 := 2) (b := (a 64)) (N := 4) C dX5_item_77 78 rfl 2 rfl rfl (by unfold vp_in; decide) (by rfl) ?_
              refine j_get C dX5_item_78 81 rfl hiX1 8 rfl rfl 0 (by decide) rfl kX5_item_f207 rfl ?_
              refine j_iload_n C dX5_item_81 82 rfl rfl 3 rfl ?_
              refine j_lald C dX5_item_82 83 rfl 9 rfl (vps c20 (hsi _).1 (hsi _).2) (x3).toNatClampNeg rfl ?_
              refine j_l2i C dX5_item_83 84 rfl ?_
              exact Rt.ret (hR) rfl dX5_item_84
            · rw [if_pos c20] at hR
              refine j_bipush (v := (-12)) C dX5_item_69 71 rfl (by decide) ?_
              exact Rt.ret (hR) rfl dX5_item_71
          · rw [if_neg c18] at hR
            refine j_bipush (v := (-13)) C dX5_item_47 49 rfl (by decide) ?_
            exact Rt.ret (hR) rfl dX5_item_49
        · rw [if_pos c17] at hR
          refine j_bipush (v := (-11)) C dX5_item_31 33 rfl (by decide) ?_
          exact Rt.ret (hR) rfl dX5_item_33
      · try rw [show (3 : Int32).toNatClampNeg = 3 from rfl] at hR
        refine j_aald (t0 := 2) (b := (a 66)) (N := 4) C dX5_item_23 24 rfl 2 rfl rfl (by unfold vp_in; decide) (by rfl) ?_
        refine j_get C dX5_item_24 27 rfl hiX1 10 rfl rfl 1 (by decide) rfl kX5_item_f196 rfl ?_
        refine j_iconst (v := (-1)) C dX5_item_27 28 rfl (by decide) ?_
        refine j_icmp_ne C dX5_item_28 34 rfl 31 rfl (fun c21 => ?_) (fun c21 => ?_)
        · rw [if_neg c21] at hR
          refine j_aload_n C dX5_item_34 35 rfl rfl 0 rfl ?_
          refine j_get C dX5_item_35 38 rfl hiX5 0 rfl rfl 7 (by decide) rfl kX5_item_f35 rfl ?_
          refine j_iload_n C dX5_item_38 39 rfl rfl 1 rfl ?_
          refine j_aald (t0 := 2) (b := (a 66)) (N := 4) C dX5_item_39 40 rfl 2 rfl rfl (by unfold vp_in; decide) (by rfl) ?_
          refine j_get C dX5_item_40 43 rfl hiX1 10 rfl rfl 1 (by decide) rfl kX5_item_f196 rfl ?_
          refine j_iload_n C dX5_item_43 44 rfl rfl 2 rfl ?_
          refine j_icmp_eq C dX5_item_44 50 rfl 47 rfl (fun c22 => ?_) (fun c22 => ?_)
          · rw [if_pos c22] at hR
            refine j_iload_n C dX5_item_50 51 rfl rfl 3 rfl ?_
            refine j_iconst (v := 0) C dX5_item_51 52 rfl (by decide) ?_
            refine j_aload_n C dX5_item_52 53 rfl rfl 0 rfl ?_
            refine j_get C dX5_item_53 56 rfl hiX5 0 rfl rfl 7 (by decide) rfl kX5_item_f35 rfl ?_
            refine j_iload_n C dX5_item_56 57 rfl rfl 1 rfl ?_
            refine j_aald (t0 := 2) (b := (a 66)) (N := 4) C dX5_item_57 58 rfl 2 rfl rfl (by unfold vp_in; decide) (by rfl) ?_
            refine j_get C dX5_item_58 61 rfl hiX1 10 rfl rfl 2 (by decide) rfl kX5_item_f206 rfl ?_
            refine j_iconst (v := 1) C dX5_item_61 62 rfl (by decide) ?_
            refine j_isub C dX5_item_62 63 rfl ?_
            refine j_cs0I (na := 3) C dX5_item_63 66 rfl (c_X5_isIn τ  x3 (0 : Int32) ((ssi 3) - 1) ) rfl ggX5_item_X5_isIn rfl rfl rfl kX5_item_iRX5 kX5_item_m79 kX5_item_sX5_isIn qd_X5_isIn rfl ⟨by decide, by decide⟩ ⟨by decide, by decide⟩ rfl (Nat.le_of_ble_eq_true rfl) (fun r23 u23 hX23 hn23 => ?_)
            obtain rfl := (Prod.mk.inj hX23).1
            refine j_if_ne C dX5_item_66 72 rfl 69 rfl (fun c24 => ?_) (fun c24 => ?_)
            · rw [if_neg c24] at hR
              refine j_aload_n C dX5_item_72 73 rfl rfl 0 rfl ?_
              refine j_get C dX5_item_73 76 rfl hiX5 0 rfl rfl 7 (by decide) rfl kX5_item_f35 rfl ?_
              refine j_iload_n C dX5_item_76 77 rfl rfl 1 rfl ?_
              refine j_aald (t0 := 2) (b := (a 66)) (N := 4) C dX5_item_77 78 rfl 2 rfl rfl (by unfold vp_in; decide) (by rfl) ?_
              refine j_get C dX5_item_78 81 rfl hiX1 10 rfl rfl 0 (by decide) rfl kX5_item_f207 rfl ?_
              refine j_iload_n C dX5_item_81 82 rfl rfl 3 rfl ?_
              refine j_lald C dX5_item_82 83 rfl 11 rfl (vps c24 (hsi _).1 (hsi _).2) (x3).toNatClampNeg rfl ?_
              refine j_l2i C dX5_item_83 84 rfl ?_
              exact Rt.ret (hR) rfl dX5_item_84
            · rw [if_pos c24] at hR
              refine j_bipush (v := (-12)) C dX5_item_69 71 rfl (by decide) ?_
              exact Rt.ret (hR) rfl dX5_item_71
          · rw [if_neg c22] at hR
            refine j_bipush (v := (-13)) C dX5_item_47 49 rfl (by decide) ?_
            exact Rt.ret (hR) rfl dX5_item_49
        · rw [if_pos c21] at hR
          refine j_bipush (v := (-11)) C dX5_item_31 33 rfl (by decide) ?_
          exact Rt.ret (hR) rfl dX5_item_33
    · rw [if_pos c4] at hR
      refine j_iconst (v := (-1)) C dX5_item_16 17 rfl (by decide) ?_
      exact Rt.ret (hR) rfl dX5_item_17

-- X5_sheet main sheets
def f_X5_sheet (sit : Nat → Nat → Int64) (ssr : Nat → Int32) (ssi : Nat → Int32) (x1 : Int32) (x2 : Int32) (x3 : Int32) : Int32 × (Nat → Nat → Int64) × (Nat → Int32) × (Nat → Int32) := if ((f_X5_isSheet x1) = 0) then (((-1) : Int32), sit, ssr, ssi) else (if ((f_X5_isIn x2 ((-1) : Int32) (3 : Int32)) = 0) then (((-1) : Int32), sit, ssr, ssi) else (if (x2 = (-1)) then (if (x2 = (-1)) then (pr1 (if (x2 = (-1)) then (0 : Int32) else x3) (fun j52_0 => pr3 (f_X1_become (sit (x1).toNatClampNeg) x2 j52_0) (fun it_8 sr_8 si_8 => ((1 : Int32), (upS sit (x1).toNatClampNeg it_8), (upd ssr (x1).toNatClampNeg sr_8), (upd ssi (x1).toNatClampNeg si_8))))) else (if (0 ≤ x3) then (pr1 (if (x2 = (-1)) then (0 : Int32) else x3) (fun j52_0 => pr3 (f_X1_become (sit (x1).toNatClampNeg) x2 j52_0) (fun it_19 sr_19 si_19 => ((1 : Int32), (upS sit (x1).toNatClampNeg it_19), (upd ssr (x1).toNatClampNeg sr_19), (upd ssi (x1).toNatClampNeg si_19))))) else (((-14) : Int32), sit, ssr, ssi))) else (if (x3 ≤ 40) then (if (x2 = (-1)) then (pr1 (if (x2 = (-1)) then (0 : Int32) else x3) (fun j52_0 => pr3 (f_X1_become (sit (x1).toNatClampNeg) x2 j52_0) (fun it_31 sr_31 si_31 => ((1 : Int32), (upS sit (x1).toNatClampNeg it_31), (upd ssr (x1).toNatClampNeg sr_31), (upd ssi (x1).toNatClampNeg si_31))))) else (if (0 ≤ x3) then (pr1 (if (x2 = (-1)) then (0 : Int32) else x3) (fun j52_0 => pr3 (f_X1_become (sit (x1).toNatClampNeg) x2 j52_0) (fun it_42 sr_42 si_42 => ((1 : Int32), (upS sit (x1).toNatClampNeg it_42), (upd ssr (x1).toNatClampNeg sr_42), (upd ssi (x1).toNatClampNeg si_42))))) else (((-14) : Int32), sit, ssr, ssi))) else (((-1) : Int32), sit, ssr, ssi))))
theorem kX5_sheet_iRX5 : Cond.initialized yX5_isIn.cls ∈ wsX5_sheet := by decide +kernel
theorem kX5_sheet_sX5_isSheet : Cond.static yX5_isSheet ∈ wsX5_sheet := by decide +kernel
theorem kX5_sheet_m193 : Cond.methodLink RX5 193 yX5_isSheet ∈ wsX5_sheet := by decide +kernel
theorem kX5_sheet_sX5_isIn : Cond.static yX5_isIn ∈ wsX5_sheet := by decide +kernel
theorem kX5_sheet_m79 : Cond.methodLink RX5 79 yX5_isIn ∈ wsX5_sheet := by decide +kernel
theorem kX5_sheet_f35 : Cond.fieldLink RX5 35 "TwoMinutes" "sheets" "[LTwoMinutes$Sheet;" ∈ wsX5_sheet := by decide +kernel
theorem qd_X5_sheet : yX5_sheet.cls = RX5 ∧ yX5_sheet.cls ≠ "java/lang/invoke/MethodHandle" ∧ yX5_sheet.cls ≠ "java/lang/invoke/VarHandle" ∧ (parseMethodDescriptor yX5_sheet.desc).map (fun d => d.parameters.length) = some 3 := by decide +kernel
abbrev rmX5_sheet : Room := { frames := 2, cells := 0, slots := 0, locals := 44 }
set_option maxHeartbeats 4000000 in
set_option maxRecDepth 100000 in
theorem c_X5_sheet (τ : SX) (a : Nat → Nat) (rws : Nat → Int32) (isv : Int32) (rc : Int32) (sit : Nat → Nat → Int64) (ssr : Nat → Int32) (ssi : Nat → Int32) (x1 : Int32) (x2 : Int32) (x3 : Int32) (hrc0 : 0 ≤ rc.toInt) (hrc : rc.toInt ≤ 10) (hsi : ∀ i, 0 ≤ (ssi i).toInt ∧ (ssi i).toInt ≤ 40) (sz : Nat) : McI τ yX5_sheet wsX5_sheet rmX5_sheet .int [.ref (a 0), .int x1, .int x2, .int x3] ((wX τ a rws isv rc) ++ (wSS τ a sit ssr ssi)) (fun u : (Nat → Nat → Int64) × (Nat → Int32) × (Nat → Int32) => ((wX τ a rws isv rc) ++ (wSS τ a u.1 u.2.1 u.2.2))) (f_X5_sheet sit ssr ssi x1 x2 x3) sz := by
  refine mc_I (cc := cX5_sheet) (own := RX5) [(0, .ref (a 0)), (1, .int x1), (2, .int x2), (3, .int x3)] rfl (by decide) rfl rfl (Nat.le_of_ble_eq_true rfl) (fun κ C hR => ?_)
  have hiX1 : ∀ w ∈ wsX10, w ∈ wsX5_sheet := fun w h => List.mem_cons_of_mem _ (List.mem_append_right _ h)
  have hiX5 : ∀ w ∈ wsX50, w ∈ wsX5_sheet := fun w h => List.mem_cons_of_mem _ (List.mem_append_left _ (List.mem_append_right _ h))
  unfold f_X5_sheet at hR
  refine j_iload_n C dX5_sheet_0 1 rfl rfl 1 rfl ?_
  refine j_cs0I (na := 1) C dX5_sheet_1 4 rfl (c_X5_isSheet τ  x1 ) rfl ggX5_sheet_X5_isSheet rfl rfl rfl kX5_sheet_iRX5 kX5_sheet_m193 kX5_sheet_sX5_isSheet qd_X5_isSheet rfl ⟨by decide, by decide⟩ ⟨by decide, by decide⟩ rfl (Nat.le_of_ble_eq_true rfl) (fun r1 u1 hX1 hn1 => ?_)
  obtain rfl := (Prod.mk.inj hX1).1
  refine j_if_eq C dX5_sheet_4 16 rfl 7 rfl (fun c2 => ?_) (fun c2 => ?_)
  · rw [if_pos c2] at hR
    refine j_iconst (v := (-1)) C dX5_sheet_16 17 rfl (by decide) ?_
    exact Rt.ret (hR) rfl dX5_sheet_17
  · rw [if_neg c2] at hR
    refine j_iload_n C dX5_sheet_7 8 rfl rfl 2 rfl ?_
    refine j_iconst (v := (-1)) C dX5_sheet_8 9 rfl (by decide) ?_
    refine j_iconst (v := 3) C dX5_sheet_9 10 rfl (by decide) ?_
    refine j_cs0I (na := 3) C dX5_sheet_10 13 rfl (c_X5_isIn τ  x2 ((-1) : Int32) (3 : Int32) ) rfl ggX5_sheet_X5_isIn rfl rfl rfl kX5_sheet_iRX5 kX5_sheet_m79 kX5_sheet_sX5_isIn qd_X5_isIn rfl ⟨by decide, by decide⟩ ⟨by decide, by decide⟩ rfl (Nat.le_of_ble_eq_true rfl) (fun r3 u3 hX3 hn3 => ?_)
    obtain rfl := (Prod.mk.inj hX3).1
    refine j_if_ne C dX5_sheet_13 18 rfl 16 rfl (fun c4 => ?_) (fun c4 => ?_)
    · rw [if_neg c4] at hR
      refine j_iload_n C dX5_sheet_18 19 rfl rfl 2 rfl ?_
      refine j_iconst (v := (-1)) C dX5_sheet_19 20 rfl (by decide) ?_
      refine j_icmp_eq C dX5_sheet_20 31 rfl 23 rfl (fun c5 => ?_) (fun c5 => ?_)
      · rw [if_pos c5] at hR
        refine j_iload_n C dX5_sheet_31 32 rfl rfl 2 rfl ?_
        refine j_iconst (v := (-1)) C dX5_sheet_32 33 rfl (by decide) ?_
        refine j_icmp_eq C dX5_sheet_33 43 rfl 36 rfl (fun c6 => ?_) (fun c6 => ?_)
        · rw [if_pos c6] at hR
          refine j_aload_n C dX5_sheet_43 44 rfl rfl 0 rfl ?_
          refine j_get C dX5_sheet_44 47 rfl hiX5 0 rfl rfl 7 (by decide) rfl kX5_sheet_f35 rfl ?_
          refine j_iload_n C dX5_sheet_47 48 rfl rfl 1 rfl ?_
          rcases four_of (n := x1) (in_sheet c2) with rfl | rfl | rfl | rfl
          · try rw [show (0 : Int32).toNatClampNeg = 0 from rfl] at hR
            refine j_aald (t0 := 2) (b := (a 60)) (N := 4) C dX5_sheet_48 49 rfl 2 rfl rfl (by unfold vp_in; decide) (by rfl) ?_
            refine j_iload_n C dX5_sheet_49 50 rfl rfl 2 rfl ?_
            refine j_iload_n C dX5_sheet_50 51 rfl rfl 2 rfl ?_
            refine j_iconst (v := (-1)) C dX5_sheet_51 52 rfl (by decide) ?_
            have J52 : ∀ (j52_0 : Int32), Rt τ κ cX5_sheet .int (fun u : (Nat → Nat → Int64) × (Nat → Int32) × (Nat → Int32) => ((wX τ a rws isv rc) ++ (wSS τ a u.1 u.2.1 u.2.2))) (pr3 (f_X1_become (sit 0) x2 j52_0) (fun it_10 sr_10 si_10 => ((1 : Int32), (upS sit 0 it_10), (upd ssr 0 sr_10), (upd ssi 0 si_10)))) → J τ κ 0 0 ((wX τ a rws isv rc) ++ (wSS τ a sit ssr ssi)) [(0, .ref (a 0)), (1, .int 0), (2, .int x2), (3, .int x3)] 60 [.int j52_0, .int x2, .ref (a 60)] := by
              intro j52_0  hR
              refine j_cvV (na := 2) C dX5_sheet_60 63 rfl (c_X1_become τ (fun j => a (60 + j)) (sit 0) (ssr 0) (ssi 0) x2 j52_0 ) gX5_sheet_X1_become rfl rfl rfl qd_X1_become rfl ⟨by decide, by decide⟩ ⟨by decide, by decide⟩ rfl (Nat.le_of_ble_eq_true rfl) [4, 5] [0, 1, 2, 3, 6, 7, 8, 9, 10, 11] [0, 1, 2, 3, 10, 11, 4, 5, 6, 7, 8, 9] ((wX τ a rws isv rc) ++ [(a 62, .inr (1, [.ref (a 63), .int (ssr 1), .int (ssi 1)])), (a 63, .inl (τ.2.2.1 1, 40, .inr (.inl (sit 1)))), (a 64, .inr (1, [.ref (a 65), .int (ssr 2), .int (ssi 2)])), (a 65, .inl (τ.2.2.1 1, 40, .inr (.inl (sit 2)))), (a 66, .inr (1, [.ref (a 67), .int (ssr 3), .int (ssi 3)])), (a 67, .inl (τ.2.2.1 1, 40, .inr (.inl (sit 3))))]) rfl (by decide) rfl (by decide) (by decide) 1 0 rfl rfl (fun u => ((wX τ a rws isv rc) ++ (wSS τ a (upS sit 0 u.1) (upd ssr 0 u.2.1) (upd ssi 0 u.2.2)))) (fun _ => rfl) (by decide) (fun u10 hX10 => ?_)
              obtain ⟨it_10, sr_10, si_10⟩ := u10
              rw [hX10] at hR; rw [pr3_mk it_10 sr_10 si_10] at hR
              refine j_iconst (v := 1) C dX5_sheet_63 64 rfl (by decide) ?_
              exact Rt.ret (hR) rfl dX5_sheet_64
            refine j_icmp_ne C dX5_sheet_52 59 rfl 55 rfl (fun c9 => ?_) (fun c9 => ?_)
            · rw [if_neg c9] at hR
              refine j_iload_n C dX5_sheet_59 60 rfl rfl 3 rfl ?_
              rw [pr1_mk x3] at hR
              exact j_lv [0, 1, 2, 3] [(0, .ref (a 0)), (1, .int 0), (2, .int x2), (3, .int x3)] rfl (J52 _  hR)
            · rw [if_pos c9] at hR
              refine j_iconst (v := 0) C dX5_sheet_55 56 rfl (by decide) ?_
              refine j_goto C dX5_sheet_56 60 rfl ?_
              rw [pr1_mk (0 : Int32)] at hR
              exact j_lv [0, 1, 2, 3] [(0, .ref (a 0)), (1, .int 0), (2, .int x2), (3, .int x3)] rfl (J52 _  hR)
          · try rw [show (1 : Int32).toNatClampNeg = 1 from rfl] at hR
            refine j_aald (t0 := 2) (b := (a 62)) (N := 4) C dX5_sheet_48 49 rfl 2 rfl rfl (by unfold vp_in; decide) (by rfl) ?_
            refine j_iload_n C dX5_sheet_49 50 rfl rfl 2 rfl ?_
            refine j_iload_n C dX5_sheet_50 51 rfl rfl 2 rfl ?_
            refine j_iconst (v := (-1)) C dX5_sheet_51 52 rfl (by decide) ?_
            have J52 : ∀ (j52_0 : Int32), Rt τ κ cX5_sheet .int (fun u : (Nat → Nat → Int64) × (Nat → Int32) × (Nat → Int32) => ((wX τ a rws isv rc) ++ (wSS τ a u.1 u.2.1 u.2.2))) (pr3 (f_X1_become (sit 1) x2 j52_0) (fun it_12 sr_12 si_12 => ((1 : Int32), (upS sit 1 it_12), (upd ssr 1 sr_12), (upd ssi 1 si_12)))) → J τ κ 0 0 ((wX τ a rws isv rc) ++ (wSS τ a sit ssr ssi)) [(0, .ref (a 0)), (1, .int 1), (2, .int x2), (3, .int x3)] 60 [.int j52_0, .int x2, .ref (a 62)] := by
              intro j52_0  hR
              refine j_cvV (na := 2) C dX5_sheet_60 63 rfl (c_X1_become τ (fun j => a (62 + j)) (sit 1) (ssr 1) (ssi 1) x2 j52_0 ) gX5_sheet_X1_become rfl rfl rfl qd_X1_become rfl ⟨by decide, by decide⟩ ⟨by decide, by decide⟩ rfl (Nat.le_of_ble_eq_true rfl) [6, 7] [0, 1, 2, 3, 4, 5, 8, 9, 10, 11] [0, 1, 2, 3, 4, 5, 10, 11, 6, 7, 8, 9] ((wX τ a rws isv rc) ++ [(a 60, .inr (1, [.ref (a 61), .int (ssr 0), .int (ssi 0)])), (a 61, .inl (τ.2.2.1 1, 40, .inr (.inl (sit 0)))), (a 64, .inr (1, [.ref (a 65), .int (ssr 2), .int (ssi 2)])), (a 65, .inl (τ.2.2.1 1, 40, .inr (.inl (sit 2)))), (a 66, .inr (1, [.ref (a 67), .int (ssr 3), .int (ssi 3)])), (a 67, .inl (τ.2.2.1 1, 40, .inr (.inl (sit 3))))]) rfl (by decide) rfl (by decide) (by decide) 1 0 rfl rfl (fun u => ((wX τ a rws isv rc) ++ (wSS τ a (upS sit 1 u.1) (upd ssr 1 u.2.1) (upd ssi 1 u.2.2)))) (fun _ => rfl) (by decide) (fun u12 hX12 => ?_)
              obtain ⟨it_12, sr_12, si_12⟩ := u12
              rw [hX12] at hR; rw [pr3_mk it_12 sr_12 si_12] at hR
              refine j_iconst (v := 1) C dX5_sheet_63 64 rfl (by decide) ?_
              exact Rt.ret (hR) rfl dX5_sheet_64
            refine j_icmp_ne C dX5_sheet_52 59 rfl 55 rfl (fun c11 => ?_) (fun c11 => ?_)
            · rw [if_neg c11] at hR
              refine j_iload_n C dX5_sheet_59 60 rfl rfl 3 rfl ?_
              rw [pr1_mk x3] at hR
              exact j_lv [0, 1, 2, 3] [(0, .ref (a 0)), (1, .int 1), (2, .int x2), (3, .int x3)] rfl (J52 _  hR)
            · rw [if_pos c11] at hR
              refine j_iconst (v := 0) C dX5_sheet_55 56 rfl (by decide) ?_
              refine j_goto C dX5_sheet_56 60 rfl ?_
              rw [pr1_mk (0 : Int32)] at hR
              exact j_lv [0, 1, 2, 3] [(0, .ref (a 0)), (1, .int 1), (2, .int x2), (3, .int x3)] rfl (J52 _  hR)
          · try rw [show (2 : Int32).toNatClampNeg = 2 from rfl] at hR
            refine j_aald (t0 := 2) (b := (a 64)) (N := 4) C dX5_sheet_48 49 rfl 2 rfl rfl (by unfold vp_in; decide) (by rfl) ?_
            refine j_iload_n C dX5_sheet_49 50 rfl rfl 2 rfl ?_
            refine j_iload_n C dX5_sheet_50 51 rfl rfl 2 rfl ?_
            refine j_iconst (v := (-1)) C dX5_sheet_51 52 rfl (by decide) ?_
            have J52 : ∀ (j52_0 : Int32), Rt τ κ cX5_sheet .int (fun u : (Nat → Nat → Int64) × (Nat → Int32) × (Nat → Int32) => ((wX τ a rws isv rc) ++ (wSS τ a u.1 u.2.1 u.2.2))) (pr3 (f_X1_become (sit 2) x2 j52_0) (fun it_14 sr_14 si_14 => ((1 : Int32), (upS sit 2 it_14), (upd ssr 2 sr_14), (upd ssi 2 si_14)))) → J τ κ 0 0 ((wX τ a rws isv rc) ++ (wSS τ a sit ssr ssi)) [(0, .ref (a 0)), (1, .int 2), (2, .int x2), (3, .int x3)] 60 [.int j52_0, .int x2, .ref (a 64)] := by
              intro j52_0  hR
              refine j_cvV (na := 2) C dX5_sheet_60 63 rfl (c_X1_become τ (fun j => a (64 + j)) (sit 2) (ssr 2) (ssi 2) x2 j52_0 ) gX5_sheet_X1_become rfl rfl rfl qd_X1_become rfl ⟨by decide, by decide⟩ ⟨by decide, by decide⟩ rfl (Nat.le_of_ble_eq_true rfl) [8, 9] [0, 1, 2, 3, 4, 5, 6, 7, 10, 11] [0, 1, 2, 3, 4, 5, 6, 7, 10, 11, 8, 9] ((wX τ a rws isv rc) ++ [(a 60, .inr (1, [.ref (a 61), .int (ssr 0), .int (ssi 0)])), (a 61, .inl (τ.2.2.1 1, 40, .inr (.inl (sit 0)))), (a 62, .inr (1, [.ref (a 63), .int (ssr 1), .int (ssi 1)])), (a 63, .inl (τ.2.2.1 1, 40, .inr (.inl (sit 1)))), (a 66, .inr (1, [.ref (a 67), .int (ssr 3), .int (ssi 3)])), (a 67, .inl (τ.2.2.1 1, 40, .inr (.inl (sit 3))))]) rfl (by decide) rfl (by decide) (by decide) 1 0 rfl rfl (fun u => ((wX τ a rws isv rc) ++ (wSS τ a (upS sit 2 u.1) (upd ssr 2 u.2.1) (upd ssi 2 u.2.2)))) (fun _ => rfl) (by decide) (fun u14 hX14 => ?_)
              obtain ⟨it_14, sr_14, si_14⟩ := u14
              rw [hX14] at hR; rw [pr3_mk it_14 sr_14 si_14] at hR
              refine j_iconst (v := 1) C dX5_sheet_63 64 rfl (by decide) ?_
              exact Rt.ret (hR) rfl dX5_sheet_64
            refine j_icmp_ne C dX5_sheet_52 59 rfl 55 rfl (fun c13 => ?_) (fun c13 => ?_)
            · rw [if_neg c13] at hR
              refine j_iload_n C dX5_sheet_59 60 rfl rfl 3 rfl ?_
              rw [pr1_mk x3] at hR
              exact j_lv [0, 1, 2, 3] [(0, .ref (a 0)), (1, .int 2), (2, .int x2), (3, .int x3)] rfl (J52 _  hR)
            · rw [if_pos c13] at hR
              refine j_iconst (v := 0) C dX5_sheet_55 56 rfl (by decide) ?_
              refine j_goto C dX5_sheet_56 60 rfl ?_
              rw [pr1_mk (0 : Int32)] at hR
              exact j_lv [0, 1, 2, 3] [(0, .ref (a 0)), (1, .int 2), (2, .int x2), (3, .int x3)] rfl (J52 _  hR)
          · try rw [show (3 : Int32).toNatClampNeg = 3 from rfl] at hR
            refine j_aald (t0 := 2) (b := (a 66)) (N := 4) C dX5_sheet_48 49 rfl 2 rfl rfl (by unfold vp_in; decide) (by rfl) ?_
            refine j_iload_n C dX5_sheet_49 50 rfl rfl 2 rfl ?_
            refine j_iload_n C dX5_sheet_50 51 rfl rfl 2 rfl ?_
            refine j_iconst (v := (-1)) C dX5_sheet_51 52 rfl (by decide) ?_
            have J52 : ∀ (j52_0 : Int32), Rt τ κ cX5_sheet .int (fun u : (Nat → Nat → Int64) × (Nat → Int32) × (Nat → Int32) => ((wX τ a rws isv rc) ++ (wSS τ a u.1 u.2.1 u.2.2))) (pr3 (f_X1_become (sit 3) x2 j52_0) (fun it_16 sr_16 si_16 => ((1 : Int32), (upS sit 3 it_16), (upd ssr 3 sr_16), (upd ssi 3 si_16)))) → J τ κ 0 0 ((wX τ a rws isv rc) ++ (wSS τ a sit ssr ssi)) [(0, .ref (a 0)), (1, .int 3), (2, .int x2), (3, .int x3)] 60 [.int j52_0, .int x2, .ref (a 66)] := by
              intro j52_0  hR
              refine j_cvV (na := 2) C dX5_sheet_60 63 rfl (c_X1_become τ (fun j => a (66 + j)) (sit 3) (ssr 3) (ssi 3) x2 j52_0 ) gX5_sheet_X1_become rfl rfl rfl qd_X1_become rfl ⟨by decide, by decide⟩ ⟨by decide, by decide⟩ rfl (Nat.le_of_ble_eq_true rfl) [10, 11] [0, 1, 2, 3, 4, 5, 6, 7, 8, 9] [0, 1, 2, 3, 4, 5, 6, 7, 8, 9, 10, 11] ((wX τ a rws isv rc) ++ [(a 60, .inr (1, [.ref (a 61), .int (ssr 0), .int (ssi 0)])), (a 61, .inl (τ.2.2.1 1, 40, .inr (.inl (sit 0)))), (a 62, .inr (1, [.ref (a 63), .int (ssr 1), .int (ssi 1)])), (a 63, .inl (τ.2.2.1 1, 40, .inr (.inl (sit 1)))), (a 64, .inr (1, [.ref (a 65), .int (ssr 2), .int (ssi 2)])), (a 65, .inl (τ.2.2.1 1, 40, .inr (.inl (sit 2))))]) rfl (by decide) rfl (by decide) (by decide) 1 0 rfl rfl (fun u => ((wX τ a rws isv rc) ++ (wSS τ a (upS sit 3 u.1) (upd ssr 3 u.2.1) (upd ssi 3 u.2.2)))) (fun _ => rfl) (by decide) (fun u16 hX16 => ?_)
              obtain ⟨it_16, sr_16, si_16⟩ := u16
              rw [hX16] at hR; rw [pr3_mk it_16 sr_16 si_16] at hR
              refine j_iconst (v := 1) C dX5_sheet_63 64 rfl (by decide) ?_
              exact Rt.ret (hR) rfl dX5_sheet_64
            refine j_icmp_ne C dX5_sheet_52 59 rfl 55 rfl (fun c15 => ?_) (fun c15 => ?_)
            · rw [if_neg c15] at hR
              refine j_iload_n C dX5_sheet_59 60 rfl rfl 3 rfl ?_
              rw [pr1_mk x3] at hR
              exact j_lv [0, 1, 2, 3] [(0, .ref (a 0)), (1, .int 3), (2, .int x2), (3, .int x3)] rfl (J52 _  hR)
            · rw [if_pos c15] at hR
              refine j_iconst (v := 0) C dX5_sheet_55 56 rfl (by decide) ?_
              refine j_goto C dX5_sheet_56 60 rfl ?_
              rw [pr1_mk (0 : Int32)] at hR
              exact j_lv [0, 1, 2, 3] [(0, .ref (a 0)), (1, .int 3), (2, .int x2), (3, .int x3)] rfl (J52 _  hR)
        · rw [if_neg c6] at hR
          refine j_iload_n C dX5_sheet_36 37 rfl rfl 3 rfl ?_
          refine j_if_ge C dX5_sheet_37 43 rfl 40 rfl (fun c17 => ?_) (fun c17 => ?_)
          · rw [if_pos c17] at hR
            refine j_aload_n C dX5_sheet_43 44 rfl rfl 0 rfl ?_
            refine j_get C dX5_sheet_44 47 rfl hiX5 0 rfl rfl 7 (by decide) rfl kX5_sheet_f35 rfl ?_
            refine j_iload_n C dX5_sheet_47 48 rfl rfl 1 rfl ?_
            rcases four_of (n := x1) (in_sheet c2) with rfl | rfl | rfl | rfl
            · try rw [show (0 : Int32).toNatClampNeg = 0 from rfl] at hR
              refine j_aald (t0 := 2) (b := (a 60)) (N := 4) C dX5_sheet_48 49 rfl 2 rfl rfl (by unfold vp_in; decide) (by rfl) ?_
              refine j_iload_n C dX5_sheet_49 50 rfl rfl 2 rfl ?_
              refine j_iload_n C dX5_sheet_50 51 rfl rfl 2 rfl ?_
              refine j_iconst (v := (-1)) C dX5_sheet_51 52 rfl (by decide) ?_
              have J52 : ∀ (j52_0 : Int32), Rt τ κ cX5_sheet .int (fun u : (Nat → Nat → Int64) × (Nat → Int32) × (Nat → Int32) => ((wX τ a rws isv rc) ++ (wSS τ a u.1 u.2.1 u.2.2))) (pr3 (f_X1_become (sit 0) x2 j52_0) (fun it_21 sr_21 si_21 => ((1 : Int32), (upS sit 0 it_21), (upd ssr 0 sr_21), (upd ssi 0 si_21)))) → J τ κ 0 0 ((wX τ a rws isv rc) ++ (wSS τ a sit ssr ssi)) [(0, .ref (a 0)), (1, .int 0), (2, .int x2), (3, .int x3)] 60 [.int j52_0, .int x2, .ref (a 60)] := by
                intro j52_0  hR
                refine j_cvV (na := 2) C dX5_sheet_60 63 rfl (c_X1_become τ (fun j => a (60 + j)) (sit 0) (ssr 0) (ssi 0) x2 j52_0 ) gX5_sheet_X1_become rfl rfl rfl qd_X1_become rfl ⟨by decide, by decide⟩ ⟨by decide, by decide⟩ rfl (Nat.le_of_ble_eq_true rfl) [4, 5] [0, 1, 2, 3, 6, 7, 8, 9, 10, 11] [0, 1, 2, 3, 10, 11, 4, 5, 6, 7, 8, 9] ((wX τ a rws isv rc) ++ [(a 62, .inr (1, [.ref (a 63), .int (ssr 1), .int (ssi 1)])), (a 63, .inl (τ.2.2.1 1, 40, .inr (.inl (sit 1)))), (a 64, .inr (1, [.ref (a 65), .int (ssr 2), .int (ssi 2)])), (a 65, .inl (τ.2.2.1 1, 40, .inr (.inl (sit 2)))), (a 66, .inr (1, [.ref (a 67), .int (ssr 3), .int (ssi 3)])), (a 67, .inl (τ.2.2.1 1, 40, .inr (.inl (sit 3))))]) rfl (by decide) rfl (by decide) (by decide) 1 0 rfl rfl (fun u => ((wX τ a rws isv rc) ++ (wSS τ a (upS sit 0 u.1) (upd ssr 0 u.2.1) (upd ssi 0 u.2.2)))) (fun _ => rfl) (by decide) (fun u21 hX21 => ?_)
                obtain ⟨it_21, sr_21, si_21⟩ := u21
                rw [hX21] at hR; rw [pr3_mk it_21 sr_21 si_21] at hR
                refine j_iconst (v := 1) C dX5_sheet_63 64 rfl (by decide) ?_
                exact Rt.ret (hR) rfl dX5_sheet_64
              refine j_icmp_ne C dX5_sheet_52 59 rfl 55 rfl (fun c20 => ?_) (fun c20 => ?_)
              · rw [if_neg c20] at hR
                refine j_iload_n C dX5_sheet_59 60 rfl rfl 3 rfl ?_
                rw [pr1_mk x3] at hR
                exact j_lv [0, 1, 2, 3] [(0, .ref (a 0)), (1, .int 0), (2, .int x2), (3, .int x3)] rfl (J52 _  hR)
              · rw [if_pos c20] at hR
                refine j_iconst (v := 0) C dX5_sheet_55 56 rfl (by decide) ?_
                refine j_goto C dX5_sheet_56 60 rfl ?_
                rw [pr1_mk (0 : Int32)] at hR
                exact j_lv [0, 1, 2, 3] [(0, .ref (a 0)), (1, .int 0), (2, .int x2), (3, .int x3)] rfl (J52 _  hR)
            · try rw [show (1 : Int32).toNatClampNeg = 1 from rfl] at hR
              refine j_aald (t0 := 2) (b := (a 62)) (N := 4) C dX5_sheet_48 49 rfl 2 rfl rfl (by unfold vp_in; decide) (by rfl) ?_
              refine j_iload_n C dX5_sheet_49 50 rfl rfl 2 rfl ?_
              refine j_iload_n C dX5_sheet_50 51 rfl rfl 2 rfl ?_
              refine j_iconst (v := (-1)) C dX5_sheet_51 52 rfl (by decide) ?_
              have J52 : ∀ (j52_0 : Int32), Rt τ κ cX5_sheet .int (fun u : (Nat → Nat → Int64) × (Nat → Int32) × (Nat → Int32) => ((wX τ a rws isv rc) ++ (wSS τ a u.1 u.2.1 u.2.2))) (pr3 (f_X1_become (sit 1) x2 j52_0) (fun it_23 sr_23 si_23 => ((1 : Int32), (upS sit 1 it_23), (upd ssr 1 sr_23), (upd ssi 1 si_23)))) → J τ κ 0 0 ((wX τ a rws isv rc) ++ (wSS τ a sit ssr ssi)) [(0, .ref (a 0)), (1, .int 1), (2, .int x2), (3, .int x3)] 60 [.int j52_0, .int x2, .ref (a 62)] := by
                intro j52_0  hR
                refine j_cvV (na := 2) C dX5_sheet_60 63 rfl (c_X1_become τ (fun j => a (62 + j)) (sit 1) (ssr 1) (ssi 1) x2 j52_0 ) gX5_sheet_X1_become rfl rfl rfl qd_X1_become rfl ⟨by decide, by decide⟩ ⟨by decide, by decide⟩ rfl (Nat.le_of_ble_eq_true rfl) [6, 7] [0, 1, 2, 3, 4, 5, 8, 9, 10, 11] [0, 1, 2, 3, 4, 5, 10, 11, 6, 7, 8, 9] ((wX τ a rws isv rc) ++ [(a 60, .inr (1, [.ref (a 61), .int (ssr 0), .int (ssi 0)])), (a 61, .inl (τ.2.2.1 1, 40, .inr (.inl (sit 0)))), (a 64, .inr (1, [.ref (a 65), .int (ssr 2), .int (ssi 2)])), (a 65, .inl (τ.2.2.1 1, 40, .inr (.inl (sit 2)))), (a 66, .inr (1, [.ref (a 67), .int (ssr 3), .int (ssi 3)])), (a 67, .inl (τ.2.2.1 1, 40, .inr (.inl (sit 3))))]) rfl (by decide) rfl (by decide) (by decide) 1 0 rfl rfl (fun u => ((wX τ a rws isv rc) ++ (wSS τ a (upS sit 1 u.1) (upd ssr 1 u.2.1) (upd ssi 1 u.2.2)))) (fun _ => rfl) (by decide) (fun u23 hX23 => ?_)
                obtain ⟨it_23, sr_23, si_23⟩ := u23
                rw [hX23] at hR; rw [pr3_mk it_23 sr_23 si_23] at hR
                refine j_iconst (v := 1) C dX5_sheet_63 64 rfl (by decide) ?_
                exact Rt.ret (hR) rfl dX5_sheet_64
              refine j_icmp_ne C dX5_sheet_52 59 rfl 55 rfl (fun c22 => ?_) (fun c22 => ?_)
              · rw [if_neg c22] at hR
                refine j_iload_n C dX5_sheet_59 60 rfl rfl 3 rfl ?_
                rw [pr1_mk x3] at hR
                exact j_lv [0, 1, 2, 3] [(0, .ref (a 0)), (1, .int 1), (2, .int x2), (3, .int x3)] rfl (J52 _  hR)
              · rw [if_pos c22] at hR
                refine j_iconst (v := 0) C dX5_sheet_55 56 rfl (by decide) ?_
                refine j_goto C dX5_sheet_56 60 rfl ?_
                rw [pr1_mk (0 : Int32)] at hR
                exact j_lv [0, 1, 2, 3] [(0, .ref (a 0)), (1, .int 1), (2, .int x2), (3, .int x3)] rfl (J52 _  hR)
            · try rw [show (2 : Int32).toNatClampNeg = 2 from rfl] at hR
              refine j_aald (t0 := 2) (b := (a 64)) (N := 4) C dX5_sheet_48 49 rfl 2 rfl rfl (by unfold vp_in; decide) (by rfl) ?_
              refine j_iload_n C dX5_sheet_49 50 rfl rfl 2 rfl ?_
              refine j_iload_n C dX5_sheet_50 51 rfl rfl 2 rfl ?_
              refine j_iconst (v := (-1)) C dX5_sheet_51 52 rfl (by decide) ?_
              have J52 : ∀ (j52_0 : Int32), Rt τ κ cX5_sheet .int (fun u : (Nat → Nat → Int64) × (Nat → Int32) × (Nat → Int32) => ((wX τ a rws isv rc) ++ (wSS τ a u.1 u.2.1 u.2.2))) (pr3 (f_X1_become (sit 2) x2 j52_0) (fun it_25 sr_25 si_25 => ((1 : Int32), (upS sit 2 it_25), (upd ssr 2 sr_25), (upd ssi 2 si_25)))) → J τ κ 0 0 ((wX τ a rws isv rc) ++ (wSS τ a sit ssr ssi)) [(0, .ref (a 0)), (1, .int 2), (2, .int x2), (3, .int x3)] 60 [.int j52_0, .int x2, .ref (a 64)] := by
                intro j52_0  hR
                refine j_cvV (na := 2) C dX5_sheet_60 63 rfl (c_X1_become τ (fun j => a (64 + j)) (sit 2) (ssr 2) (ssi 2) x2 j52_0 ) gX5_sheet_X1_become rfl rfl rfl qd_X1_become rfl ⟨by decide, by decide⟩ ⟨by decide, by decide⟩ rfl (Nat.le_of_ble_eq_true rfl) [8, 9] [0, 1, 2, 3, 4, 5, 6, 7, 10, 11] [0, 1, 2, 3, 4, 5, 6, 7, 10, 11, 8, 9] ((wX τ a rws isv rc) ++ [(a 60, .inr (1, [.ref (a 61), .int (ssr 0), .int (ssi 0)])), (a 61, .inl (τ.2.2.1 1, 40, .inr (.inl (sit 0)))), (a 62, .inr (1, [.ref (a 63), .int (ssr 1), .int (ssi 1)])), (a 63, .inl (τ.2.2.1 1, 40, .inr (.inl (sit 1)))), (a 66, .inr (1, [.ref (a 67), .int (ssr 3), .int (ssi 3)])), (a 67, .inl (τ.2.2.1 1, 40, .inr (.inl (sit 3))))]) rfl (by decide) rfl (by decide) (by decide) 1 0 rfl rfl (fun u => ((wX τ a rws isv rc) ++ (wSS τ a (upS sit 2 u.1) (upd ssr 2 u.2.1) (upd ssi 2 u.2.2)))) (fun _ => rfl) (by decide) (fun u25 hX25 => ?_)
                obtain ⟨it_25, sr_25, si_25⟩ := u25
                rw [hX25] at hR; rw [pr3_mk it_25 sr_25 si_25] at hR
                refine j_iconst (v := 1) C dX5_sheet_63 64 rfl (by decide) ?_
                exact Rt.ret (hR) rfl dX5_sheet_64
              refine j_icmp_ne C dX5_sheet_52 59 rfl 55 rfl (fun c24 => ?_) (fun c24 => ?_)
              · rw [if_neg c24] at hR
                refine j_iload_n C dX5_sheet_59 60 rfl rfl 3 rfl ?_
                rw [pr1_mk x3] at hR
                exact j_lv [0, 1, 2, 3] [(0, .ref (a 0)), (1, .int 2), (2, .int x2), (3, .int x3)] rfl (J52 _  hR)
              · rw [if_pos c24] at hR
                refine j_iconst (v := 0) C dX5_sheet_55 56 rfl (by decide) ?_
                refine j_goto C dX5_sheet_56 60 rfl ?_
                rw [pr1_mk (0 : Int32)] at hR
                exact j_lv [0, 1, 2, 3] [(0, .ref (a 0)), (1, .int 2), (2, .int x2), (3, .int x3)] rfl (J52 _  hR)
            · try rw [show (3 : Int32).toNatClampNeg = 3 from rfl] at hR
              refine j_aald (t0 := 2) (b := (a 66)) (N := 4) C dX5_sheet_48 49 rfl 2 rfl rfl (by unfold vp_in; decide) (by rfl) ?_
              refine j_iload_n C dX5_sheet_49 50 rfl rfl 2 rfl ?_
              refine j_iload_n C dX5_sheet_50 51 rfl rfl 2 rfl ?_
              refine j_iconst (v := (-1)) C dX5_sheet_51 52 rfl (by decide) ?_
              have J52 : ∀ (j52_0 : Int32), Rt τ κ cX5_sheet .int (fun u : (Nat → Nat → Int64) × (Nat → Int32) × (Nat → Int32) => ((wX τ a rws isv rc) ++ (wSS τ a u.1 u.2.1 u.2.2))) (pr3 (f_X1_become (sit 3) x2 j52_0) (fun it_27 sr_27 si_27 => ((1 : Int32), (upS sit 3 it_27), (upd ssr 3 sr_27), (upd ssi 3 si_27)))) → J τ κ 0 0 ((wX τ a rws isv rc) ++ (wSS τ a sit ssr ssi)) [(0, .ref (a 0)), (1, .int 3), (2, .int x2), (3, .int x3)] 60 [.int j52_0, .int x2, .ref (a 66)] := by
                intro j52_0  hR
                refine j_cvV (na := 2) C dX5_sheet_60 63 rfl (c_X1_become τ (fun j => a (66 + j)) (sit 3) (ssr 3) (ssi 3) x2 j52_0 ) gX5_sheet_X1_become rfl rfl rfl qd_X1_become rfl ⟨by decide, by decide⟩ ⟨by decide, by decide⟩ rfl (Nat.le_of_ble_eq_true rfl) [10, 11] [0, 1, 2, 3, 4, 5, 6, 7, 8, 9] [0, 1, 2, 3, 4, 5, 6, 7, 8, 9, 10, 11] ((wX τ a rws isv rc) ++ [(a 60, .inr (1, [.ref (a 61), .int (ssr 0), .int (ssi 0)])), (a 61, .inl (τ.2.2.1 1, 40, .inr (.inl (sit 0)))), (a 62, .inr (1, [.ref (a 63), .int (ssr 1), .int (ssi 1)])), (a 63, .inl (τ.2.2.1 1, 40, .inr (.inl (sit 1)))), (a 64, .inr (1, [.ref (a 65), .int (ssr 2), .int (ssi 2)])), (a 65, .inl (τ.2.2.1 1, 40, .inr (.inl (sit 2))))]) rfl (by decide) rfl (by decide) (by decide) 1 0 rfl rfl (fun u => ((wX τ a rws isv rc) ++ (wSS τ a (upS sit 3 u.1) (upd ssr 3 u.2.1) (upd ssi 3 u.2.2)))) (fun _ => rfl) (by decide) (fun u27 hX27 => ?_)
                obtain ⟨it_27, sr_27, si_27⟩ := u27
                rw [hX27] at hR; rw [pr3_mk it_27 sr_27 si_27] at hR
                refine j_iconst (v := 1) C dX5_sheet_63 64 rfl (by decide) ?_
                exact Rt.ret (hR) rfl dX5_sheet_64
              refine j_icmp_ne C dX5_sheet_52 59 rfl 55 rfl (fun c26 => ?_) (fun c26 => ?_)
              · rw [if_neg c26] at hR
                refine j_iload_n C dX5_sheet_59 60 rfl rfl 3 rfl ?_
                rw [pr1_mk x3] at hR
                exact j_lv [0, 1, 2, 3] [(0, .ref (a 0)), (1, .int 3), (2, .int x2), (3, .int x3)] rfl (J52 _  hR)
              · rw [if_pos c26] at hR
                refine j_iconst (v := 0) C dX5_sheet_55 56 rfl (by decide) ?_
                refine j_goto C dX5_sheet_56 60 rfl ?_
                rw [pr1_mk (0 : Int32)] at hR
                exact j_lv [0, 1, 2, 3] [(0, .ref (a 0)), (1, .int 3), (2, .int x2), (3, .int x3)] rfl (J52 _  hR)
          · rw [if_neg c17] at hR
            refine j_bipush (v := (-14)) C dX5_sheet_40 42 rfl (by decide) ?_
            exact Rt.ret (hR) rfl dX5_sheet_42
      · rw [if_neg c5] at hR
        refine j_iload_n C dX5_sheet_23 24 rfl rfl 3 rfl ?_
        refine j_bipush (v := 40) C dX5_sheet_24 26 rfl (by decide) ?_
        refine j_icmp_le C dX5_sheet_26 31 rfl 29 rfl (fun c28 => ?_) (fun c28 => ?_)
        · rw [if_pos c28] at hR
          refine j_iload_n C dX5_sheet_31 32 rfl rfl 2 rfl ?_
          refine j_iconst (v := (-1)) C dX5_sheet_32 33 rfl (by decide) ?_
          refine j_icmp_eq C dX5_sheet_33 43 rfl 36 rfl (fun c29 => ?_) (fun c29 => ?_)
          · rw [if_pos c29] at hR
            refine j_aload_n C dX5_sheet_43 44 rfl rfl 0 rfl ?_
            refine j_get C dX5_sheet_44 47 rfl hiX5 0 rfl rfl 7 (by decide) rfl kX5_sheet_f35 rfl ?_
            refine j_iload_n C dX5_sheet_47 48 rfl rfl 1 rfl ?_
            rcases four_of (n := x1) (in_sheet c2) with rfl | rfl | rfl | rfl
            · try rw [show (0 : Int32).toNatClampNeg = 0 from rfl] at hR
              refine j_aald (t0 := 2) (b := (a 60)) (N := 4) C dX5_sheet_48 49 rfl 2 rfl rfl (by unfold vp_in; decide) (by rfl) ?_
              refine j_iload_n C dX5_sheet_49 50 rfl rfl 2 rfl ?_
              refine j_iload_n C dX5_sheet_50 51 rfl rfl 2 rfl ?_
              refine j_iconst (v := (-1)) C dX5_sheet_51 52 rfl (by decide) ?_
              have J52 : ∀ (j52_0 : Int32), Rt τ κ cX5_sheet .int (fun u : (Nat → Nat → Int64) × (Nat → Int32) × (Nat → Int32) => ((wX τ a rws isv rc) ++ (wSS τ a u.1 u.2.1 u.2.2))) (pr3 (f_X1_become (sit 0) x2 j52_0) (fun it_33 sr_33 si_33 => ((1 : Int32), (upS sit 0 it_33), (upd ssr 0 sr_33), (upd ssi 0 si_33)))) → J τ κ 0 0 ((wX τ a rws isv rc) ++ (wSS τ a sit ssr ssi)) [(0, .ref (a 0)), (1, .int 0), (2, .int x2), (3, .int x3)] 60 [.int j52_0, .int x2, .ref (a 60)] := by
                intro j52_0  hR
                refine j_cvV (na := 2) C dX5_sheet_60 63 rfl (c_X1_become τ (fun j => a (60 + j)) (sit 0) (ssr 0) (ssi 0) x2 j52_0 ) gX5_sheet_X1_become rfl rfl rfl qd_X1_become rfl ⟨by decide, by decide⟩ ⟨by decide, by decide⟩ rfl (Nat.le_of_ble_eq_true rfl) [4, 5] [0, 1, 2, 3, 6, 7, 8, 9, 10, 11] [0, 1, 2, 3, 10, 11, 4, 5, 6, 7, 8, 9] ((wX τ a rws isv rc) ++ [(a 62, .inr (1, [.ref (a 63), .int (ssr 1), .int (ssi 1)])), (a 63, .inl (τ.2.2.1 1, 40, .inr (.inl (sit 1)))), (a 64, .inr (1, [.ref (a 65), .int (ssr 2), .int (ssi 2)])), (a 65, .inl (τ.2.2.1 1, 40, .inr (.inl (sit 2)))), (a 66, .inr (1, [.ref (a 67), .int (ssr 3), .int (ssi 3)])), (a 67, .inl (τ.2.2.1 1, 40, .inr (.inl (sit 3))))]) rfl (by decide) rfl (by decide) (by decide) 1 0 rfl rfl (fun u => ((wX τ a rws isv rc) ++ (wSS τ a (upS sit 0 u.1) (upd ssr 0 u.2.1) (upd ssi 0 u.2.2)))) (fun _ => rfl) (by decide) (fun u33 hX33 => ?_)
                obtain ⟨it_33, sr_33, si_33⟩ := u33
                rw [hX33] at hR; rw [pr3_mk it_33 sr_33 si_33] at hR
                refine j_iconst (v := 1) C dX5_sheet_63 64 rfl (by decide) ?_
                exact Rt.ret (hR) rfl dX5_sheet_64
              refine j_icmp_ne C dX5_sheet_52 59 rfl 55 rfl (fun c32 => ?_) (fun c32 => ?_)
              · rw [if_neg c32] at hR
                refine j_iload_n C dX5_sheet_59 60 rfl rfl 3 rfl ?_
                rw [pr1_mk x3] at hR
                exact j_lv [0, 1, 2, 3] [(0, .ref (a 0)), (1, .int 0), (2, .int x2), (3, .int x3)] rfl (J52 _  hR)
              · rw [if_pos c32] at hR
                refine j_iconst (v := 0) C dX5_sheet_55 56 rfl (by decide) ?_
                refine j_goto C dX5_sheet_56 60 rfl ?_
                rw [pr1_mk (0 : Int32)] at hR
                exact j_lv [0, 1, 2, 3] [(0, .ref (a 0)), (1, .int 0), (2, .int x2), (3, .int x3)] rfl (J52 _  hR)
            · try rw [show (1 : Int32).toNatClampNeg = 1 from rfl] at hR
              refine j_aald (t0 := 2) (b := (a 62)) (N := 4) C dX5_sheet_48 49 rfl 2 rfl rfl (by unfold vp_in; decide) (by rfl) ?_
              refine j_iload_n C dX5_sheet_49 50 rfl rfl 2 rfl ?_
              refine j_iload_n C dX5_sheet_50 51 rfl rfl 2 rfl ?_
              refine j_iconst (v := (-1)) C dX5_sheet_51 52 rfl (by decide) ?_
              have J52 : ∀ (j52_0 : Int32), Rt τ κ cX5_sheet .int (fun u : (Nat → Nat → Int64) × (Nat → Int32) × (Nat → Int32) => ((wX τ a rws isv rc) ++ (wSS τ a u.1 u.2.1 u.2.2))) (pr3 (f_X1_become (sit 1) x2 j52_0) (fun it_35 sr_35 si_35 => ((1 : Int32), (upS sit 1 it_35), (upd ssr 1 sr_35), (upd ssi 1 si_35)))) → J τ κ 0 0 ((wX τ a rws isv rc) ++ (wSS τ a sit ssr ssi)) [(0, .ref (a 0)), (1, .int 1), (2, .int x2), (3, .int x3)] 60 [.int j52_0, .int x2, .ref (a 62)] := by
                intro j52_0  hR
                refine j_cvV (na := 2) C dX5_sheet_60 63 rfl (c_X1_become τ (fun j => a (62 + j)) (sit 1) (ssr 1) (ssi 1) x2 j52_0 ) gX5_sheet_X1_become rfl rfl rfl qd_X1_become rfl ⟨by decide, by decide⟩ ⟨by decide, by decide⟩ rfl (Nat.le_of_ble_eq_true rfl) [6, 7] [0, 1, 2, 3, 4, 5, 8, 9, 10, 11] [0, 1, 2, 3, 4, 5, 10, 11, 6, 7, 8, 9] ((wX τ a rws isv rc) ++ [(a 60, .inr (1, [.ref (a 61), .int (ssr 0), .int (ssi 0)])), (a 61, .inl (τ.2.2.1 1, 40, .inr (.inl (sit 0)))), (a 64, .inr (1, [.ref (a 65), .int (ssr 2), .int (ssi 2)])), (a 65, .inl (τ.2.2.1 1, 40, .inr (.inl (sit 2)))), (a 66, .inr (1, [.ref (a 67), .int (ssr 3), .int (ssi 3)])), (a 67, .inl (τ.2.2.1 1, 40, .inr (.inl (sit 3))))]) rfl (by decide) rfl (by decide) (by decide) 1 0 rfl rfl (fun u => ((wX τ a rws isv rc) ++ (wSS τ a (upS sit 1 u.1) (upd ssr 1 u.2.1) (upd ssi 1 u.2.2)))) (fun _ => rfl) (by decide) (fun u35 hX35 => ?_)
                obtain ⟨it_35, sr_35, si_35⟩ := u35
                rw [hX35] at hR; rw [pr3_mk it_35 sr_35 si_35] at hR
                refine j_iconst (v := 1) C dX5_sheet_63 64 rfl (by decide) ?_
                exact Rt.ret (hR) rfl dX5_sheet_64
              refine j_icmp_ne C dX5_sheet_52 59 rfl 55 rfl (fun c34 => ?_) (fun c34 => ?_)
              · rw [if_neg c34] at hR
                refine j_iload_n C dX5_sheet_59 60 rfl rfl 3 rfl ?_
                rw [pr1_mk x3] at hR
                exact j_lv [0, 1, 2, 3] [(0, .ref (a 0)), (1, .int 1), (2, .int x2), (3, .int x3)] rfl (J52 _  hR)
              · rw [if_pos c34] at hR
                refine j_iconst (v := 0) C dX5_sheet_55 56 rfl (by decide) ?_
                refine j_goto C dX5_sheet_56 60 rfl ?_
                rw [pr1_mk (0 : Int32)] at hR
                exact j_lv [0, 1, 2, 3] [(0, .ref (a 0)), (1, .int 1), (2, .int x2), (3, .int x3)] rfl (J52 _  hR)
            · try rw [show (2 : Int32).toNatClampNeg = 2 from rfl] at hR
              refine j_aald (t0 := 2) (b := (a 64)) (N := 4) C dX5_sheet_48 49 rfl 2 rfl rfl (by unfold vp_in; decide) (by rfl) ?_
              refine j_iload_n C dX5_sheet_49 50 rfl rfl 2 rfl ?_
              refine j_iload_n C dX5_sheet_50 51 rfl rfl 2 rfl ?_
              refine j_iconst (v := (-1)) C dX5_sheet_51 52 rfl (by decide) ?_
              have J52 : ∀ (j52_0 : Int32), Rt τ κ cX5_sheet .int (fun u : (Nat → Nat → Int64) × (Nat → Int32) × (Nat → Int32) => ((wX τ a rws isv rc) ++ (wSS τ a u.1 u.2.1 u.2.2))) (pr3 (f_X1_become (sit 2) x2 j52_0) (fun it_37 sr_37 si_37 => ((1 : Int32), (upS sit 2 it_37), (upd ssr 2 sr_37), (upd ssi 2 si_37)))) → J τ κ 0 0 ((wX τ a rws isv rc) ++ (wSS τ a sit ssr ssi)) [(0, .ref (a 0)), (1, .int 2), (2, .int x2), (3, .int x3)] 60 [.int j52_0, .int x2, .ref (a 64)] := by
                intro j52_0  hR
                refine j_cvV (na := 2) C dX5_sheet_60 63 rfl (c_X1_become τ (fun j => a (64 + j)) (sit 2) (ssr 2) (ssi 2) x2 j52_0 ) gX5_sheet_X1_become rfl rfl rfl qd_X1_become rfl ⟨by decide, by decide⟩ ⟨by decide, by decide⟩ rfl (Nat.le_of_ble_eq_true rfl) [8, 9] [0, 1, 2, 3, 4, 5, 6, 7, 10, 11] [0, 1, 2, 3, 4, 5, 6, 7, 10, 11, 8, 9] ((wX τ a rws isv rc) ++ [(a 60, .inr (1, [.ref (a 61), .int (ssr 0), .int (ssi 0)])), (a 61, .inl (τ.2.2.1 1, 40, .inr (.inl (sit 0)))), (a 62, .inr (1, [.ref (a 63), .int (ssr 1), .int (ssi 1)])), (a 63, .inl (τ.2.2.1 1, 40, .inr (.inl (sit 1)))), (a 66, .inr (1, [.ref (a 67), .int (ssr 3), .int (ssi 3)])), (a 67, .inl (τ.2.2.1 1, 40, .inr (.inl (sit 3))))]) rfl (by decide) rfl (by decide) (by decide) 1 0 rfl rfl (fun u => ((wX τ a rws isv rc) ++ (wSS τ a (upS sit 2 u.1) (upd ssr 2 u.2.1) (upd ssi 2 u.2.2)))) (fun _ => rfl) (by decide) (fun u37 hX37 => ?_)
                obtain ⟨it_37, sr_37, si_37⟩ := u37
                rw [hX37] at hR; rw [pr3_mk it_37 sr_37 si_37] at hR
                refine j_iconst (v := 1) C dX5_sheet_63 64 rfl (by decide) ?_
                exact Rt.ret (hR) rfl dX5_sheet_64
              refine j_icmp_ne C dX5_sheet_52 59 rfl 55 rfl (fun c36 => ?_) (fun c36 => ?_)
              · rw [if_neg c36] at hR
                refine j_iload_n C dX5_sheet_59 60 rfl rfl 3 rfl ?_
                rw [pr1_mk x3] at hR
                exact j_lv [0, 1, 2, 3] [(0, .ref (a 0)), (1, .int 2), (2, .int x2), (3, .int x3)] rfl (J52 _  hR)
              · rw [if_pos c36] at hR
                refine j_iconst (v := 0) C dX5_sheet_55 56 rfl (by decide) ?_
                refine j_goto C dX5_sheet_56 60 rfl ?_
                rw [pr1_mk (0 : Int32)] at hR
                exact j_lv [0, 1, 2, 3] [(0, .ref (a 0)), (1, .int 2), (2, .int x2), (3, .int x3)] rfl (J52 _  hR)
            · try rw [show (3 : Int32).toNatClampNeg = 3 from rfl] at hR
              refine j_aald (t0 := 2) (b := (a 66)) (N := 4) C dX5_sheet_48 49 rfl 2 rfl rfl (by unfold vp_in; decide) (by rfl) ?_
              refine j_iload_n C dX5_sheet_49 50 rfl rfl 2 rfl ?_
              refine j_iload_n C dX5_sheet_50 51 rfl rfl 2 rfl ?_
              refine j_iconst (v := (-1)) C dX5_sheet_51 52 rfl (by decide) ?_
              have J52 : ∀ (j52_0 : Int32), Rt τ κ cX5_sheet .int (fun u : (Nat → Nat → Int64) × (Nat → Int32) × (Nat → Int32) => ((wX τ a rws isv rc) ++ (wSS τ a u.1 u.2.1 u.2.2))) (pr3 (f_X1_become (sit 3) x2 j52_0) (fun it_39 sr_39 si_39 => ((1 : Int32), (upS sit 3 it_39), (upd ssr 3 sr_39), (upd ssi 3 si_39)))) → J τ κ 0 0 ((wX τ a rws isv rc) ++ (wSS τ a sit ssr ssi)) [(0, .ref (a 0)), (1, .int 3), (2, .int x2), (3, .int x3)] 60 [.int j52_0, .int x2, .ref (a 66)] := by
                intro j52_0  hR
                refine j_cvV (na := 2) C dX5_sheet_60 63 rfl (c_X1_become τ (fun j => a (66 + j)) (sit 3) (ssr 3) (ssi 3) x2 j52_0 ) gX5_sheet_X1_become rfl rfl rfl qd_X1_become rfl ⟨by decide, by decide⟩ ⟨by decide, by decide⟩ rfl (Nat.le_of_ble_eq_true rfl) [10, 11] [0, 1, 2, 3, 4, 5, 6, 7, 8, 9] [0, 1, 2, 3, 4, 5, 6, 7, 8, 9, 10, 11] ((wX τ a rws isv rc) ++ [(a 60, .inr (1, [.ref (a 61), .int (ssr 0), .int (ssi 0)])), (a 61, .inl (τ.2.2.1 1, 40, .inr (.inl (sit 0)))), (a 62, .inr (1, [.ref (a 63), .int (ssr 1), .int (ssi 1)])), (a 63, .inl (τ.2.2.1 1, 40, .inr (.inl (sit 1)))), (a 64, .inr (1, [.ref (a 65), .int (ssr 2), .int (ssi 2)])), (a 65, .inl (τ.2.2.1 1, 40, .inr (.inl (sit 2))))]) rfl (by decide) rfl (by decide) (by decide) 1 0 rfl rfl (fun u => ((wX τ a rws isv rc) ++ (wSS τ a (upS sit 3 u.1) (upd ssr 3 u.2.1) (upd ssi 3 u.2.2)))) (fun _ => rfl) (by decide) (fun u39 hX39 => ?_)
                obtain ⟨it_39, sr_39, si_39⟩ := u39
                rw [hX39] at hR; rw [pr3_mk it_39 sr_39 si_39] at hR
                refine j_iconst (v := 1) C dX5_sheet_63 64 rfl (by decide) ?_
                exact Rt.ret (hR) rfl dX5_sheet_64
              refine j_icmp_ne C dX5_sheet_52 59 rfl 55 rfl (fun c38 => ?_) (fun c38 => ?_)
              · rw [if_neg c38] at hR
                refine j_iload_n C dX5_sheet_59 60 rfl rfl 3 rfl ?_
                rw [pr1_mk x3] at hR
                exact j_lv [0, 1, 2, 3] [(0, .ref (a 0)), (1, .int 3), (2, .int x2), (3, .int x3)] rfl (J52 _  hR)
              · rw [if_pos c38] at hR
                refine j_iconst (v := 0) C dX5_sheet_55 56 rfl (by decide) ?_
                refine j_goto C dX5_sheet_56 60 rfl ?_
                rw [pr1_mk (0 : Int32)] at hR
                exact j_lv [0, 1, 2, 3] [(0, .ref (a 0)), (1, .int 3), (2, .int x2), (3, .int x3)] rfl (J52 _  hR)
          · rw [if_neg c29] at hR
            refine j_iload_n C dX5_sheet_36 37 rfl rfl 3 rfl ?_
            refine j_if_ge C dX5_sheet_37 43 rfl 40 rfl (fun c40 => ?_) (fun c40 => ?_)
            · rw [if_pos c40] at hR
              refine j_aload_n C dX5_sheet_43 44 rfl rfl 0 rfl ?_
              refine j_get C dX5_sheet_44 47 rfl hiX5 0 rfl rfl 7 (by decide) rfl kX5_sheet_f35 rfl ?_
              refine j_iload_n C dX5_sheet_47 48 rfl rfl 1 rfl ?_
              rcases four_of (n := x1) (in_sheet c2) with rfl | rfl | rfl | rfl
              · try rw [show (0 : Int32).toNatClampNeg = 0 from rfl] at hR
                refine j_aald (t0 := 2) (b := (a 60)) (N := 4) C dX5_sheet_48 49 rfl 2 rfl rfl (by unfold vp_in; decide) (by rfl) ?_
                refine j_iload_n C dX5_sheet_49 50 rfl rfl 2 rfl ?_
                refine j_iload_n C dX5_sheet_50 51 rfl rfl 2 rfl ?_
                refine j_iconst (v := (-1)) C dX5_sheet_51 52 rfl (by decide) ?_
                have J52 : ∀ (j52_0 : Int32), Rt τ κ cX5_sheet .int (fun u : (Nat → Nat → Int64) × (Nat → Int32) × (Nat → Int32) => ((wX τ a rws isv rc) ++ (wSS τ a u.1 u.2.1 u.2.2))) (pr3 (f_X1_become (sit 0) x2 j52_0) (fun it_44 sr_44 si_44 => ((1 : Int32), (upS sit 0 it_44), (upd ssr 0 sr_44), (upd ssi 0 si_44)))) → J τ κ 0 0 ((wX τ a rws isv rc) ++ (wSS τ a sit ssr ssi)) [(0, .ref (a 0)), (1, .int 0), (2, .int x2), (3, .int x3)] 60 [.int j52_0, .int x2, .ref (a 60)] := by
                  intro j52_0  hR
                  refine j_cvV (na := 2) C dX5_sheet_60 63 rfl (c_X1_become τ (fun j => a (60 + j)) (sit 0) (ssr 0) (ssi 0) x2 j52_0 ) gX5_sheet_X1_become rfl rfl rfl qd_X1_become rfl ⟨by decide, by decide⟩ ⟨by decide, by decide⟩ rfl (Nat.le_of_ble_eq_true rfl) [4, 5] [0, 1, 2, 3, 6, 7, 8, 9, 10, 11] [0, 1, 2, 3, 10, 11, 4, 5, 6, 7, 8, 9] ((wX τ a rws isv rc) ++ [(a 62, .inr (1, [.ref (a 63), .int (ssr 1), .int (ssi 1)])), (a 63, .inl (τ.2.2.1 1, 40, .inr (.inl (sit 1)))), (a 64, .inr (1, [.ref (a 65), .int (ssr 2), .int (ssi 2)])), (a 65, .inl (τ.2.2.1 1, 40, .inr (.inl (sit 2)))), (a 66, .inr (1, [.ref (a 67), .int (ssr 3), .int (ssi 3)])), (a 67, .inl (τ.2.2.1 1, 40, .inr (.inl (sit 3))))]) rfl (by decide) rfl (by decide) (by decide) 1 0 rfl rfl (fun u => ((wX τ a rws isv rc) ++ (wSS τ a (upS sit 0 u.1) (upd ssr 0 u.2.1) (upd ssi 0 u.2.2)))) (fun _ => rfl) (by decide) (fun u44 hX44 => ?_)
                  obtain ⟨it_44, sr_44, si_44⟩ := u44
                  rw [hX44] at hR; rw [pr3_mk it_44 sr_44 si_44] at hR
                  refine j_iconst (v := 1) C dX5_sheet_63 64 rfl (by decide) ?_
                  exact Rt.ret (hR) rfl dX5_sheet_64
                refine j_icmp_ne C dX5_sheet_52 59 rfl 55 rfl (fun c43 => ?_) (fun c43 => ?_)
                · rw [if_neg c43] at hR
                  refine j_iload_n C dX5_sheet_59 60 rfl rfl 3 rfl ?_
                  rw [pr1_mk x3] at hR
                  exact j_lv [0, 1, 2, 3] [(0, .ref (a 0)), (1, .int 0), (2, .int x2), (3, .int x3)] rfl (J52 _  hR)
                · rw [if_pos c43] at hR
                  refine j_iconst (v := 0) C dX5_sheet_55 56 rfl (by decide) ?_
                  refine j_goto C dX5_sheet_56 60 rfl ?_
                  rw [pr1_mk (0 : Int32)] at hR
                  exact j_lv [0, 1, 2, 3] [(0, .ref (a 0)), (1, .int 0), (2, .int x2), (3, .int x3)] rfl (J52 _  hR)
              · try rw [show (1 : Int32).toNatClampNeg = 1 from rfl] at hR
                refine j_aald (t0 := 2) (b := (a 62)) (N := 4) C dX5_sheet_48 49 rfl 2 rfl rfl (by unfold vp_in; decide) (by rfl) ?_
                refine j_iload_n C dX5_sheet_49 50 rfl rfl 2 rfl ?_
                refine j_iload_n C dX5_sheet_50 51 rfl rfl 2 rfl ?_
                refine j_iconst (v := (-1)) C dX5_sheet_51 52 rfl (by decide) ?_
                have J52 : ∀ (j52_0 : Int32), Rt τ κ cX5_sheet .int (fun u : (Nat → Nat → Int64) × (Nat → Int32) × (Nat → Int32) => ((wX τ a rws isv rc) ++ (wSS τ a u.1 u.2.1 u.2.2))) (pr3 (f_X1_become (sit 1) x2 j52_0) (fun it_46 sr_46 si_46 => ((1 : Int32), (upS sit 1 it_46), (upd ssr 1 sr_46), (upd ssi 1 si_46)))) → J τ κ 0 0 ((wX τ a rws isv rc) ++ (wSS τ a sit ssr ssi)) [(0, .ref (a 0)), (1, .int 1), (2, .int x2), (3, .int x3)] 60 [.int j52_0, .int x2, .ref (a 62)] := by
                  intro j52_0  hR
                  refine j_cvV (na := 2) C dX5_sheet_60 63 rfl (c_X1_become τ (fun j => a (62 + j)) (sit 1) (ssr 1) (ssi 1) x2 j52_0 ) gX5_sheet_X1_become rfl rfl rfl qd_X1_become rfl ⟨by decide, by decide⟩ ⟨by decide, by decide⟩ rfl (Nat.le_of_ble_eq_true rfl) [6, 7] [0, 1, 2, 3, 4, 5, 8, 9, 10, 11] [0, 1, 2, 3, 4, 5, 10, 11, 6, 7, 8, 9] ((wX τ a rws isv rc) ++ [(a 60, .inr (1, [.ref (a 61), .int (ssr 0), .int (ssi 0)])), (a 61, .inl (τ.2.2.1 1, 40, .inr (.inl (sit 0)))), (a 64, .inr (1, [.ref (a 65), .int (ssr 2), .int (ssi 2)])), (a 65, .inl (τ.2.2.1 1, 40, .inr (.inl (sit 2)))), (a 66, .inr (1, [.ref (a 67), .int (ssr 3), .int (ssi 3)])), (a 67, .inl (τ.2.2.1 1, 40, .inr (.inl (sit 3))))]) rfl (by decide) rfl (by decide) (by decide) 1 0 rfl rfl (fun u => ((wX τ a rws isv rc) ++ (wSS τ a (upS sit 1 u.1) (upd ssr 1 u.2.1) (upd ssi 1 u.2.2)))) (fun _ => rfl) (by decide) (fun u46 hX46 => ?_)
                  obtain ⟨it_46, sr_46, si_46⟩ := u46
                  rw [hX46] at hR; rw [pr3_mk it_46 sr_46 si_46] at hR
                  refine j_iconst (v := 1) C dX5_sheet_63 64 rfl (by decide) ?_
                  exact Rt.ret (hR) rfl dX5_sheet_64
                refine j_icmp_ne C dX5_sheet_52 59 rfl 55 rfl (fun c45 => ?_) (fun c45 => ?_)
                · rw [if_neg c45] at hR
                  refine j_iload_n C dX5_sheet_59 60 rfl rfl 3 rfl ?_
                  rw [pr1_mk x3] at hR
                  exact j_lv [0, 1, 2, 3] [(0, .ref (a 0)), (1, .int 1), (2, .int x2), (3, .int x3)] rfl (J52 _  hR)
                · rw [if_pos c45] at hR
                  refine j_iconst (v := 0) C dX5_sheet_55 56 rfl (by decide) ?_
                  refine j_goto C dX5_sheet_56 60 rfl ?_
                  rw [pr1_mk (0 : Int32)] at hR
                  exact j_lv [0, 1, 2, 3] [(0, .ref (a 0)), (1, .int 1), (2, .int x2), (3, .int x3)] rfl (J52 _  hR)
              · try rw [show (2 : Int32).toNatClampNeg = 2 from rfl] at hR
                refine j_aald (t0 := 2) (b := (a 64)) (N := 4) C dX5_sheet_48 49 rfl 2 rfl rfl (by unfold vp_in; decide) (by rfl) ?_
                refine j_iload_n C dX5_sheet_49 50 rfl rfl 2 rfl ?_
                refine j_iload_n C dX5_sheet_50 51 rfl rfl 2 rfl ?_
                refine j_iconst (v := (-1)) C dX5_sheet_51 52 rfl (by decide) ?_
                have J52 : ∀ (j52_0 : Int32), Rt τ κ cX5_sheet .int (fun u : (Nat → Nat → Int64) × (Nat → Int32) × (Nat → Int32) => ((wX τ a rws isv rc) ++ (wSS τ a u.1 u.2.1 u.2.2))) (pr3 (f_X1_become (sit 2) x2 j52_0) (fun it_48 sr_48 si_48 => ((1 : Int32), (upS sit 2 it_48), (upd ssr 2 sr_48), (upd ssi 2 si_48)))) → J τ κ 0 0 ((wX τ a rws isv rc) ++ (wSS τ a sit ssr ssi)) [(0, .ref (a 0)), (1, .int 2), (2, .int x2), (3, .int x3)] 60 [.int j52_0, .int x2, .ref (a 64)] := by
                  intro j52_0  hR
                  refine j_cvV (na := 2) C dX5_sheet_60 63 rfl (c_X1_become τ (fun j => a (64 + j)) (sit 2) (ssr 2) (ssi 2) x2 j52_0 ) gX5_sheet_X1_become rfl rfl rfl qd_X1_become rfl ⟨by decide, by decide⟩ ⟨by decide, by decide⟩ rfl (Nat.le_of_ble_eq_true rfl) [8, 9] [0, 1, 2, 3, 4, 5, 6, 7, 10, 11] [0, 1, 2, 3, 4, 5, 6, 7, 10, 11, 8, 9] ((wX τ a rws isv rc) ++ [(a 60, .inr (1, [.ref (a 61), .int (ssr 0), .int (ssi 0)])), (a 61, .inl (τ.2.2.1 1, 40, .inr (.inl (sit 0)))), (a 62, .inr (1, [.ref (a 63), .int (ssr 1), .int (ssi 1)])), (a 63, .inl (τ.2.2.1 1, 40, .inr (.inl (sit 1)))), (a 66, .inr (1, [.ref (a 67), .int (ssr 3), .int (ssi 3)])), (a 67, .inl (τ.2.2.1 1, 40, .inr (.inl (sit 3))))]) rfl (by decide) rfl (by decide) (by decide) 1 0 rfl rfl (fun u => ((wX τ a rws isv rc) ++ (wSS τ a (upS sit 2 u.1) (upd ssr 2 u.2.1) (upd ssi 2 u.2.2)))) (fun _ => rfl) (by decide) (fun u48 hX48 => ?_)
                  obtain ⟨it_48, sr_48, si_48⟩ := u48
                  rw [hX48] at hR; rw [pr3_mk it_48 sr_48 si_48] at hR
                  refine j_iconst (v := 1) C dX5_sheet_63 64 rfl (by decide) ?_
                  exact Rt.ret (hR) rfl dX5_sheet_64
                refine j_icmp_ne C dX5_sheet_52 59 rfl 55 rfl (fun c47 => ?_) (fun c47 => ?_)
                · rw [if_neg c47] at hR
                  refine j_iload_n C dX5_sheet_59 60 rfl rfl 3 rfl ?_
                  rw [pr1_mk x3] at hR
                  exact j_lv [0, 1, 2, 3] [(0, .ref (a 0)), (1, .int 2), (2, .int x2), (3, .int x3)] rfl (J52 _  hR)
                · rw [if_pos c47] at hR
                  refine j_iconst (v := 0) C dX5_sheet_55 56 rfl (by decide) ?_
                  refine j_goto C dX5_sheet_56 60 rfl ?_
                  rw [pr1_mk (0 : Int32)] at hR
                  exact j_lv [0, 1, 2, 3] [(0, .ref (a 0)), (1, .int 2), (2, .int x2), (3, .int x3)] rfl (J52 _  hR)
              · try rw [show (3 : Int32).toNatClampNeg = 3 from rfl] at hR
                refine j_aald (t0 := 2) (b := (a 66)) (N := 4) C dX5_sheet_48 49 rfl 2 rfl rfl (by unfold vp_in; decide) (by rfl) ?_
                refine j_iload_n C dX5_sheet_49 50 rfl rfl 2 rfl ?_
                refine j_iload_n C dX5_sheet_50 51 rfl rfl 2 rfl ?_
                refine j_iconst (v := (-1)) C dX5_sheet_51 52 rfl (by decide) ?_
                have J52 : ∀ (j52_0 : Int32), Rt τ κ cX5_sheet .int (fun u : (Nat → Nat → Int64) × (Nat → Int32) × (Nat → Int32) => ((wX τ a rws isv rc) ++ (wSS τ a u.1 u.2.1 u.2.2))) (pr3 (f_X1_become (sit 3) x2 j52_0) (fun it_50 sr_50 si_50 => ((1 : Int32), (upS sit 3 it_50), (upd ssr 3 sr_50), (upd ssi 3 si_50)))) → J τ κ 0 0 ((wX τ a rws isv rc) ++ (wSS τ a sit ssr ssi)) [(0, .ref (a 0)), (1, .int 3), (2, .int x2), (3, .int x3)] 60 [.int j52_0, .int x2, .ref (a 66)] := by
                  intro j52_0  hR
                  refine j_cvV (na := 2) C dX5_sheet_60 63 rfl (c_X1_become τ (fun j => a (66 + j)) (sit 3) (ssr 3) (ssi 3) x2 j52_0 ) gX5_sheet_X1_become rfl rfl rfl qd_X1_become rfl ⟨by decide, by decide⟩ ⟨by decide, by decide⟩ rfl (Nat.le_of_ble_eq_true rfl) [10, 11] [0, 1, 2, 3, 4, 5, 6, 7, 8, 9] [0, 1, 2, 3, 4, 5, 6, 7, 8, 9, 10, 11] ((wX τ a rws isv rc) ++ [(a 60, .inr (1, [.ref (a 61), .int (ssr 0), .int (ssi 0)])), (a 61, .inl (τ.2.2.1 1, 40, .inr (.inl (sit 0)))), (a 62, .inr (1, [.ref (a 63), .int (ssr 1), .int (ssi 1)])), (a 63, .inl (τ.2.2.1 1, 40, .inr (.inl (sit 1)))), (a 64, .inr (1, [.ref (a 65), .int (ssr 2), .int (ssi 2)])), (a 65, .inl (τ.2.2.1 1, 40, .inr (.inl (sit 2))))]) rfl (by decide) rfl (by decide) (by decide) 1 0 rfl rfl (fun u => ((wX τ a rws isv rc) ++ (wSS τ a (upS sit 3 u.1) (upd ssr 3 u.2.1) (upd ssi 3 u.2.2)))) (fun _ => rfl) (by decide) (fun u50 hX50 => ?_)
                  obtain ⟨it_50, sr_50, si_50⟩ := u50
                  rw [hX50] at hR; rw [pr3_mk it_50 sr_50 si_50] at hR
                  refine j_iconst (v := 1) C dX5_sheet_63 64 rfl (by decide) ?_
                  exact Rt.ret (hR) rfl dX5_sheet_64
                refine j_icmp_ne C dX5_sheet_52 59 rfl 55 rfl (fun c49 => ?_) (fun c49 => ?_)
                · rw [if_neg c49] at hR
                  refine j_iload_n C dX5_sheet_59 60 rfl rfl 3 rfl ?_
                  rw [pr1_mk x3] at hR
                  exact j_lv [0, 1, 2, 3] [(0, .ref (a 0)), (1, .int 3), (2, .int x2), (3, .int x3)] rfl (J52 _  hR)
                · rw [if_pos c49] at hR
                  refine j_iconst (v := 0) C dX5_sheet_55 56 rfl (by decide) ?_
                  refine j_goto C dX5_sheet_56 60 rfl ?_
                  rw [pr1_mk (0 : Int32)] at hR
                  exact j_lv [0, 1, 2, 3] [(0, .ref (a 0)), (1, .int 3), (2, .int x2), (3, .int x3)] rfl (J52 _  hR)
            · rw [if_neg c40] at hR
              refine j_bipush (v := (-14)) C dX5_sheet_40 42 rfl (by decide) ?_
              exact Rt.ret (hR) rfl dX5_sheet_42
        · rw [if_neg c28] at hR
          refine j_iconst (v := (-1)) C dX5_sheet_29 30 rfl (by decide) ?_
          exact Rt.ret (hR) rfl dX5_sheet_30
    · rw [if_pos c4] at hR
      refine j_iconst (v := (-1)) C dX5_sheet_16 17 rfl (by decide) ?_
      exact Rt.ret (hR) rfl dX5_sheet_17

-- X5_shelf main now shelves sheets
def k_X5_shelf_47 (ssr : Nat → Int32) (ssi : Nat → Int32) (shw : Nat → Int32) (shn : Nat → Int32) (shs : Nat → Int32) (shz : Nat → Int32) (x1 : Int32) (x2 : Int32) (x3 : Int32) : Int32 × (Nat → Int32) × (Nat → Int32) × (Nat → Int32) × (Nat → Int32) := if (x2 = 0) then (pr2 (f_X2_holdPerson x3) (fun vw_12 vn_12 => ((1 : Int32), (upd shw (x1).toNatClampNeg vw_12), (upd shn (x1).toNatClampNeg vn_12), shs, shz))) else (if (x2 = 1) then (if ((ssr (x3).toNatClampNeg) = (-1)) then (pr1 f_X2_holdNothing (fun vw_19 => ((1 : Int32), (upd shw (x1).toNatClampNeg vw_19), shn, shs, shz))) else (pr3 (f_X2_holdRow (ssr (x3).toNatClampNeg) (ssi (x3).toNatClampNeg)) (fun vw_20 vs_20 vz_20 => ((1 : Int32), (upd shw (x1).toNatClampNeg vw_20), shn, (upd shs (x1).toNatClampNeg vs_20), (upd shz (x1).toNatClampNeg vz_20))))) else (pr1 f_X2_holdNothing (fun vw_65 => ((1 : Int32), (upd shw (x1).toNatClampNeg vw_65), shn, shs, shz))))
def f_X5_shelf (nct : Int32) (ssr : Nat → Int32) (ssi : Nat → Int32) (shw : Nat → Int32) (shn : Nat → Int32) (shs : Nat → Int32) (shz : Nat → Int32) (x1 : Int32) (x2 : Int32) (x3 : Int32) : Int32 × (Nat → Int32) × (Nat → Int32) × (Nat → Int32) × (Nat → Int32) := if ((f_X5_isShelf x1) = 0) then (((-1) : Int32), shw, shn, shs, shz) else (if ((f_X5_isIn x2 (0 : Int32) (2 : Int32)) = 0) then (((-1) : Int32), shw, shn, shs, shz) else (if (x2 = 0) then (if ((f_X4_has nct x3) = 0) then (((-1) : Int32), shw, shn, shs, shz) else (if (x2 = 1) then (if ((f_X5_isSheet x3) = 0) then (((-1) : Int32), shw, shn, shs, shz) else (k_X5_shelf_47 ssr ssi shw shn shs shz x1 x2 x3)) else (k_X5_shelf_47 ssr ssi shw shn shs shz x1 x2 x3))) else (if (x2 = 1) then (if ((f_X5_isSheet x3) = 0) then (((-1) : Int32), shw, shn, shs, shz) else (k_X5_shelf_47 ssr ssi shw shn shs shz x1 x2 x3)) else (k_X5_shelf_47 ssr ssi shw shn shs shz x1 x2 x3))))
theorem kX5_shelf_iRX5 : Cond.initialized yX5_isSheet.cls ∈ wsX5_shelf := by decide +kernel
theorem kX5_shelf_sX5_isShelf : Cond.static yX5_isShelf ∈ wsX5_shelf := by decide +kernel
theorem kX5_shelf_m243 : Cond.methodLink RX5 243 yX5_isShelf ∈ wsX5_shelf := by decide +kernel
theorem kX5_shelf_sX5_isIn : Cond.static yX5_isIn ∈ wsX5_shelf := by decide +kernel
theorem kX5_shelf_m79 : Cond.methodLink RX5 79 yX5_isIn ∈ wsX5_shelf := by decide +kernel
theorem kX5_shelf_f10 : Cond.fieldLink RX5 10 "TwoMinutes" "now" "LTwoMinutes$Town;" ∈ wsX5_shelf := by decide +kernel
theorem kX5_shelf_sX5_isSheet : Cond.static yX5_isSheet ∈ wsX5_shelf := by decide +kernel
theorem kX5_shelf_m193 : Cond.methodLink RX5 193 yX5_isSheet ∈ wsX5_shelf := by decide +kernel
theorem kX5_shelf_f41 : Cond.fieldLink RX5 41 "TwoMinutes" "shelves" "[LTwoMinutes$Shelf;" ∈ wsX5_shelf := by decide +kernel
theorem kX5_shelf_f35 : Cond.fieldLink RX5 35 "TwoMinutes" "sheets" "[LTwoMinutes$Sheet;" ∈ wsX5_shelf := by decide +kernel
theorem kX5_shelf_f196 : Cond.fieldLink RX5 196 "TwoMinutes$Sheet" "sort" "I" ∈ wsX5_shelf := by decide +kernel
theorem kX5_shelf_f206 : Cond.fieldLink RX5 206 "TwoMinutes$Sheet" "size" "I" ∈ wsX5_shelf := by decide +kernel
theorem qd_X5_shelf : yX5_shelf.cls = RX5 ∧ yX5_shelf.cls ≠ "java/lang/invoke/MethodHandle" ∧ yX5_shelf.cls ≠ "java/lang/invoke/VarHandle" ∧ (parseMethodDescriptor yX5_shelf.desc).map (fun d => d.parameters.length) = some 3 := by decide +kernel
abbrev rmX5_shelf : Room := { frames := 2, cells := 0, slots := 0, locals := 43 }
set_option maxHeartbeats 4000000 in
set_option maxRecDepth 100000 in
theorem c_X5_shelf (τ : SX) (a : Nat → Nat) (rws : Nat → Int32) (isv : Int32) (rc : Int32) (nlw : Nat → Int32) (nkd : Nat → Int32) (nbt : Nat → Int32) (nph : Nat → Int32) (ncn : Nat → Int32) (nno : Nat → Int32) (nct : Int32) (nsc : Int32) (nrn : Int32) (nlg : Int32) (ndn : Int32) (nzz : Int32) (sit : Nat → Nat → Int64) (ssr : Nat → Int32) (ssi : Nat → Int32) (shw : Nat → Int32) (shn : Nat → Int32) (shs : Nat → Int32) (shz : Nat → Int32) (x1 : Int32) (x2 : Int32) (x3 : Int32) (hrc0 : 0 ≤ rc.toInt) (hrc : rc.toInt ≤ 10) (hn0 : 0 ≤ nct.toInt) (hn : nct.toInt ≤ 8) (hsi : ∀ i, 0 ≤ (ssi i).toInt ∧ (ssi i).toInt ≤ 40) (sz : Nat) : McI τ yX5_shelf wsX5_shelf rmX5_shelf .int [.ref (a 0), .int x1, .int x2, .int x3] ((wX τ a rws isv rc) ++ (wT τ (fun j => a (10 + j)) nlw nkd nbt nph ncn nno nct nsc nrn nlg ndn nzz) ++ (wSS τ a sit ssr ssi) ++ (wHH τ a shw shn shs shz)) (fun u : (Nat → Int32) × (Nat → Int32) × (Nat → Int32) × (Nat → Int32) => ((wX τ a rws isv rc) ++ (wT τ (fun j => a (10 + j)) nlw nkd nbt nph ncn nno nct nsc nrn nlg ndn nzz) ++ (wSS τ a sit ssr ssi) ++ (wHH τ a u.1 u.2.1 u.2.2.1 u.2.2.2))) (f_X5_shelf nct ssr ssi shw shn shs shz x1 x2 x3) sz := by
  refine mc_I (cc := cX5_shelf) (own := RX5) [(0, .ref (a 0)), (1, .int x1), (2, .int x2), (3, .int x3)] rfl (by decide) rfl rfl (Nat.le_of_ble_eq_true rfl) (fun κ C hR => ?_)
  have hiX2 : ∀ w ∈ wsX20, w ∈ wsX5_shelf := fun w h => List.mem_cons_of_mem _ (List.mem_append_right _ h)
  have hiX4 : ∀ w ∈ wsX40, w ∈ wsX5_shelf := fun w h => List.mem_cons_of_mem _ (List.mem_append_left _ (List.mem_append_right _ h))
  have hiX1 : ∀ w ∈ wsX10, w ∈ wsX5_shelf := fun w h => List.mem_cons_of_mem _ (List.mem_append_left _ (List.mem_append_left _ (List.mem_append_right _ h)))
  have hiX5 : ∀ w ∈ wsX50, w ∈ wsX5_shelf := fun w h => List.mem_cons_of_mem _ (List.mem_append_left _ (List.mem_append_left _ (List.mem_append_left _ (List.mem_append_right _ h))))
  unfold f_X5_shelf at hR
  have K47 : (vp_in x1 4) → (x2 = 1 → vp_in x3 4) → Rt τ κ cX5_shelf .int (fun u : (Nat → Int32) × (Nat → Int32) × (Nat → Int32) × (Nat → Int32) => ((wX τ a rws isv rc) ++ (wT τ (fun j => a (10 + j)) nlw nkd nbt nph ncn nno nct nsc nrn nlg ndn nzz) ++ (wSS τ a sit ssr ssi) ++ (wHH τ a u.1 u.2.1 u.2.2.1 u.2.2.2))) (k_X5_shelf_47 ssr ssi shw shn shs shz x1 x2 x3) → J τ κ 0 0 ((wX τ a rws isv rc) ++ (wT τ (fun j => a (10 + j)) nlw nkd nbt nph ncn nno nct nsc nrn nlg ndn nzz) ++ (wSS τ a sit ssr ssi) ++ (wHH τ a shw shn shs shz)) [(0, .ref (a 0)), (1, .int x1), (2, .int x2), (3, .int x3)] 47 [] := by
    intro hv4 hcut hR
    unfold k_X5_shelf_47 at hR
    refine j_iload_n C dX5_shelf_47 48 rfl rfl 2 rfl ?_
    refine j_if_ne C dX5_shelf_48 64 rfl 51 rfl (fun c11 => ?_) (fun c11 => ?_)
    · rw [if_neg c11] at hR
      refine j_iload_n C dX5_shelf_64 65 rfl rfl 2 rfl ?_
      refine j_iconst (v := 1) C dX5_shelf_65 66 rfl (by decide) ?_
      refine j_icmp_ne C dX5_shelf_66 112 rfl 69 rfl (fun c17 => ?_) (fun c17 => ?_)
      · rw [if_neg c17] at hR
        refine j_aload_n C dX5_shelf_112 113 rfl rfl 0 rfl ?_
        refine j_get C dX5_shelf_113 116 rfl hiX5 0 rfl rfl 8 (by decide) rfl kX5_shelf_f41 rfl ?_
        refine j_iload_n C dX5_shelf_116 117 rfl rfl 1 rfl ?_
        rcases four_of (n := x1) hv4 with rfl | rfl | rfl | rfl
        · try rw [show (0 : Int32).toNatClampNeg = 0 from rfl] at hR
          refine j_aald (t0 := 3) (b := (a 70)) (N := 4) C dX5_shelf_117 118 rfl 3 rfl rfl (by unfold vp_in; decide) (by rfl) ?_
          refine j_cvV (na := 0) C dX5_shelf_118 121 rfl (c_X2_holdNothing τ (fun j => a (70 + j)) (shw 0) (shn 0) (shs 0) (shz 0) ) gX5_shelf_X2_holdNothing rfl rfl rfl qd_X2_holdNothing rfl ⟨by decide, by decide⟩ ⟨by decide, by decide⟩ rfl (Nat.le_of_ble_eq_true rfl) [19] [0, 1, 2, 3, 4, 5, 6, 7, 8, 9, 10, 11, 12, 13, 14, 15, 16, 17, 18, 20, 21, 22] [0, 1, 2, 3, 4, 5, 6, 7, 8, 9, 10, 11, 12, 13, 14, 15, 16, 17, 18, 22, 19, 20, 21] ((wX τ a rws isv rc) ++ (wT τ (fun j => a (10 + j)) nlw nkd nbt nph ncn nno nct nsc nrn nlg ndn nzz) ++ (wSS τ a sit ssr ssi) ++ [(a 71, .inr (2, [.int (shw 1), .int (shn 1), .int (shs 1), .int (shz 1)])), (a 72, .inr (2, [.int (shw 2), .int (shn 2), .int (shs 2), .int (shz 2)])), (a 73, .inr (2, [.int (shw 3), .int (shn 3), .int (shs 3), .int (shz 3)]))]) rfl (by decide) rfl (by decide) (by decide) 2 0 rfl rfl (fun u => ((wX τ a rws isv rc) ++ (wT τ (fun j => a (10 + j)) nlw nkd nbt nph ncn nno nct nsc nrn nlg ndn nzz) ++ (wSS τ a sit ssr ssi) ++ (wHH τ a (upd shw 0 u) shn shs shz))) (fun _ => rfl) (by decide) (fun u66 hX66 => ?_)
          obtain ⟨vw_66, rfl⟩ : ∃ z, z = u66 := ⟨_, rfl⟩
          rw [hX66] at hR; rw [pr1_mk vw_66] at hR
          refine j_iconst (v := 1) C dX5_shelf_121 122 rfl (by decide) ?_
          exact Rt.ret (hR) rfl dX5_shelf_122
        · try rw [show (1 : Int32).toNatClampNeg = 1 from rfl] at hR
          refine j_aald (t0 := 3) (b := (a 71)) (N := 4) C dX5_shelf_117 118 rfl 3 rfl rfl (by unfold vp_in; decide) (by rfl) ?_
          refine j_cvV (na := 0) C dX5_shelf_118 121 rfl (c_X2_holdNothing τ (fun j => a (71 + j)) (shw 1) (shn 1) (shs 1) (shz 1) ) gX5_shelf_X2_holdNothing rfl rfl rfl qd_X2_holdNothing rfl ⟨by decide, by decide⟩ ⟨by decide, by decide⟩ rfl (Nat.le_of_ble_eq_true rfl) [20] [0, 1, 2, 3, 4, 5, 6, 7, 8, 9, 10, 11, 12, 13, 14, 15, 16, 17, 18, 19, 21, 22] [0, 1, 2, 3, 4, 5, 6, 7, 8, 9, 10, 11, 12, 13, 14, 15, 16, 17, 18, 19, 22, 20, 21] ((wX τ a rws isv rc) ++ (wT τ (fun j => a (10 + j)) nlw nkd nbt nph ncn nno nct nsc nrn nlg ndn nzz) ++ (wSS τ a sit ssr ssi) ++ [(a 70, .inr (2, [.int (shw 0), .int (shn 0), .int (shs 0), .int (shz 0)])), (a 72, .inr (2, [.int (shw 2), .int (shn 2), .int (shs 2), .int (shz 2)])), (a 73, .inr (2, [.int (shw 3), .int (shn 3), .int (shs 3), .int (shz 3)]))]) rfl (by decide) rfl (by decide) (by decide) 2 0 rfl rfl (fun u => ((wX τ a rws isv rc) ++ (wT τ (fun j => a (10 + j)) nlw nkd nbt nph ncn nno nct nsc nrn nlg ndn nzz) ++ (wSS τ a sit ssr ssi) ++ (wHH τ a (upd shw 1 u) shn shs shz))) (fun _ => rfl) (by decide) (fun u67 hX67 => ?_)
          obtain ⟨vw_67, rfl⟩ : ∃ z, z = u67 := ⟨_, rfl⟩
          rw [hX67] at hR; rw [pr1_mk vw_67] at hR
          refine j_iconst (v := 1) C dX5_shelf_121 122 rfl (by decide) ?_
          exact Rt.ret (hR) rfl dX5_shelf_122
        · try rw [show (2 : Int32).toNatClampNeg = 2 from rfl] at hR
          refine j_aald (t0 := 3) (b := (a 72)) (N := 4) C dX5_shelf_117 118 rfl 3 rfl rfl (by unfold vp_in; decide) (by rfl) ?_
          refine j_cvV (na := 0) C dX5_shelf_118 121 rfl (c_X2_holdNothing τ (fun j => a (72 + j)) (shw 2) (shn 2) (shs 2) (shz 2) ) gX5_shelf_X2_holdNothing rfl rfl rfl qd_X2_holdNothing rfl ⟨by decide, by decide⟩ ⟨by decide, by decide⟩ rfl (Nat.le_of_ble_eq_true rfl) [21] [0, 1, 2, 3, 4, 5, 6, 7, 8, 9, 10, 11, 12, 13, 14, 15, 16, 17, 18, 19, 20, 22] [0, 1, 2, 3, 4, 5, 6, 7, 8, 9, 10, 11, 12, 13, 14, 15, 16, 17, 18, 19, 20, 22, 21] ((wX τ a rws isv rc) ++ (wT τ (fun j => a (10 + j)) nlw nkd nbt nph ncn nno nct nsc nrn nlg ndn nzz) ++ (wSS τ a sit ssr ssi) ++ [(a 70, .inr (2, [.int (shw 0), .int (shn 0), .int (shs 0), .int (shz 0)])), (a 71, .inr (2, [.int (shw 1), .int (shn 1), .int (shs 1), .int (shz 1)])), (a 73, .inr (2, [.int (shw 3), .int (shn 3), .int (shs 3), .int (shz 3)]))]) rfl (by decide) rfl (by decide) (by decide) 2 0 rfl rfl (fun u => ((wX τ a rws isv rc) ++ (wT τ (fun j => a (10 + j)) nlw nkd nbt nph ncn nno nct nsc nrn nlg ndn nzz) ++ (wSS τ a sit ssr ssi) ++ (wHH τ a (upd shw 2 u) shn shs shz))) (fun _ => rfl) (by decide) (fun u68 hX68 => ?_)
          obtain ⟨vw_68, rfl⟩ : ∃ z, z = u68 := ⟨_, rfl⟩
          rw [hX68] at hR; rw [pr1_mk vw_68] at hR
          refine j_iconst (v := 1) C dX5_shelf_121 122 rfl (by decide) ?_
          exact Rt.ret (hR) rfl dX5_shelf_122
        · try rw [show (3 : Int32).toNatClampNeg = 3 from rfl] at hR
          refine j_aald (t0 := 3) (b := (a 73)) (N := 4) C dX5_shelf_117 118 rfl 3 rfl rfl (by unfold vp_in; decide) (by rfl) ?_
          refine j_cvV (na := 0) C dX5_shelf_118 121 rfl (c_X2_holdNothing τ (fun j => a (73 + j)) (shw 3) (shn 3) (shs 3) (shz 3) ) gX5_shelf_X2_holdNothing rfl rfl rfl qd_X2_holdNothing rfl ⟨by decide, by decide⟩ ⟨by decide, by decide⟩ rfl (Nat.le_of_ble_eq_true rfl) [22] [0, 1, 2, 3, 4, 5, 6, 7, 8, 9, 10, 11, 12, 13, 14, 15, 16, 17, 18, 19, 20, 21] [0, 1, 2, 3, 4, 5, 6, 7, 8, 9, 10, 11, 12, 13, 14, 15, 16, 17, 18, 19, 20, 21, 22] ((wX τ a rws isv rc) ++ (wT τ (fun j => a (10 + j)) nlw nkd nbt nph ncn nno nct nsc nrn nlg ndn nzz) ++ (wSS τ a sit ssr ssi) ++ [(a 70, .inr (2, [.int (shw 0), .int (shn 0), .int (shs 0), .int (shz 0)])), (a 71, .inr (2, [.int (shw 1), .int (shn 1), .int (shs 1), .int (shz 1)])), (a 72, .inr (2, [.int (shw 2), .int (shn 2), .int (shs 2), .int (shz 2)]))]) rfl (by decide) rfl (by decide) (by decide) 2 0 rfl rfl (fun u => ((wX τ a rws isv rc) ++ (wT τ (fun j => a (10 + j)) nlw nkd nbt nph ncn nno nct nsc nrn nlg ndn nzz) ++ (wSS τ a sit ssr ssi) ++ (wHH τ a (upd shw 3 u) shn shs shz))) (fun _ => rfl) (by decide) (fun u69 hX69 => ?_)
          obtain ⟨vw_69, rfl⟩ : ∃ z, z = u69 := ⟨_, rfl⟩
          rw [hX69] at hR; rw [pr1_mk vw_69] at hR
          refine j_iconst (v := 1) C dX5_shelf_121 122 rfl (by decide) ?_
          exact Rt.ret (hR) rfl dX5_shelf_122
      · rw [if_pos c17] at hR
        refine j_aload_n C dX5_shelf_69 70 rfl rfl 0 rfl ?_
        refine j_get C dX5_shelf_70 73 rfl hiX5 0 rfl rfl 7 (by decide) rfl kX5_shelf_f35 rfl ?_
        refine j_iload_n C dX5_shelf_73 74 rfl rfl 3 rfl ?_
        rcases four_of (n := x3) (hcut (by assumption)) with rfl | rfl | rfl | rfl
        · try rw [show (0 : Int32).toNatClampNeg = 0 from rfl] at hR
          refine j_aald (t0 := 2) (b := (a 60)) (N := 4) C dX5_shelf_74 75 rfl 2 rfl rfl (by unfold vp_in; decide) (by rfl) ?_
          refine j_get C dX5_shelf_75 78 rfl hiX1 11 rfl rfl 1 (by decide) rfl kX5_shelf_f196 rfl ?_
          refine j_iconst (v := (-1)) C dX5_shelf_78 79 rfl (by decide) ?_
          refine j_icmp_eq C dX5_shelf_79 112 rfl 82 rfl (fun c21 => ?_) (fun c21 => ?_)
          · rw [if_pos c21] at hR
            refine j_aload_n C dX5_shelf_112 113 rfl rfl 0 rfl ?_
            refine j_get C dX5_shelf_113 116 rfl hiX5 0 rfl rfl 8 (by decide) rfl kX5_shelf_f41 rfl ?_
            refine j_iload_n C dX5_shelf_116 117 rfl rfl 1 rfl ?_
            rcases four_of (n := x1) hv4 with rfl | rfl | rfl | rfl
            · try rw [show (0 : Int32).toNatClampNeg = 0 from rfl] at hR
              refine j_aald (t0 := 3) (b := (a 70)) (N := 4) C dX5_shelf_117 118 rfl 3 rfl rfl (by unfold vp_in; decide) (by rfl) ?_
              refine j_cvV (na := 0) C dX5_shelf_118 121 rfl (c_X2_holdNothing τ (fun j => a (70 + j)) (shw 0) (shn 0) (shs 0) (shz 0) ) gX5_shelf_X2_holdNothing rfl rfl rfl qd_X2_holdNothing rfl ⟨by decide, by decide⟩ ⟨by decide, by decide⟩ rfl (Nat.le_of_ble_eq_true rfl) [19] [0, 1, 2, 3, 4, 5, 6, 7, 8, 9, 10, 11, 12, 13, 14, 15, 16, 17, 18, 20, 21, 22] [0, 1, 2, 3, 4, 5, 6, 7, 8, 9, 10, 11, 12, 13, 14, 15, 16, 17, 18, 22, 19, 20, 21] ((wX τ a rws isv rc) ++ (wT τ (fun j => a (10 + j)) nlw nkd nbt nph ncn nno nct nsc nrn nlg ndn nzz) ++ (wSS τ a sit ssr ssi) ++ [(a 71, .inr (2, [.int (shw 1), .int (shn 1), .int (shs 1), .int (shz 1)])), (a 72, .inr (2, [.int (shw 2), .int (shn 2), .int (shs 2), .int (shz 2)])), (a 73, .inr (2, [.int (shw 3), .int (shn 3), .int (shs 3), .int (shz 3)]))]) rfl (by decide) rfl (by decide) (by decide) 2 0 rfl rfl (fun u => ((wX τ a rws isv rc) ++ (wT τ (fun j => a (10 + j)) nlw nkd nbt nph ncn nno nct nsc nrn nlg ndn nzz) ++ (wSS τ a sit ssr ssi) ++ (wHH τ a (upd shw 0 u) shn shs shz))) (fun _ => rfl) (by decide) (fun u23 hX23 => ?_)
              obtain ⟨vw_23, rfl⟩ : ∃ z, z = u23 := ⟨_, rfl⟩
              rw [hX23] at hR; rw [pr1_mk vw_23] at hR
              refine j_iconst (v := 1) C dX5_shelf_121 122 rfl (by decide) ?_
              exact Rt.ret (hR) rfl dX5_shelf_122
            · try rw [show (1 : Int32).toNatClampNeg = 1 from rfl] at hR
              refine j_aald (t0 := 3) (b := (a 71)) (N := 4) C dX5_shelf_117 118 rfl 3 rfl rfl (by unfold vp_in; decide) (by rfl) ?_
              refine j_cvV (na := 0) C dX5_shelf_118 121 rfl (c_X2_holdNothing τ (fun j => a (71 + j)) (shw 1) (shn 1) (shs 1) (shz 1) ) gX5_shelf_X2_holdNothing rfl rfl rfl qd_X2_holdNothing rfl ⟨by decide, by decide⟩ ⟨by decide, by decide⟩ rfl (Nat.le_of_ble_eq_true rfl) [20] [0, 1, 2, 3, 4, 5, 6, 7, 8, 9, 10, 11, 12, 13, 14, 15, 16, 17, 18, 19, 21, 22] [0, 1, 2, 3, 4, 5, 6, 7, 8, 9, 10, 11, 12, 13, 14, 15, 16, 17, 18, 19, 22, 20, 21] ((wX τ a rws isv rc) ++ (wT τ (fun j => a (10 + j)) nlw nkd nbt nph ncn nno nct nsc nrn nlg ndn nzz) ++ (wSS τ a sit ssr ssi) ++ [(a 70, .inr (2, [.int (shw 0), .int (shn 0), .int (shs 0), .int (shz 0)])), (a 72, .inr (2, [.int (shw 2), .int (shn 2), .int (shs 2), .int (shz 2)])), (a 73, .inr (2, [.int (shw 3), .int (shn 3), .int (shs 3), .int (shz 3)]))]) rfl (by decide) rfl (by decide) (by decide) 2 0 rfl rfl (fun u => ((wX τ a rws isv rc) ++ (wT τ (fun j => a (10 + j)) nlw nkd nbt nph ncn nno nct nsc nrn nlg ndn nzz) ++ (wSS τ a sit ssr ssi) ++ (wHH τ a (upd shw 1 u) shn shs shz))) (fun _ => rfl) (by decide) (fun u24 hX24 => ?_)
              obtain ⟨vw_24, rfl⟩ : ∃ z, z = u24 := ⟨_, rfl⟩
              rw [hX24] at hR; rw [pr1_mk vw_24] at hR
              refine j_iconst (v := 1) C dX5_shelf_121 122 rfl (by decide) ?_
              exact Rt.ret (hR) rfl dX5_shelf_122
            · try rw [show (2 : Int32).toNatClampNeg = 2 from rfl] at hR
              refine j_aald (t0 := 3) (b := (a 72)) (N := 4) C dX5_shelf_117 118 rfl 3 rfl rfl (by unfold vp_in; decide) (by rfl) ?_
              refine j_cvV (na := 0) C dX5_shelf_118 121 rfl (c_X2_holdNothing τ (fun j => a (72 + j)) (shw 2) (shn 2) (shs 2) (shz 2) ) gX5_shelf_X2_holdNothing rfl rfl rfl qd_X2_holdNothing rfl ⟨by decide, by decide⟩ ⟨by decide, by decide⟩ rfl (Nat.le_of_ble_eq_true rfl) [21] [0, 1, 2, 3, 4, 5, 6, 7, 8, 9, 10, 11, 12, 13, 14, 15, 16, 17, 18, 19, 20, 22] [0, 1, 2, 3, 4, 5, 6, 7, 8, 9, 10, 11, 12, 13, 14, 15, 16, 17, 18, 19, 20, 22, 21] ((wX τ a rws isv rc) ++ (wT τ (fun j => a (10 + j)) nlw nkd nbt nph ncn nno nct nsc nrn nlg ndn nzz) ++ (wSS τ a sit ssr ssi) ++ [(a 70, .inr (2, [.int (shw 0), .int (shn 0), .int (shs 0), .int (shz 0)])), (a 71, .inr (2, [.int (shw 1), .int (shn 1), .int (shs 1), .int (shz 1)])), (a 73, .inr (2, [.int (shw 3), .int (shn 3), .int (shs 3), .int (shz 3)]))]) rfl (by decide) rfl (by decide) (by decide) 2 0 rfl rfl (fun u => ((wX τ a rws isv rc) ++ (wT τ (fun j => a (10 + j)) nlw nkd nbt nph ncn nno nct nsc nrn nlg ndn nzz) ++ (wSS τ a sit ssr ssi) ++ (wHH τ a (upd shw 2 u) shn shs shz))) (fun _ => rfl) (by decide) (fun u25 hX25 => ?_)
              obtain ⟨vw_25, rfl⟩ : ∃ z, z = u25 := ⟨_, rfl⟩
              rw [hX25] at hR; rw [pr1_mk vw_25] at hR
              refine j_iconst (v := 1) C dX5_shelf_121 122 rfl (by decide) ?_
              exact Rt.ret (hR) rfl dX5_shelf_122
            · try rw [show (3 : Int32).toNatClampNeg = 3 from rfl] at hR
              refine j_aald (t0 := 3) (b := (a 73)) (N := 4) C dX5_shelf_117 118 rfl 3 rfl rfl (by unfold vp_in; decide) (by rfl) ?_
              refine j_cvV (na := 0) C dX5_shelf_118 121 rfl (c_X2_holdNothing τ (fun j => a (73 + j)) (shw 3) (shn 3) (shs 3) (shz 3) ) gX5_shelf_X2_holdNothing rfl rfl rfl qd_X2_holdNothing rfl ⟨by decide, by decide⟩ ⟨by decide, by decide⟩ rfl (Nat.le_of_ble_eq_true rfl) [22] [0, 1, 2, 3, 4, 5, 6, 7, 8, 9, 10, 11, 12, 13, 14, 15, 16, 17, 18, 19, 20, 21] [0, 1, 2, 3, 4, 5, 6, 7, 8, 9, 10, 11, 12, 13, 14, 15, 16, 17, 18, 19, 20, 21, 22] ((wX τ a rws isv rc) ++ (wT τ (fun j => a (10 + j)) nlw nkd nbt nph ncn nno nct nsc nrn nlg ndn nzz) ++ (wSS τ a sit ssr ssi) ++ [(a 70, .inr (2, [.int (shw 0), .int (shn 0), .int (shs 0), .int (shz 0)])), (a 71, .inr (2, [.int (shw 1), .int (shn 1), .int (shs 1), .int (shz 1)])), (a 72, .inr (2, [.int (shw 2), .int (shn 2), .int (shs 2), .int (shz 2)]))]) rfl (by decide) rfl (by decide) (by decide) 2 0 rfl rfl (fun u => ((wX τ a rws isv rc) ++ (wT τ (fun j => a (10 + j)) nlw nkd nbt nph ncn nno nct nsc nrn nlg ndn nzz) ++ (wSS τ a sit ssr ssi) ++ (wHH τ a (upd shw 3 u) shn shs shz))) (fun _ => rfl) (by decide) (fun u26 hX26 => ?_)
              obtain ⟨vw_26, rfl⟩ : ∃ z, z = u26 := ⟨_, rfl⟩
              rw [hX26] at hR; rw [pr1_mk vw_26] at hR
              refine j_iconst (v := 1) C dX5_shelf_121 122 rfl (by decide) ?_
              exact Rt.ret (hR) rfl dX5_shelf_122
          · rw [if_neg c21] at hR
            refine j_aload_n C dX5_shelf_82 83 rfl rfl 0 rfl ?_
            refine j_get C dX5_shelf_83 86 rfl hiX5 0 rfl rfl 8 (by decide) rfl kX5_shelf_f41 rfl ?_
            refine j_iload_n C dX5_shelf_86 87 rfl rfl 1 rfl ?_
            rcases four_of (n := x1) hv4 with rfl | rfl | rfl | rfl
            · try rw [show (0 : Int32).toNatClampNeg = 0 from rfl] at hR
              refine j_aald (t0 := 3) (b := (a 70)) (N := 4) C dX5_shelf_87 88 rfl 3 rfl rfl (by unfold vp_in; decide) (by rfl) ?_
              refine j_aload_n C dX5_shelf_88 89 rfl rfl 0 rfl ?_
              refine j_get C dX5_shelf_89 92 rfl hiX5 0 rfl rfl 7 (by decide) rfl kX5_shelf_f35 rfl ?_
              refine j_iload_n C dX5_shelf_92 93 rfl rfl 3 rfl ?_
              refine j_aald (t0 := 2) (b := (a 60)) (N := 4) C dX5_shelf_93 94 rfl 2 rfl rfl (by unfold vp_in; decide) (by rfl) ?_
              refine j_get C dX5_shelf_94 97 rfl hiX1 11 rfl rfl 1 (by decide) rfl kX5_shelf_f196 rfl ?_
              refine j_aload_n C dX5_shelf_97 98 rfl rfl 0 rfl ?_
              refine j_get C dX5_shelf_98 101 rfl hiX5 0 rfl rfl 7 (by decide) rfl kX5_shelf_f35 rfl ?_
              refine j_iload_n C dX5_shelf_101 102 rfl rfl 3 rfl ?_
              refine j_aald (t0 := 2) (b := (a 60)) (N := 4) C dX5_shelf_102 103 rfl 2 rfl rfl (by unfold vp_in; decide) (by rfl) ?_
              refine j_get C dX5_shelf_103 106 rfl hiX1 11 rfl rfl 2 (by decide) rfl kX5_shelf_f206 rfl ?_
              refine j_cvV (na := 2) C dX5_shelf_106 109 rfl (c_X2_holdRow τ (fun j => a (70 + j)) (shw 0) (shn 0) (shs 0) (shz 0) (ssr 0) (ssi 0) ) gX5_shelf_X2_holdRow rfl rfl rfl qd_X2_holdRow rfl ⟨by decide, by decide⟩ ⟨by decide, by decide⟩ rfl (Nat.le_of_ble_eq_true rfl) [19] [0, 1, 2, 3, 4, 5, 6, 7, 8, 9, 10, 11, 12, 13, 14, 15, 16, 17, 18, 20, 21, 22] [0, 1, 2, 3, 4, 5, 6, 7, 8, 9, 10, 11, 12, 13, 14, 15, 16, 17, 18, 22, 19, 20, 21] ((wX τ a rws isv rc) ++ (wT τ (fun j => a (10 + j)) nlw nkd nbt nph ncn nno nct nsc nrn nlg ndn nzz) ++ (wSS τ a sit ssr ssi) ++ [(a 71, .inr (2, [.int (shw 1), .int (shn 1), .int (shs 1), .int (shz 1)])), (a 72, .inr (2, [.int (shw 2), .int (shn 2), .int (shs 2), .int (shz 2)])), (a 73, .inr (2, [.int (shw 3), .int (shn 3), .int (shs 3), .int (shz 3)]))]) rfl (by decide) rfl (by decide) (by decide) 2 0 rfl rfl (fun u => ((wX τ a rws isv rc) ++ (wT τ (fun j => a (10 + j)) nlw nkd nbt nph ncn nno nct nsc nrn nlg ndn nzz) ++ (wSS τ a sit ssr ssi) ++ (wHH τ a (upd shw 0 u.1) shn (upd shs 0 u.2.1) (upd shz 0 u.2.2)))) (fun _ => rfl) (by decide) (fun u28 hX28 => ?_)
              obtain ⟨vw_28, vs_28, vz_28⟩ := u28
              rw [hX28] at hR; rw [pr3_mk vw_28 vs_28 vz_28] at hR
              refine j_goto C dX5_shelf_109 121 rfl ?_
              refine j_iconst (v := 1) C dX5_shelf_121 122 rfl (by decide) ?_
              exact Rt.ret (hR) rfl dX5_shelf_122
            · try rw [show (1 : Int32).toNatClampNeg = 1 from rfl] at hR
              refine j_aald (t0 := 3) (b := (a 71)) (N := 4) C dX5_shelf_87 88 rfl 3 rfl rfl (by unfold vp_in; decide) (by rfl) ?_
              refine j_aload_n C dX5_shelf_88 89 rfl rfl 0 rfl ?_
              refine j_get C dX5_shelf_89 92 rfl hiX5 0 rfl rfl 7 (by decide) rfl kX5_shelf_f35 rfl ?_
              refine j_iload_n C dX5_shelf_92 93 rfl rfl 3 rfl ?_
              refine j_aald (t0 := 2) (b := (a 60)) (N := 4) C dX5_shelf_93 94 rfl 2 rfl rfl (by unfold vp_in; decide) (by rfl) ?_
              refine j_get C dX5_shelf_94 97 rfl hiX1 11 rfl rfl 1 (by decide) rfl kX5_shelf_f196 rfl ?_
              refine j_aload_n C dX5_shelf_97 98 rfl rfl 0 rfl ?_
              refine j_get C dX5_shelf_98 101 rfl hiX5 0 rfl rfl 7 (by decide) rfl kX5_shelf_f35 rfl ?_
              refine j_iload_n C dX5_shelf_101 102 rfl rfl 3 rfl ?_
              refine j_aald (t0 := 2) (b := (a 60)) (N := 4) C dX5_shelf_102 103 rfl 2 rfl rfl (by unfold vp_in; decide) (by rfl) ?_
              refine j_get C dX5_shelf_103 106 rfl hiX1 11 rfl rfl 2 (by decide) rfl kX5_shelf_f206 rfl ?_
              refine j_cvV (na := 2) C dX5_shelf_106 109 rfl (c_X2_holdRow τ (fun j => a (71 + j)) (shw 1) (shn 1) (shs 1) (shz 1) (ssr 0) (ssi 0) ) gX5_shelf_X2_holdRow rfl rfl rfl qd_X2_holdRow rfl ⟨by decide, by decide⟩ ⟨by decide, by decide⟩ rfl (Nat.le_of_ble_eq_true rfl) [20] [0, 1, 2, 3, 4, 5, 6, 7, 8, 9, 10, 11, 12, 13, 14, 15, 16, 17, 18, 19, 21, 22] [0, 1, 2, 3, 4, 5, 6, 7, 8, 9, 10, 11, 12, 13, 14, 15, 16, 17, 18, 19, 22, 20, 21] ((wX τ a rws isv rc) ++ (wT τ (fun j => a (10 + j)) nlw nkd nbt nph ncn nno nct nsc nrn nlg ndn nzz) ++ (wSS τ a sit ssr ssi) ++ [(a 70, .inr (2, [.int (shw 0), .int (shn 0), .int (shs 0), .int (shz 0)])), (a 72, .inr (2, [.int (shw 2), .int (shn 2), .int (shs 2), .int (shz 2)])), (a 73, .inr (2, [.int (shw 3), .int (shn 3), .int (shs 3), .int (shz 3)]))]) rfl (by decide) rfl (by decide) (by decide) 2 0 rfl rfl (fun u => ((wX τ a rws isv rc) ++ (wT τ (fun j => a (10 + j)) nlw nkd nbt nph ncn nno nct nsc nrn nlg ndn nzz) ++ (wSS τ a sit ssr ssi) ++ (wHH τ a (upd shw 1 u.1) shn (upd shs 1 u.2.1) (upd shz 1 u.2.2)))) (fun _ => rfl) (by decide) (fun u29 hX29 => ?_)
              obtain ⟨vw_29, vs_29, vz_29⟩ := u29
              rw [hX29] at hR; rw [pr3_mk vw_29 vs_29 vz_29] at hR
              refine j_goto C dX5_shelf_109 121 rfl ?_
              refine j_iconst (v := 1) C dX5_shelf_121 122 rfl (by decide) ?_
              exact Rt.ret (hR) rfl dX5_shelf_122
            · try rw [show (2 : Int32).toNatClampNeg = 2 from rfl] at hR
              refine j_aald (t0 := 3) (b := (a 72)) (N := 4) C dX5_shelf_87 88 rfl 3 rfl rfl (by unfold vp_in; decide) (by rfl) ?_
              refine j_aload_n C dX5_shelf_88 89 rfl rfl 0 rfl ?_
              refine j_get C dX5_shelf_89 92 rfl hiX5 0 rfl rfl 7 (by decide) rfl kX5_shelf_f35 rfl ?_
              refine j_iload_n C dX5_shelf_92 93 rfl rfl 3 rfl ?_
              refine j_aald (t0 := 2) (b := (a 60)) (N := 4) C dX5_shelf_93 94 rfl 2 rfl rfl (by unfold vp_in; decide) (by rfl) ?_
              refine j_get C dX5_shelf_94 97 rfl hiX1 11 rfl rfl 1 (by decide) rfl kX5_shelf_f196 rfl ?_
              refine j_aload_n C dX5_shelf_97 98 rfl rfl 0 rfl ?_
              refine j_get C dX5_shelf_98 101 rfl hiX5 0 rfl rfl 7 (by decide) rfl kX5_shelf_f35 rfl ?_
              refine j_iload_n C dX5_shelf_101 102 rfl rfl 3 rfl ?_
              refine j_aald (t0 := 2) (b := (a 60)) (N := 4) C dX5_shelf_102 103 rfl 2 rfl rfl (by unfold vp_in; decide) (by rfl) ?_
              refine j_get C dX5_shelf_103 106 rfl hiX1 11 rfl rfl 2 (by decide) rfl kX5_shelf_f206 rfl ?_
              refine j_cvV (na := 2) C dX5_shelf_106 109 rfl (c_X2_holdRow τ (fun j => a (72 + j)) (shw 2) (shn 2) (shs 2) (shz 2) (ssr 0) (ssi 0) ) gX5_shelf_X2_holdRow rfl rfl rfl qd_X2_holdRow rfl ⟨by decide, by decide⟩ ⟨by decide, by decide⟩ rfl (Nat.le_of_ble_eq_true rfl) [21] [0, 1, 2, 3, 4, 5, 6, 7, 8, 9, 10, 11, 12, 13, 14, 15, 16, 17, 18, 19, 20, 22] [0, 1, 2, 3, 4, 5, 6, 7, 8, 9, 10, 11, 12, 13, 14, 15, 16, 17, 18, 19, 20, 22, 21] ((wX τ a rws isv rc) ++ (wT τ (fun j => a (10 + j)) nlw nkd nbt nph ncn nno nct nsc nrn nlg ndn nzz) ++ (wSS τ a sit ssr ssi) ++ [(a 70, .inr (2, [.int (shw 0), .int (shn 0), .int (shs 0), .int (shz 0)])), (a 71, .inr (2, [.int (shw 1), .int (shn 1), .int (shs 1), .int (shz 1)])), (a 73, .inr (2, [.int (shw 3), .int (shn 3), .int (shs 3), .int (shz 3)]))]) rfl (by decide) rfl (by decide) (by decide) 2 0 rfl rfl (fun u => ((wX τ a rws isv rc) ++ (wT τ (fun j => a (10 + j)) nlw nkd nbt nph ncn nno nct nsc nrn nlg ndn nzz) ++ (wSS τ a sit ssr ssi) ++ (wHH τ a (upd shw 2 u.1) shn (upd shs 2 u.2.1) (upd shz 2 u.2.2)))) (fun _ => rfl) (by decide) (fun u30 hX30 => ?_)
              obtain ⟨vw_30, vs_30, vz_30⟩ := u30
              rw [hX30] at hR; rw [pr3_mk vw_30 vs_30 vz_30] at hR
              refine j_goto C dX5_shelf_109 121 rfl ?_
              refine j_iconst (v := 1) C dX5_shelf_121 122 rfl (by decide) ?_
              exact Rt.ret (hR) rfl dX5_shelf_122
            · try rw [show (3 : Int32).toNatClampNeg = 3 from rfl] at hR
              refine j_aald (t0 := 3) (b := (a 73)) (N := 4) C dX5_shelf_87 88 rfl 3 rfl rfl (by unfold vp_in; decide) (by rfl) ?_
              refine j_aload_n C dX5_shelf_88 89 rfl rfl 0 rfl ?_
              refine j_get C dX5_shelf_89 92 rfl hiX5 0 rfl rfl 7 (by decide) rfl kX5_shelf_f35 rfl ?_
              refine j_iload_n C dX5_shelf_92 93 rfl rfl 3 rfl ?_
              refine j_aald (t0 := 2) (b := (a 60)) (N := 4) C dX5_shelf_93 94 rfl 2 rfl rfl (by unfold vp_in; decide) (by rfl) ?_
              refine j_get C dX5_shelf_94 97 rfl hiX1 11 rfl rfl 1 (by decide) rfl kX5_shelf_f196 rfl ?_
              refine j_aload_n C dX5_shelf_97 98 rfl rfl 0 rfl ?_
              refine j_get C dX5_shelf_98 101 rfl hiX5 0 rfl rfl 7 (by decide) rfl kX5_shelf_f35 rfl ?_
              refine j_iload_n C dX5_shelf_101 102 rfl rfl 3 rfl ?_
              refine j_aald (t0 := 2) (b := (a 60)) (N := 4) C dX5_shelf_102 103 rfl 2 rfl rfl (by unfold vp_in; decide) (by rfl) ?_
              refine j_get C dX5_shelf_103 106 rfl hiX1 11 rfl rfl 2 (by decide) rfl kX5_shelf_f206 rfl ?_
              refine j_cvV (na := 2) C dX5_shelf_106 109 rfl (c_X2_holdRow τ (fun j => a (73 + j)) (shw 3) (shn 3) (shs 3) (shz 3) (ssr 0) (ssi 0) ) gX5_shelf_X2_holdRow rfl rfl rfl qd_X2_holdRow rfl ⟨by decide, by decide⟩ ⟨by decide, by decide⟩ rfl (Nat.le_of_ble_eq_true rfl) [22] [0, 1, 2, 3, 4, 5, 6, 7, 8, 9, 10, 11, 12, 13, 14, 15, 16, 17, 18, 19, 20, 21] [0, 1, 2, 3, 4, 5, 6, 7, 8, 9, 10, 11, 12, 13, 14, 15, 16, 17, 18, 19, 20, 21, 22] ((wX τ a rws isv rc) ++ (wT τ (fun j => a (10 + j)) nlw nkd nbt nph ncn nno nct nsc nrn nlg ndn nzz) ++ (wSS τ a sit ssr ssi) ++ [(a 70, .inr (2, [.int (shw 0), .int (shn 0), .int (shs 0), .int (shz 0)])), (a 71, .inr (2, [.int (shw 1), .int (shn 1), .int (shs 1), .int (shz 1)])), (a 72, .inr (2, [.int (shw 2), .int (shn 2), .int (shs 2), .int (shz 2)]))]) rfl (by decide) rfl (by decide) (by decide) 2 0 rfl rfl (fun u => ((wX τ a rws isv rc) ++ (wT τ (fun j => a (10 + j)) nlw nkd nbt nph ncn nno nct nsc nrn nlg ndn nzz) ++ (wSS τ a sit ssr ssi) ++ (wHH τ a (upd shw 3 u.1) shn (upd shs 3 u.2.1) (upd shz 3 u.2.2)))) (fun _ => rfl) (by decide) (fun u31 hX31 => ?_)
              obtain ⟨vw_31, vs_31, vz_31⟩ := u31
              rw [hX31] at hR; rw [pr3_mk vw_31 vs_31 vz_31] at hR
              refine j_goto C dX5_shelf_109 121 rfl ?_
              refine j_iconst (v := 1) C dX5_shelf_121 122 rfl (by decide) ?_
              exact Rt.ret (hR) rfl dX5_shelf_122
        · try rw [show (1 : Int32).toNatClampNeg = 1 from rfl] at hR
          refine j_aald (t0 := 2) (b := (a 62)) (N := 4) C dX5_shelf_74 75 rfl 2 rfl rfl (by unfold vp_in; decide) (by rfl) ?_
          refine j_get C dX5_shelf_75 78 rfl hiX1 13 rfl rfl 1 (by decide) rfl kX5_shelf_f196 rfl ?_
          refine j_iconst (v := (-1)) C dX5_shelf_78 79 rfl (by decide) ?_
          refine j_icmp_eq C dX5_shelf_79 112 rfl 82 rfl (fun c32 => ?_) (fun c32 => ?_)
          · rw [if_pos c32] at hR
            refine j_aload_n C dX5_shelf_112 113 rfl rfl 0 rfl ?_
            refine j_get C dX5_shelf_113 116 rfl hiX5 0 rfl rfl 8 (by decide) rfl kX5_shelf_f41 rfl ?_
            refine j_iload_n C dX5_shelf_116 117 rfl rfl 1 rfl ?_
            rcases four_of (n := x1) hv4 with rfl | rfl | rfl | rfl
            · try rw [show (0 : Int32).toNatClampNeg = 0 from rfl] at hR
              refine j_aald (t0 := 3) (b := (a 70)) (N := 4) C dX5_shelf_117 118 rfl 3 rfl rfl (by unfold vp_in; decide) (by rfl) ?_
              refine j_cvV (na := 0) C dX5_shelf_118 121 rfl (c_X2_holdNothing τ (fun j => a (70 + j)) (shw 0) (shn 0) (shs 0) (shz 0) ) gX5_shelf_X2_holdNothing rfl rfl rfl qd_X2_holdNothing rfl ⟨by decide, by decide⟩ ⟨by decide, by decide⟩ rfl (Nat.le_of_ble_eq_true rfl) [19] [0, 1, 2, 3, 4, 5, 6, 7, 8, 9, 10, 11, 12, 13, 14, 15, 16, 17, 18, 20, 21, 22] [0, 1, 2, 3, 4, 5, 6, 7, 8, 9, 10, 11, 12, 13, 14, 15, 16, 17, 18, 22, 19, 20, 21] ((wX τ a rws isv rc) ++ (wT τ (fun j => a (10 + j)) nlw nkd nbt nph ncn nno nct nsc nrn nlg ndn nzz) ++ (wSS τ a sit ssr ssi) ++ [(a 71, .inr (2, [.int (shw 1), .int (shn 1), .int (shs 1), .int (shz 1)])), (a 72, .inr (2, [.int (shw 2), .int (shn 2), .int (shs 2), .int (shz 2)])), (a 73, .inr (2, [.int (shw 3), .int (shn 3), .int (shs 3), .int (shz 3)]))]) rfl (by decide) rfl (by decide) (by decide) 2 0 rfl rfl (fun u => ((wX τ a rws isv rc) ++ (wT τ (fun j => a (10 + j)) nlw nkd nbt nph ncn nno nct nsc nrn nlg ndn nzz) ++ (wSS τ a sit ssr ssi) ++ (wHH τ a (upd shw 0 u) shn shs shz))) (fun _ => rfl) (by decide) (fun u34 hX34 => ?_)
              obtain ⟨vw_34, rfl⟩ : ∃ z, z = u34 := ⟨_, rfl⟩
              rw [hX34] at hR; rw [pr1_mk vw_34] at hR
              refine j_iconst (v := 1) C dX5_shelf_121 122 rfl (by decide) ?_
              exact Rt.ret (hR) rfl dX5_shelf_122
            · try rw [show (1 : Int32).toNatClampNeg = 1 from rfl] at hR
              refine j_aald (t0 := 3) (b := (a 71)) (N := 4) C dX5_shelf_117 118 rfl 3 rfl rfl (by unfold vp_in; decide) (by rfl) ?_
              refine j_cvV (na := 0) C dX5_shelf_118 121 rfl (c_X2_holdNothing τ (fun j => a (71 + j)) (shw 1) (shn 1) (shs 1) (shz 1) ) gX5_shelf_X2_holdNothing rfl rfl rfl qd_X2_holdNothing rfl ⟨by decide, by decide⟩ ⟨by decide, by decide⟩ rfl (Nat.le_of_ble_eq_true rfl) [20] [0, 1, 2, 3, 4, 5, 6, 7, 8, 9, 10, 11, 12, 13, 14, 15, 16, 17, 18, 19, 21, 22] [0, 1, 2, 3, 4, 5, 6, 7, 8, 9, 10, 11, 12, 13, 14, 15, 16, 17, 18, 19, 22, 20, 21] ((wX τ a rws isv rc) ++ (wT τ (fun j => a (10 + j)) nlw nkd nbt nph ncn nno nct nsc nrn nlg ndn nzz) ++ (wSS τ a sit ssr ssi) ++ [(a 70, .inr (2, [.int (shw 0), .int (shn 0), .int (shs 0), .int (shz 0)])), (a 72, .inr (2, [.int (shw 2), .int (shn 2), .int (shs 2), .int (shz 2)])), (a 73, .inr (2, [.int (shw 3), .int (shn 3), .int (shs 3), .int (shz 3)]))]) rfl (by decide) rfl (by decide) (by decide) 2 0 rfl rfl (fun u => ((wX τ a rws isv rc) ++ (wT τ (fun j => a (10 + j)) nlw nkd nbt nph ncn nno nct nsc nrn nlg ndn nzz) ++ (wSS τ a sit ssr ssi) ++ (wHH τ a (upd shw 1 u) shn shs shz))) (fun _ => rfl) (by decide) (fun u35 hX35 => ?_)
              obtain ⟨vw_35, rfl⟩ : ∃ z, z = u35 := ⟨_, rfl⟩
              rw [hX35] at hR; rw [pr1_mk vw_35] at hR
              refine j_iconst (v := 1) C dX5_shelf_121 122 rfl (by decide) ?_
              exact Rt.ret (hR) rfl dX5_shelf_122
            · try rw [show (2 : Int32).toNatClampNeg = 2 from rfl] at hR
              refine j_aald (t0 := 3) (b := (a 72)) (N := 4) C dX5_shelf_117 118 rfl 3 rfl rfl (by unfold vp_in; decide) (by rfl) ?_
              refine j_cvV (na := 0) C dX5_shelf_118 121 rfl (c_X2_holdNothing τ (fun j => a (72 + j)) (shw 2) (shn 2) (shs 2) (shz 2) ) gX5_shelf_X2_holdNothing rfl rfl rfl qd_X2_holdNothing rfl ⟨by decide, by decide⟩ ⟨by decide, by decide⟩ rfl (Nat.le_of_ble_eq_true rfl) [21] [0, 1, 2, 3, 4, 5, 6, 7, 8, 9, 10, 11, 12, 13, 14, 15, 16, 17, 18, 19, 20, 22] [0, 1, 2, 3, 4, 5, 6, 7, 8, 9, 10, 11, 12, 13, 14, 15, 16, 17, 18, 19, 20, 22, 21] ((wX τ a rws isv rc) ++ (wT τ (fun j => a (10 + j)) nlw nkd nbt nph ncn nno nct nsc nrn nlg ndn nzz) ++ (wSS τ a sit ssr ssi) ++ [(a 70, .inr (2, [.int (shw 0), .int (shn 0), .int (shs 0), .int (shz 0)])), (a 71, .inr (2, [.int (shw 1), .int (shn 1), .int (shs 1), .int (shz 1)])), (a 73, .inr (2, [.int (shw 3), .int (shn 3), .int (shs 3), .int (shz 3)]))]) rfl (by decide) rfl (by decide) (by decide) 2 0 rfl rfl (fun u => ((wX τ a rws isv rc) ++ (wT τ (fun j => a (10 + j)) nlw nkd nbt nph ncn nno nct nsc nrn nlg ndn nzz) ++ (wSS τ a sit ssr ssi) ++ (wHH τ a (upd shw 2 u) shn shs shz))) (fun _ => rfl) (by decide) (fun u36 hX36 => ?_)
              obtain ⟨vw_36, rfl⟩ : ∃ z, z = u36 := ⟨_, rfl⟩
              rw [hX36] at hR; rw [pr1_mk vw_36] at hR
              refine j_iconst (v := 1) C dX5_shelf_121 122 rfl (by decide) ?_
              exact Rt.ret (hR) rfl dX5_shelf_122
            · try rw [show (3 : Int32).toNatClampNeg = 3 from rfl] at hR
              refine j_aald (t0 := 3) (b := (a 73)) (N := 4) C dX5_shelf_117 118 rfl 3 rfl rfl (by unfold vp_in; decide) (by rfl) ?_
              refine j_cvV (na := 0) C dX5_shelf_118 121 rfl (c_X2_holdNothing τ (fun j => a (73 + j)) (shw 3) (shn 3) (shs 3) (shz 3) ) gX5_shelf_X2_holdNothing rfl rfl rfl qd_X2_holdNothing rfl ⟨by decide, by decide⟩ ⟨by decide, by decide⟩ rfl (Nat.le_of_ble_eq_true rfl) [22] [0, 1, 2, 3, 4, 5, 6, 7, 8, 9, 10, 11, 12, 13, 14, 15, 16, 17, 18, 19, 20, 21] [0, 1, 2, 3, 4, 5, 6, 7, 8, 9, 10, 11, 12, 13, 14, 15, 16, 17, 18, 19, 20, 21, 22] ((wX τ a rws isv rc) ++ (wT τ (fun j => a (10 + j)) nlw nkd nbt nph ncn nno nct nsc nrn nlg ndn nzz) ++ (wSS τ a sit ssr ssi) ++ [(a 70, .inr (2, [.int (shw 0), .int (shn 0), .int (shs 0), .int (shz 0)])), (a 71, .inr (2, [.int (shw 1), .int (shn 1), .int (shs 1), .int (shz 1)])), (a 72, .inr (2, [.int (shw 2), .int (shn 2), .int (shs 2), .int (shz 2)]))]) rfl (by decide) rfl (by decide) (by decide) 2 0 rfl rfl (fun u => ((wX τ a rws isv rc) ++ (wT τ (fun j => a (10 + j)) nlw nkd nbt nph ncn nno nct nsc nrn nlg ndn nzz) ++ (wSS τ a sit ssr ssi) ++ (wHH τ a (upd shw 3 u) shn shs shz))) (fun _ => rfl) (by decide) (fun u37 hX37 => ?_)
              obtain ⟨vw_37, rfl⟩ : ∃ z, z = u37 := ⟨_, rfl⟩
              rw [hX37] at hR; rw [pr1_mk vw_37] at hR
              refine j_iconst (v := 1) C dX5_shelf_121 122 rfl (by decide) ?_
              exact Rt.ret (hR) rfl dX5_shelf_122
          · rw [if_neg c32] at hR
            refine j_aload_n C dX5_shelf_82 83 rfl rfl 0 rfl ?_
            refine j_get C dX5_shelf_83 86 rfl hiX5 0 rfl rfl 8 (by decide) rfl kX5_shelf_f41 rfl ?_
            refine j_iload_n C dX5_shelf_86 87 rfl rfl 1 rfl ?_
            rcases four_of (n := x1) hv4 with rfl | rfl | rfl | rfl
            · try rw [show (0 : Int32).toNatClampNeg = 0 from rfl] at hR
              refine j_aald (t0 := 3) (b := (a 70)) (N := 4) C dX5_shelf_87 88 rfl 3 rfl rfl (by unfold vp_in; decide) (by rfl) ?_
              refine j_aload_n C dX5_shelf_88 89 rfl rfl 0 rfl ?_
              refine j_get C dX5_shelf_89 92 rfl hiX5 0 rfl rfl 7 (by decide) rfl kX5_shelf_f35 rfl ?_
              refine j_iload_n C dX5_shelf_92 93 rfl rfl 3 rfl ?_
              refine j_aald (t0 := 2) (b := (a 62)) (N := 4) C dX5_shelf_93 94 rfl 2 rfl rfl (by unfold vp_in; decide) (by rfl) ?_
              refine j_get C dX5_shelf_94 97 rfl hiX1 13 rfl rfl 1 (by decide) rfl kX5_shelf_f196 rfl ?_
              refine j_aload_n C dX5_shelf_97 98 rfl rfl 0 rfl ?_
              refine j_get C dX5_shelf_98 101 rfl hiX5 0 rfl rfl 7 (by decide) rfl kX5_shelf_f35 rfl ?_
              refine j_iload_n C dX5_shelf_101 102 rfl rfl 3 rfl ?_
              refine j_aald (t0 := 2) (b := (a 62)) (N := 4) C dX5_shelf_102 103 rfl 2 rfl rfl (by unfold vp_in; decide) (by rfl) ?_
              refine j_get C dX5_shelf_103 106 rfl hiX1 13 rfl rfl 2 (by decide) rfl kX5_shelf_f206 rfl ?_
              refine j_cvV (na := 2) C dX5_shelf_106 109 rfl (c_X2_holdRow τ (fun j => a (70 + j)) (shw 0) (shn 0) (shs 0) (shz 0) (ssr 1) (ssi 1) ) gX5_shelf_X2_holdRow rfl rfl rfl qd_X2_holdRow rfl ⟨by decide, by decide⟩ ⟨by decide, by decide⟩ rfl (Nat.le_of_ble_eq_true rfl) [19] [0, 1, 2, 3, 4, 5, 6, 7, 8, 9, 10, 11, 12, 13, 14, 15, 16, 17, 18, 20, 21, 22] [0, 1, 2, 3, 4, 5, 6, 7, 8, 9, 10, 11, 12, 13, 14, 15, 16, 17, 18, 22, 19, 20, 21] ((wX τ a rws isv rc) ++ (wT τ (fun j => a (10 + j)) nlw nkd nbt nph ncn nno nct nsc nrn nlg ndn nzz) ++ (wSS τ a sit ssr ssi) ++ [(a 71, .inr (2, [.int (shw 1), .int (shn 1), .int (shs 1), .int (shz 1)])), (a 72, .inr (2, [.int (shw 2), .int (shn 2), .int (shs 2), .int (shz 2)])), (a 73, .inr (2, [.int (shw 3), .int (shn 3), .int (shs 3), .int (shz 3)]))]) rfl (by decide) rfl (by decide) (by decide) 2 0 rfl rfl (fun u => ((wX τ a rws isv rc) ++ (wT τ (fun j => a (10 + j)) nlw nkd nbt nph ncn nno nct nsc nrn nlg ndn nzz) ++ (wSS τ a sit ssr ssi) ++ (wHH τ a (upd shw 0 u.1) shn (upd shs 0 u.2.1) (upd shz 0 u.2.2)))) (fun _ => rfl) (by decide) (fun u39 hX39 => ?_)
              obtain ⟨vw_39, vs_39, vz_39⟩ := u39
              rw [hX39] at hR; rw [pr3_mk vw_39 vs_39 vz_39] at hR
              refine j_goto C dX5_shelf_109 121 rfl ?_
              refine j_iconst (v := 1) C dX5_shelf_121 122 rfl (by decide) ?_
              exact Rt.ret (hR) rfl dX5_shelf_122
            · try rw [show (1 : Int32).toNatClampNeg = 1 from rfl] at hR
              refine j_aald (t0 := 3) (b := (a 71)) (N := 4) C dX5_shelf_87 88 rfl 3 rfl rfl (by unfold vp_in; decide) (by rfl) ?_
              refine j_aload_n C dX5_shelf_88 89 rfl rfl 0 rfl ?_
              refine j_get C dX5_shelf_89 92 rfl hiX5 0 rfl rfl 7 (by decide) rfl kX5_shelf_f35 rfl ?_
              refine j_iload_n C dX5_shelf_92 93 rfl rfl 3 rfl ?_
              refine j_aald (t0 := 2) (b := (a 62)) (N := 4) C dX5_shelf_93 94 rfl 2 rfl rfl (by unfold vp_in; decide) (by rfl) ?_
              refine j_get C dX5_shelf_94 97 rfl hiX1 13 rfl rfl 1 (by decide) rfl kX5_shelf_f196 rfl ?_
              refine j_aload_n C dX5_shelf_97 98 rfl rfl 0 rfl ?_
              refine j_get C dX5_shelf_98 101 rfl hiX5 0 rfl rfl 7 (by decide) rfl kX5_shelf_f35 rfl ?_
              refine j_iload_n C dX5_shelf_101 102 rfl rfl 3 rfl ?_
              refine j_aald (t0 := 2) (b := (a 62)) (N := 4) C dX5_shelf_102 103 rfl 2 rfl rfl (by unfold vp_in; decide) (by rfl) ?_
              refine j_get C dX5_shelf_103 106 rfl hiX1 13 rfl rfl 2 (by decide) rfl kX5_shelf_f206 rfl ?_
              refine j_cvV (na := 2) C dX5_shelf_106 109 rfl (c_X2_holdRow τ (fun j => a (71 + j)) (shw 1) (shn 1) (shs 1) (shz 1) (ssr 1) (ssi 1) ) gX5_shelf_X2_holdRow rfl rfl rfl qd_X2_holdRow rfl ⟨by decide, by decide⟩ ⟨by decide, by decide⟩ rfl (Nat.le_of_ble_eq_true rfl) [20] [0, 1, 2, 3, 4, 5, 6, 7, 8, 9, 10, 11, 12, 13, 14, 15, 16, 17, 18, 19, 21, 22] [0, 1, 2, 3, 4, 5, 6, 7, 8, 9, 10, 11, 12, 13, 14, 15, 16, 17, 18, 19, 22, 20, 21] ((wX τ a rws isv rc) ++ (wT τ (fun j => a (10 + j)) nlw nkd nbt nph ncn nno nct nsc nrn nlg ndn nzz) ++ (wSS τ a sit ssr ssi) ++ [(a 70, .inr (2, [.int (shw 0), .int (shn 0), .int (shs 0), .int (shz 0)])), (a 72, .inr (2, [.int (shw 2), .int (shn 2), .int (shs 2), .int (shz 2)])), (a 73, .inr (2, [.int (shw 3), .int (shn 3), .int (shs 3), .int (shz 3)]))]) rfl (by decide) rfl (by decide) (by decide) 2 0 rfl rfl (fun u => ((wX τ a rws isv rc) ++ (wT τ (fun j => a (10 + j)) nlw nkd nbt nph ncn nno nct nsc nrn nlg ndn nzz) ++ (wSS τ a sit ssr ssi) ++ (wHH τ a (upd shw 1 u.1) shn (upd shs 1 u.2.1) (upd shz 1 u.2.2)))) (fun _ => rfl) (by decide) (fun u40 hX40 => ?_)
              obtain ⟨vw_40, vs_40, vz_40⟩ := u40
              rw [hX40] at hR; rw [pr3_mk vw_40 vs_40 vz_40] at hR
              refine j_goto C dX5_shelf_109 121 rfl ?_
              refine j_iconst (v := 1) C dX5_shelf_121 122 rfl (by decide) ?_
              exact Rt.ret (hR) rfl dX5_shelf_122
            · try rw [show (2 : Int32).toNatClampNeg = 2 from rfl] at hR
              refine j_aald (t0 := 3) (b := (a 72)) (N := 4) C dX5_shelf_87 88 rfl 3 rfl rfl (by unfold vp_in; decide) (by rfl) ?_
              refine j_aload_n C dX5_shelf_88 89 rfl rfl 0 rfl ?_
              refine j_get C dX5_shelf_89 92 rfl hiX5 0 rfl rfl 7 (by decide) rfl kX5_shelf_f35 rfl ?_
              refine j_iload_n C dX5_shelf_92 93 rfl rfl 3 rfl ?_
              refine j_aald (t0 := 2) (b := (a 62)) (N := 4) C dX5_shelf_93 94 rfl 2 rfl rfl (by unfold vp_in; decide) (by rfl) ?_
              refine j_get C dX5_shelf_94 97 rfl hiX1 13 rfl rfl 1 (by decide) rfl kX5_shelf_f196 rfl ?_
              refine j_aload_n C dX5_shelf_97 98 rfl rfl 0 rfl ?_
              refine j_get C dX5_shelf_98 101 rfl hiX5 0 rfl rfl 7 (by decide) rfl kX5_shelf_f35 rfl ?_
              refine j_iload_n C dX5_shelf_101 102 rfl rfl 3 rfl ?_
              refine j_aald (t0 := 2) (b := (a 62)) (N := 4) C dX5_shelf_102 103 rfl 2 rfl rfl (by unfold vp_in; decide) (by rfl) ?_
              refine j_get C dX5_shelf_103 106 rfl hiX1 13 rfl rfl 2 (by decide) rfl kX5_shelf_f206 rfl ?_
              refine j_cvV (na := 2) C dX5_shelf_106 109 rfl (c_X2_holdRow τ (fun j => a (72 + j)) (shw 2) (shn 2) (shs 2) (shz 2) (ssr 1) (ssi 1) ) gX5_shelf_X2_holdRow rfl rfl rfl qd_X2_holdRow rfl ⟨by decide, by decide⟩ ⟨by decide, by decide⟩ rfl (Nat.le_of_ble_eq_true rfl) [21] [0, 1, 2, 3, 4, 5, 6, 7, 8, 9, 10, 11, 12, 13, 14, 15, 16, 17, 18, 19, 20, 22] [0, 1, 2, 3, 4, 5, 6, 7, 8, 9, 10, 11, 12, 13, 14, 15, 16, 17, 18, 19, 20, 22, 21] ((wX τ a rws isv rc) ++ (wT τ (fun j => a (10 + j)) nlw nkd nbt nph ncn nno nct nsc nrn nlg ndn nzz) ++ (wSS τ a sit ssr ssi) ++ [(a 70, .inr (2, [.int (shw 0), .int (shn 0), .int (shs 0), .int (shz 0)])), (a 71, .inr (2, [.int (shw 1), .int (shn 1), .int (shs 1), .int (shz 1)])), (a 73, .inr (2, [.int (shw 3), .int (shn 3), .int (shs 3), .int (shz 3)]))]) rfl (by decide) rfl (by decide) (by decide) 2 0 rfl rfl (fun u => ((wX τ a rws isv rc) ++ (wT τ (fun j => a (10 + j)) nlw nkd nbt nph ncn nno nct nsc nrn nlg ndn nzz) ++ (wSS τ a sit ssr ssi) ++ (wHH τ a (upd shw 2 u.1) shn (upd shs 2 u.2.1) (upd shz 2 u.2.2)))) (fun _ => rfl) (by decide) (fun u41 hX41 => ?_)
              obtain ⟨vw_41, vs_41, vz_41⟩ := u41
              rw [hX41] at hR; rw [pr3_mk vw_41 vs_41 vz_41] at hR
              refine j_goto C dX5_shelf_109 121 rfl ?_
              refine j_iconst (v := 1) C dX5_shelf_121 122 rfl (by decide) ?_
              exact Rt.ret (hR) rfl dX5_shelf_122
            · try rw [show (3 : Int32).toNatClampNeg = 3 from rfl] at hR
              refine j_aald (t0 := 3) (b := (a 73)) (N := 4) C dX5_shelf_87 88 rfl 3 rfl rfl (by unfold vp_in; decide) (by rfl) ?_
              refine j_aload_n C dX5_shelf_88 89 rfl rfl 0 rfl ?_
              refine j_get C dX5_shelf_89 92 rfl hiX5 0 rfl rfl 7 (by decide) rfl kX5_shelf_f35 rfl ?_
              refine j_iload_n C dX5_shelf_92 93 rfl rfl 3 rfl ?_
              refine j_aald (t0 := 2) (b := (a 62)) (N := 4) C dX5_shelf_93 94 rfl 2 rfl rfl (by unfold vp_in; decide) (by rfl) ?_
              refine j_get C dX5_shelf_94 97 rfl hiX1 13 rfl rfl 1 (by decide) rfl kX5_shelf_f196 rfl ?_
              refine j_aload_n C dX5_shelf_97 98 rfl rfl 0 rfl ?_
              refine j_get C dX5_shelf_98 101 rfl hiX5 0 rfl rfl 7 (by decide) rfl kX5_shelf_f35 rfl ?_
              refine j_iload_n C dX5_shelf_101 102 rfl rfl 3 rfl ?_
              refine j_aald (t0 := 2) (b := (a 62)) (N := 4) C dX5_shelf_102 103 rfl 2 rfl rfl (by unfold vp_in; decide) (by rfl) ?_
              refine j_get C dX5_shelf_103 106 rfl hiX1 13 rfl rfl 2 (by decide) rfl kX5_shelf_f206 rfl ?_
              refine j_cvV (na := 2) C dX5_shelf_106 109 rfl (c_X2_holdRow τ (fun j => a (73 + j)) (shw 3) (shn 3) (shs 3) (shz 3) (ssr 1) (ssi 1) ) gX5_shelf_X2_holdRow rfl rfl rfl qd_X2_holdRow rfl ⟨by decide, by decide⟩ ⟨by decide, by decide⟩ rfl (Nat.le_of_ble_eq_true rfl) [22] [0, 1, 2, 3, 4, 5, 6, 7, 8, 9, 10, 11, 12, 13, 14, 15, 16, 17, 18, 19, 20, 21] [0, 1, 2, 3, 4, 5, 6, 7, 8, 9, 10, 11, 12, 13, 14, 15, 16, 17, 18, 19, 20, 21, 22] ((wX τ a rws isv rc) ++ (wT τ (fun j => a (10 + j)) nlw nkd nbt nph ncn nno nct nsc nrn nlg ndn nzz) ++ (wSS τ a sit ssr ssi) ++ [(a 70, .inr (2, [.int (shw 0), .int (shn 0), .int (shs 0), .int (shz 0)])), (a 71, .inr (2, [.int (shw 1), .int (shn 1), .int (shs 1), .int (shz 1)])), (a 72, .inr (2, [.int (shw 2), .int (shn 2), .int (shs 2), .int (shz 2)]))]) rfl (by decide) rfl (by decide) (by decide) 2 0 rfl rfl (fun u => ((wX τ a rws isv rc) ++ (wT τ (fun j => a (10 + j)) nlw nkd nbt nph ncn nno nct nsc nrn nlg ndn nzz) ++ (wSS τ a sit ssr ssi) ++ (wHH τ a (upd shw 3 u.1) shn (upd shs 3 u.2.1) (upd shz 3 u.2.2)))) (fun _ => rfl) (by decide) (fun u42 hX42 => ?_)
              obtain ⟨vw_42, vs_42, vz_42⟩ := u42
              rw [hX42] at hR; rw [pr3_mk vw_42 vs_42 vz_42] at hR
              refine j_goto C dX5_shelf_109 121 rfl ?_
              refine j_iconst (v := 1) C dX5_shelf_121 122 rfl (by decide) ?_
              exact Rt.ret (hR) rfl dX5_shelf_122
        · try rw [show (2 : Int32).toNatClampNeg = 2 from rfl] at hR
          refine j_aald (t0 := 2) (b := (a 64)) (N := 4) C dX5_shelf_74 75 rfl 2 rfl rfl (by unfold vp_in; decide) (by rfl) ?_
          refine j_get C dX5_shelf_75 78 rfl hiX1 15 rfl rfl 1 (by decide) rfl kX5_shelf_f196 rfl ?_
          refine j_iconst (v := (-1)) C dX5_shelf_78 79 rfl (by decide) ?_
          refine j_icmp_eq C dX5_shelf_79 112 rfl 82 rfl (fun c43 => ?_) (fun c43 => ?_)
          · rw [if_pos c43] at hR
            refine j_aload_n C dX5_shelf_112 113 rfl rfl 0 rfl ?_
            refine j_get C dX5_shelf_113 116 rfl hiX5 0 rfl rfl 8 (by decide) rfl kX5_shelf_f41 rfl ?_
            refine j_iload_n C dX5_shelf_116 117 rfl rfl 1 rfl ?_
            rcases four_of (n := x1) hv4 with rfl | rfl | rfl | rfl
            · try rw [show (0 : Int32).toNatClampNeg = 0 from rfl] at hR
              refine j_aald (t0 := 3) (b := (a 70)) (N := 4) C dX5_shelf_117 118 rfl 3 rfl rfl (by unfold vp_in; decide) (by rfl) ?_
              refine j_cvV (na := 0) C dX5_shelf_118 121 rfl (c_X2_holdNothing τ (fun j => a (70 + j)) (shw 0) (shn 0) (shs 0) (shz 0) ) gX5_shelf_X2_holdNothing rfl rfl rfl qd_X2_holdNothing rfl ⟨by decide, by decide⟩ ⟨by decide, by decide⟩ rfl (Nat.le_of_ble_eq_true rfl) [19] [0, 1, 2, 3, 4, 5, 6, 7, 8, 9, 10, 11, 12, 13, 14, 15, 16, 17, 18, 20, 21, 22] [0, 1, 2, 3, 4, 5, 6, 7, 8, 9, 10, 11, 12, 13, 14, 15, 16, 17, 18, 22, 19, 20, 21] ((wX τ a rws isv rc) ++ (wT τ (fun j => a (10 + j)) nlw nkd nbt nph ncn nno nct nsc nrn nlg ndn nzz) ++ (wSS τ a sit ssr ssi) ++ [(a 71, .inr (2, [.int (shw 1), .int (shn 1), .int (shs 1), .int (shz 1)])), (a 72, .inr (2, [.int (shw 2), .int (shn 2), .int (shs 2), .int (shz 2)])), (a 73, .inr (2, [.int (shw 3), .int (shn 3), .int (shs 3), .int (shz 3)]))]) rfl (by decide) rfl (by decide) (by decide) 2 0 rfl rfl (fun u => ((wX τ a rws isv rc) ++ (wT τ (fun j => a (10 + j)) nlw nkd nbt nph ncn nno nct nsc nrn nlg ndn nzz) ++ (wSS τ a sit ssr ssi) ++ (wHH τ a (upd shw 0 u) shn shs shz))) (fun _ => rfl) (by decide) (fun u45 hX45 => ?_)
              obtain ⟨vw_45, rfl⟩ : ∃ z, z = u45 := ⟨_, rfl⟩
              rw [hX45] at hR; rw [pr1_mk vw_45] at hR
              refine j_iconst (v := 1) C dX5_shelf_121 122 rfl (by decide) ?_
              exact Rt.ret (hR) rfl dX5_shelf_122
            · try rw [show (1 : Int32).toNatClampNeg = 1 from rfl] at hR
              refine j_aald (t0 := 3) (b := (a 71)) (N := 4) C dX5_shelf_117 118 rfl 3 rfl rfl (by unfold vp_in; decide) (by rfl) ?_
              refine j_cvV (na := 0) C dX5_shelf_118 121 rfl (c_X2_holdNothing τ (fun j => a (71 + j)) (shw 1) (shn 1) (shs 1) (shz 1) ) gX5_shelf_X2_holdNothing rfl rfl rfl qd_X2_holdNothing rfl ⟨by decide, by decide⟩ ⟨by decide, by decide⟩ rfl (Nat.le_of_ble_eq_true rfl) [20] [0, 1, 2, 3, 4, 5, 6, 7, 8, 9, 10, 11, 12, 13, 14, 15, 16, 17, 18, 19, 21, 22] [0, 1, 2, 3, 4, 5, 6, 7, 8, 9, 10, 11, 12, 13, 14, 15, 16, 17, 18, 19, 22, 20, 21] ((wX τ a rws isv rc) ++ (wT τ (fun j => a (10 + j)) nlw nkd nbt nph ncn nno nct nsc nrn nlg ndn nzz) ++ (wSS τ a sit ssr ssi) ++ [(a 70, .inr (2, [.int (shw 0), .int (shn 0), .int (shs 0), .int (shz 0)])), (a 72, .inr (2, [.int (shw 2), .int (shn 2), .int (shs 2), .int (shz 2)])), (a 73, .inr (2, [.int (shw 3), .int (shn 3), .int (shs 3), .int (shz 3)]))]) rfl (by decide) rfl (by decide) (by decide) 2 0 rfl rfl (fun u => ((wX τ a rws isv rc) ++ (wT τ (fun j => a (10 + j)) nlw nkd nbt nph ncn nno nct nsc nrn nlg ndn nzz) ++ (wSS τ a sit ssr ssi) ++ (wHH τ a (upd shw 1 u) shn shs shz))) (fun _ => rfl) (by decide) (fun u46 hX46 => ?_)
              obtain ⟨vw_46, rfl⟩ : ∃ z, z = u46 := ⟨_, rfl⟩
              rw [hX46] at hR; rw [pr1_mk vw_46] at hR
              refine j_iconst (v := 1) C dX5_shelf_121 122 rfl (by decide) ?_
              exact Rt.ret (hR) rfl dX5_shelf_122
            · try rw [show (2 : Int32).toNatClampNeg = 2 from rfl] at hR
              refine j_aald (t0 := 3) (b := (a 72)) (N := 4) C dX5_shelf_117 118 rfl 3 rfl rfl (by unfold vp_in; decide) (by rfl) ?_
              refine j_cvV (na := 0) C dX5_shelf_118 121 rfl (c_X2_holdNothing τ (fun j => a (72 + j)) (shw 2) (shn 2) (shs 2) (shz 2) ) gX5_shelf_X2_holdNothing rfl rfl rfl qd_X2_holdNothing rfl ⟨by decide, by decide⟩ ⟨by decide, by decide⟩ rfl (Nat.le_of_ble_eq_true rfl) [21] [0, 1, 2, 3, 4, 5, 6, 7, 8, 9, 10, 11, 12, 13, 14, 15, 16, 17, 18, 19, 20, 22] [0, 1, 2, 3, 4, 5, 6, 7, 8, 9, 10, 11, 12, 13, 14, 15, 16, 17, 18, 19, 20, 22, 21] ((wX τ a rws isv rc) ++ (wT τ (fun j => a (10 + j)) nlw nkd nbt nph ncn nno nct nsc nrn nlg ndn nzz) ++ (wSS τ a sit ssr ssi) ++ [(a 70, .inr (2, [.int (shw 0), .int (shn 0), .int (shs 0), .int (shz 0)])), (a 71, .inr (2, [.int (shw 1), .int (shn 1), .int (shs 1), .int (shz 1)])), (a 73, .inr (2, [.int (shw 3), .int (shn 3), .int (shs 3), .int (shz 3)]))]) rfl (by decide) rfl (by decide) (by decide) 2 0 rfl rfl (fun u => ((wX τ a rws isv rc) ++ (wT τ (fun j => a (10 + j)) nlw nkd nbt nph ncn nno nct nsc nrn nlg ndn nzz) ++ (wSS τ a sit ssr ssi) ++ (wHH τ a (upd shw 2 u) shn shs shz))) (fun _ => rfl) (by decide) (fun u47 hX47 => ?_)
              obtain ⟨vw_47, rfl⟩ : ∃ z, z = u47 := ⟨_, rfl⟩
              rw [hX47] at hR; rw [pr1_mk vw_47] at hR
              refine j_iconst (v := 1) C dX5_shelf_121 122 rfl (by decide) ?_
              exact Rt.ret (hR) rfl dX5_shelf_122
            · try rw [show (3 : Int32).toNatClampNeg = 3 from rfl] at hR
              refine j_aald (t0 := 3) (b := (a 73)) (N := 4) C dX5_shelf_117 118 rfl 3 rfl rfl (by unfold vp_in; decide) (by rfl) ?_
              refine j_cvV (na := 0) C dX5_shelf_118 121 rfl (c_X2_holdNothing τ (fun j => a (73 + j)) (shw 3) (shn 3) (shs 3) (shz 3) ) gX5_shelf_X2_holdNothing rfl rfl rfl qd_X2_holdNothing rfl ⟨by decide, by decide⟩ ⟨by decide, by decide⟩ rfl (Nat.le_of_ble_eq_true rfl) [22] [0, 1, 2, 3, 4, 5, 6, 7, 8, 9, 10, 11, 12, 13, 14, 15, 16, 17, 18, 19, 20, 21] [0, 1, 2, 3, 4, 5, 6, 7, 8, 9, 10, 11, 12, 13, 14, 15, 16, 17, 18, 19, 20, 21, 22] ((wX τ a rws isv rc) ++ (wT τ (fun j => a (10 + j)) nlw nkd nbt nph ncn nno nct nsc nrn nlg ndn nzz) ++ (wSS τ a sit ssr ssi) ++ [(a 70, .inr (2, [.int (shw 0), .int (shn 0), .int (shs 0), .int (shz 0)])), (a 71, .inr (2, [.int (shw 1), .int (shn 1), .int (shs 1), .int (shz 1)])), (a 72, .inr (2, [.int (shw 2), .int (shn 2), .int (shs 2), .int (shz 2)]))]) rfl (by decide) rfl (by decide) (by decide) 2 0 rfl rfl (fun u => ((wX τ a rws isv rc) ++ (wT τ (fun j => a (10 + j)) nlw nkd nbt nph ncn nno nct nsc nrn nlg ndn nzz) ++ (wSS τ a sit ssr ssi) ++ (wHH τ a (upd shw 3 u) shn shs shz))) (fun _ => rfl) (by decide) (fun u48 hX48 => ?_)
              obtain ⟨vw_48, rfl⟩ : ∃ z, z = u48 := ⟨_, rfl⟩
              rw [hX48] at hR; rw [pr1_mk vw_48] at hR
              refine j_iconst (v := 1) C dX5_shelf_121 122 rfl (by decide) ?_
              exact Rt.ret (hR) rfl dX5_shelf_122
          · rw [if_neg c43] at hR
            refine j_aload_n C dX5_shelf_82 83 rfl rfl 0 rfl ?_
            refine j_get C dX5_shelf_83 86 rfl hiX5 0 rfl rfl 8 (by decide) rfl kX5_shelf_f41 rfl ?_
            refine j_iload_n C dX5_shelf_86 87 rfl rfl 1 rfl ?_
            rcases four_of (n := x1) hv4 with rfl | rfl | rfl | rfl
            · try rw [show (0 : Int32).toNatClampNeg = 0 from rfl] at hR
              refine j_aald (t0 := 3) (b := (a 70)) (N := 4) C dX5_shelf_87 88 rfl 3 rfl rfl (by unfold vp_in; decide) (by rfl) ?_
              refine j_aload_n C dX5_shelf_88 89 rfl rfl 0 rfl ?_
              refine j_get C dX5_shelf_89 92 rfl hiX5 0 rfl rfl 7 (by decide) rfl kX5_shelf_f35 rfl ?_
              refine j_iload_n C dX5_shelf_92 93 rfl rfl 3 rfl ?_
              refine j_aald (t0 := 2) (b := (a 64)) (N := 4) C dX5_shelf_93 94 rfl 2 rfl rfl (by unfold vp_in; decide) (by rfl) ?_
              refine j_get C dX5_shelf_94 97 rfl hiX1 15 rfl rfl 1 (by decide) rfl kX5_shelf_f196 rfl ?_
              refine j_aload_n C dX5_shelf_97 98 rfl rfl 0 rfl ?_
              refine j_get C dX5_shelf_98 101 rfl hiX5 0 rfl rfl 7 (by decide) rfl kX5_shelf_f35 rfl ?_
              refine j_iload_n C dX5_shelf_101 102 rfl rfl 3 rfl ?_
              refine j_aald (t0 := 2) (b := (a 64)) (N := 4) C dX5_shelf_102 103 rfl 2 rfl rfl (by unfold vp_in; decide) (by rfl) ?_
              refine j_get C dX5_shelf_103 106 rfl hiX1 15 rfl rfl 2 (by decide) rfl kX5_shelf_f206 rfl ?_
              refine j_cvV (na := 2) C dX5_shelf_106 109 rfl (c_X2_holdRow τ (fun j => a (70 + j)) (shw 0) (shn 0) (shs 0) (shz 0) (ssr 2) (ssi 2) ) gX5_shelf_X2_holdRow rfl rfl rfl qd_X2_holdRow rfl ⟨by decide, by decide⟩ ⟨by decide, by decide⟩ rfl (Nat.le_of_ble_eq_true rfl) [19] [0, 1, 2, 3, 4, 5, 6, 7, 8, 9, 10, 11, 12, 13, 14, 15, 16, 17, 18, 20, 21, 22] [0, 1, 2, 3, 4, 5, 6, 7, 8, 9, 10, 11, 12, 13, 14, 15, 16, 17, 18, 22, 19, 20, 21] ((wX τ a rws isv rc) ++ (wT τ (fun j => a (10 + j)) nlw nkd nbt nph ncn nno nct nsc nrn nlg ndn nzz) ++ (wSS τ a sit ssr ssi) ++ [(a 71, .inr (2, [.int (shw 1), .int (shn 1), .int (shs 1), .int (shz 1)])), (a 72, .inr (2, [.int (shw 2), .int (shn 2), .int (shs 2), .int (shz 2)])), (a 73, .inr (2, [.int (shw 3), .int (shn 3), .int (shs 3), .int (shz 3)]))]) rfl (by decide) rfl (by decide) (by decide) 2 0 rfl rfl (fun u => ((wX τ a rws isv rc) ++ (wT τ (fun j => a (10 + j)) nlw nkd nbt nph ncn nno nct nsc nrn nlg ndn nzz) ++ (wSS τ a sit ssr ssi) ++ (wHH τ a (upd shw 0 u.1) shn (upd shs 0 u.2.1) (upd shz 0 u.2.2)))) (fun _ => rfl) (by decide) (fun u50 hX50 => ?_)
              obtain ⟨vw_50, vs_50, vz_50⟩ := u50
              rw [hX50] at hR; rw [pr3_mk vw_50 vs_50 vz_50] at hR
              refine j_goto C dX5_shelf_109 121 rfl ?_
              refine j_iconst (v := 1) C dX5_shelf_121 122 rfl (by decide) ?_
              exact Rt.ret (hR) rfl dX5_shelf_122
            · try rw [show (1 : Int32).toNatClampNeg = 1 from rfl] at hR
              refine j_aald (t0 := 3) (b := (a 71)) (N := 4) C dX5_shelf_87 88 rfl 3 rfl rfl (by unfold vp_in; decide) (by rfl) ?_
              refine j_aload_n C dX5_shelf_88 89 rfl rfl 0 rfl ?_
              refine j_get C dX5_shelf_89 92 rfl hiX5 0 rfl rfl 7 (by decide) rfl kX5_shelf_f35 rfl ?_
              refine j_iload_n C dX5_shelf_92 93 rfl rfl 3 rfl ?_
              refine j_aald (t0 := 2) (b := (a 64)) (N := 4) C dX5_shelf_93 94 rfl 2 rfl rfl (by unfold vp_in; decide) (by rfl) ?_
              refine j_get C dX5_shelf_94 97 rfl hiX1 15 rfl rfl 1 (by decide) rfl kX5_shelf_f196 rfl ?_
              refine j_aload_n C dX5_shelf_97 98 rfl rfl 0 rfl ?_
              refine j_get C dX5_shelf_98 101 rfl hiX5 0 rfl rfl 7 (by decide) rfl kX5_shelf_f35 rfl ?_
              refine j_iload_n C dX5_shelf_101 102 rfl rfl 3 rfl ?_
              refine j_aald (t0 := 2) (b := (a 64)) (N := 4) C dX5_shelf_102 103 rfl 2 rfl rfl (by unfold vp_in; decide) (by rfl) ?_
              refine j_get C dX5_shelf_103 106 rfl hiX1 15 rfl rfl 2 (by decide) rfl kX5_shelf_f206 rfl ?_
              refine j_cvV (na := 2) C dX5_shelf_106 109 rfl (c_X2_holdRow τ (fun j => a (71 + j)) (shw 1) (shn 1) (shs 1) (shz 1) (ssr 2) (ssi 2) ) gX5_shelf_X2_holdRow rfl rfl rfl qd_X2_holdRow rfl ⟨by decide, by decide⟩ ⟨by decide, by decide⟩ rfl (Nat.le_of_ble_eq_true rfl) [20] [0, 1, 2, 3, 4, 5, 6, 7, 8, 9, 10, 11, 12, 13, 14, 15, 16, 17, 18, 19, 21, 22] [0, 1, 2, 3, 4, 5, 6, 7, 8, 9, 10, 11, 12, 13, 14, 15, 16, 17, 18, 19, 22, 20, 21] ((wX τ a rws isv rc) ++ (wT τ (fun j => a (10 + j)) nlw nkd nbt nph ncn nno nct nsc nrn nlg ndn nzz) ++ (wSS τ a sit ssr ssi) ++ [(a 70, .inr (2, [.int (shw 0), .int (shn 0), .int (shs 0), .int (shz 0)])), (a 72, .inr (2, [.int (shw 2), .int (shn 2), .int (shs 2), .int (shz 2)])), (a 73, .inr (2, [.int (shw 3), .int (shn 3), .int (shs 3), .int (shz 3)]))]) rfl (by decide) rfl (by decide) (by decide) 2 0 rfl rfl (fun u => ((wX τ a rws isv rc) ++ (wT τ (fun j => a (10 + j)) nlw nkd nbt nph ncn nno nct nsc nrn nlg ndn nzz) ++ (wSS τ a sit ssr ssi) ++ (wHH τ a (upd shw 1 u.1) shn (upd shs 1 u.2.1) (upd shz 1 u.2.2)))) (fun _ => rfl) (by decide) (fun u51 hX51 => ?_)
              obtain ⟨vw_51, vs_51, vz_51⟩ := u51
              rw [hX51] at hR; rw [pr3_mk vw_51 vs_51 vz_51] at hR
              refine j_goto C dX5_shelf_109 121 rfl ?_
              refine j_iconst (v := 1) C dX5_shelf_121 122 rfl (by decide) ?_
              exact Rt.ret (hR) rfl dX5_shelf_122
            · try rw [show (2 : Int32).toNatClampNeg = 2 from rfl] at hR
              refine j_aald (t0 := 3) (b := (a 72)) (N := 4) C dX5_shelf_87 88 rfl 3 rfl rfl (by unfold vp_in; decide) (by rfl) ?_
              refine j_aload_n C dX5_shelf_88 89 rfl rfl 0 rfl ?_
              refine j_get C dX5_shelf_89 92 rfl hiX5 0 rfl rfl 7 (by decide) rfl kX5_shelf_f35 rfl ?_
              refine j_iload_n C dX5_shelf_92 93 rfl rfl 3 rfl ?_
              refine j_aald (t0 := 2) (b := (a 64)) (N := 4) C dX5_shelf_93 94 rfl 2 rfl rfl (by unfold vp_in; decide) (by rfl) ?_
              refine j_get C dX5_shelf_94 97 rfl hiX1 15 rfl rfl 1 (by decide) rfl kX5_shelf_f196 rfl ?_
              refine j_aload_n C dX5_shelf_97 98 rfl rfl 0 rfl ?_
              refine j_get C dX5_shelf_98 101 rfl hiX5 0 rfl rfl 7 (by decide) rfl kX5_shelf_f35 rfl ?_
              refine j_iload_n C dX5_shelf_101 102 rfl rfl 3 rfl ?_
              refine j_aald (t0 := 2) (b := (a 64)) (N := 4) C dX5_shelf_102 103 rfl 2 rfl rfl (by unfold vp_in; decide) (by rfl) ?_
              refine j_get C dX5_shelf_103 106 rfl hiX1 15 rfl rfl 2 (by decide) rfl kX5_shelf_f206 rfl ?_
              refine j_cvV (na := 2) C dX5_shelf_106 109 rfl (c_X2_holdRow τ (fun j => a (72 + j)) (shw 2) (shn 2) (shs 2) (shz 2) (ssr 2) (ssi 2) ) gX5_shelf_X2_holdRow rfl rfl rfl qd_X2_holdRow rfl ⟨by decide, by decide⟩ ⟨by decide, by decide⟩ rfl (Nat.le_of_ble_eq_true rfl) [21] [0, 1, 2, 3, 4, 5, 6, 7, 8, 9, 10, 11, 12, 13, 14, 15, 16, 17, 18, 19, 20, 22] [0, 1, 2, 3, 4, 5, 6, 7, 8, 9, 10, 11, 12, 13, 14, 15, 16, 17, 18, 19, 20, 22, 21] ((wX τ a rws isv rc) ++ (wT τ (fun j => a (10 + j)) nlw nkd nbt nph ncn nno nct nsc nrn nlg ndn nzz) ++ (wSS τ a sit ssr ssi) ++ [(a 70, .inr (2, [.int (shw 0), .int (shn 0), .int (shs 0), .int (shz 0)])), (a 71, .inr (2, [.int (shw 1), .int (shn 1), .int (shs 1), .int (shz 1)])), (a 73, .inr (2, [.int (shw 3), .int (shn 3), .int (shs 3), .int (shz 3)]))]) rfl (by decide) rfl (by decide) (by decide) 2 0 rfl rfl (fun u => ((wX τ a rws isv rc) ++ (wT τ (fun j => a (10 + j)) nlw nkd nbt nph ncn nno nct nsc nrn nlg ndn nzz) ++ (wSS τ a sit ssr ssi) ++ (wHH τ a (upd shw 2 u.1) shn (upd shs 2 u.2.1) (upd shz 2 u.2.2)))) (fun _ => rfl) (by decide) (fun u52 hX52 => ?_)
              obtain ⟨vw_52, vs_52, vz_52⟩ := u52
              rw [hX52] at hR; rw [pr3_mk vw_52 vs_52 vz_52] at hR
              refine j_goto C dX5_shelf_109 121 rfl ?_
              refine j_iconst (v := 1) C dX5_shelf_121 122 rfl (by decide) ?_
              exact Rt.ret (hR) rfl dX5_shelf_122
            · try rw [show (3 : Int32).toNatClampNeg = 3 from rfl] at hR
              refine j_aald (t0 := 3) (b := (a 73)) (N := 4) C dX5_shelf_87 88 rfl 3 rfl rfl (by unfold vp_in; decide) (by rfl) ?_
              refine j_aload_n C dX5_shelf_88 89 rfl rfl 0 rfl ?_
              refine j_get C dX5_shelf_89 92 rfl hiX5 0 rfl rfl 7 (by decide) rfl kX5_shelf_f35 rfl ?_
              refine j_iload_n C dX5_shelf_92 93 rfl rfl 3 rfl ?_
              refine j_aald (t0 := 2) (b := (a 64)) (N := 4) C dX5_shelf_93 94 rfl 2 rfl rfl (by unfold vp_in; decide) (by rfl) ?_
              refine j_get C dX5_shelf_94 97 rfl hiX1 15 rfl rfl 1 (by decide) rfl kX5_shelf_f196 rfl ?_
              refine j_aload_n C dX5_shelf_97 98 rfl rfl 0 rfl ?_
              refine j_get C dX5_shelf_98 101 rfl hiX5 0 rfl rfl 7 (by decide) rfl kX5_shelf_f35 rfl ?_
              refine j_iload_n C dX5_shelf_101 102 rfl rfl 3 rfl ?_
              refine j_aald (t0 := 2) (b := (a 64)) (N := 4) C dX5_shelf_102 103 rfl 2 rfl rfl (by unfold vp_in; decide) (by rfl) ?_
              refine j_get C dX5_shelf_103 106 rfl hiX1 15 rfl rfl 2 (by decide) rfl kX5_shelf_f206 rfl ?_
              refine j_cvV (na := 2) C dX5_shelf_106 109 rfl (c_X2_holdRow τ (fun j => a (73 + j)) (shw 3) (shn 3) (shs 3) (shz 3) (ssr 2) (ssi 2) ) gX5_shelf_X2_holdRow rfl rfl rfl qd_X2_holdRow rfl ⟨by decide, by decide⟩ ⟨by decide, by decide⟩ rfl (Nat.le_of_ble_eq_true rfl) [22] [0, 1, 2, 3, 4, 5, 6, 7, 8, 9, 10, 11, 12, 13, 14, 15, 16, 17, 18, 19, 20, 21] [0, 1, 2, 3, 4, 5, 6, 7, 8, 9, 10, 11, 12, 13, 14, 15, 16, 17, 18, 19, 20, 21, 22] ((wX τ a rws isv rc) ++ (wT τ (fun j => a (10 + j)) nlw nkd nbt nph ncn nno nct nsc nrn nlg ndn nzz) ++ (wSS τ a sit ssr ssi) ++ [(a 70, .inr (2, [.int (shw 0), .int (shn 0), .int (shs 0), .int (shz 0)])), (a 71, .inr (2, [.int (shw 1), .int (shn 1), .int (shs 1), .int (shz 1)])), (a 72, .inr (2, [.int (shw 2), .int (shn 2), .int (shs 2), .int (shz 2)]))]) rfl (by decide) rfl (by decide) (by decide) 2 0 rfl rfl (fun u => ((wX τ a rws isv rc) ++ (wT τ (fun j => a (10 + j)) nlw nkd nbt nph ncn nno nct nsc nrn nlg ndn nzz) ++ (wSS τ a sit ssr ssi) ++ (wHH τ a (upd shw 3 u.1) shn (upd shs 3 u.2.1) (upd shz 3 u.2.2)))) (fun _ => rfl) (by decide) (fun u53 hX53 => ?_)
              obtain ⟨vw_53, vs_53, vz_53⟩ := u53
              rw [hX53] at hR; rw [pr3_mk vw_53 vs_53 vz_53] at hR
              refine j_goto C dX5_shelf_109 121 rfl ?_
              refine j_iconst (v := 1) C dX5_shelf_121 122 rfl (by decide) ?_
              exact Rt.ret (hR) rfl dX5_shelf_122
        · try rw [show (3 : Int32).toNatClampNeg = 3 from rfl] at hR
          refine j_aald (t0 := 2) (b := (a 66)) (N := 4) C dX5_shelf_74 75 rfl 2 rfl rfl (by unfold vp_in; decide) (by rfl) ?_
          refine j_get C dX5_shelf_75 78 rfl hiX1 17 rfl rfl 1 (by decide) rfl kX5_shelf_f196 rfl ?_
          refine j_iconst (v := (-1)) C dX5_shelf_78 79 rfl (by decide) ?_
          refine j_icmp_eq C dX5_shelf_79 112 rfl 82 rfl (fun c54 => ?_) (fun c54 => ?_)
          · rw [if_pos c54] at hR
            refine j_aload_n C dX5_shelf_112 113 rfl rfl 0 rfl ?_
            refine j_get C dX5_shelf_113 116 rfl hiX5 0 rfl rfl 8 (by decide) rfl kX5_shelf_f41 rfl ?_
            refine j_iload_n C dX5_shelf_116 117 rfl rfl 1 rfl ?_
            rcases four_of (n := x1) hv4 with rfl | rfl | rfl | rfl
            · try rw [show (0 : Int32).toNatClampNeg = 0 from rfl] at hR
              refine j_aald (t0 := 3) (b := (a 70)) (N := 4) C dX5_shelf_117 118 rfl 3 rfl rfl (by unfold vp_in; decide) (by rfl) ?_
              refine j_cvV (na := 0) C dX5_shelf_118 121 rfl (c_X2_holdNothing τ (fun j => a (70 + j)) (shw 0) (shn 0) (shs 0) (shz 0) ) gX5_shelf_X2_holdNothing rfl rfl rfl qd_X2_holdNothing rfl ⟨by decide, by decide⟩ ⟨by decide, by decide⟩ rfl (Nat.le_of_ble_eq_true rfl) [19] [0, 1, 2, 3, 4, 5, 6, 7, 8, 9, 10, 11, 12, 13, 14, 15, 16, 17, 18, 20, 21, 22] [0, 1, 2, 3, 4, 5, 6, 7, 8, 9, 10, 11, 12, 13, 14, 15, 16, 17, 18, 22, 19, 20, 21] ((wX τ a rws isv rc) ++ (wT τ (fun j => a (10 + j)) nlw nkd nbt nph ncn nno nct nsc nrn nlg ndn nzz) ++ (wSS τ a sit ssr ssi) ++ [(a 71, .inr (2, [.int (shw 1), .int (shn 1), .int (shs 1), .int (shz 1)])), (a 72, .inr (2, [.int (shw 2), .int (shn 2), .int (shs 2), .int (shz 2)])), (a 73, .inr (2, [.int (shw 3), .int (shn 3), .int (shs 3), .int (shz 3)]))]) rfl (by decide) rfl (by decide) (by decide) 2 0 rfl rfl (fun u => ((wX τ a rws isv rc) ++ (wT τ (fun j => a (10 + j)) nlw nkd nbt nph ncn nno nct nsc nrn nlg ndn nzz) ++ (wSS τ a sit ssr ssi) ++ (wHH τ a (upd shw 0 u) shn shs shz))) (fun _ => rfl) (by decide) (fun u56 hX56 => ?_)
              obtain ⟨vw_56, rfl⟩ : ∃ z, z = u56 := ⟨_, rfl⟩
              rw [hX56] at hR; rw [pr1_mk vw_56] at hR
              refine j_iconst (v := 1) C dX5_shelf_121 122 rfl (by decide) ?_
              exact Rt.ret (hR) rfl dX5_shelf_122
            · try rw [show (1 : Int32).toNatClampNeg = 1 from rfl] at hR
              refine j_aald (t0 := 3) (b := (a 71)) (N := 4) C dX5_shelf_117 118 rfl 3 rfl rfl (by unfold vp_in; decide) (by rfl) ?_
              refine j_cvV (na := 0) C dX5_shelf_118 121 rfl (c_X2_holdNothing τ (fun j => a (71 + j)) (shw 1) (shn 1) (shs 1) (shz 1) ) gX5_shelf_X2_holdNothing rfl rfl rfl qd_X2_holdNothing rfl ⟨by decide, by decide⟩ ⟨by decide, by decide⟩ rfl (Nat.le_of_ble_eq_true rfl) [20] [0, 1, 2, 3, 4, 5, 6, 7, 8, 9, 10, 11, 12, 13, 14, 15, 16, 17, 18, 19, 21, 22] [0, 1, 2, 3, 4, 5, 6, 7, 8, 9, 10, 11, 12, 13, 14, 15, 16, 17, 18, 19, 22, 20, 21] ((wX τ a rws isv rc) ++ (wT τ (fun j => a (10 + j)) nlw nkd nbt nph ncn nno nct nsc nrn nlg ndn nzz) ++ (wSS τ a sit ssr ssi) ++ [(a 70, .inr (2, [.int (shw 0), .int (shn 0), .int (shs 0), .int (shz 0)])), (a 72, .inr (2, [.int (shw 2), .int (shn 2), .int (shs 2), .int (shz 2)])), (a 73, .inr (2, [.int (shw 3), .int (shn 3), .int (shs 3), .int (shz 3)]))]) rfl (by decide) rfl (by decide) (by decide) 2 0 rfl rfl (fun u => ((wX τ a rws isv rc) ++ (wT τ (fun j => a (10 + j)) nlw nkd nbt nph ncn nno nct nsc nrn nlg ndn nzz) ++ (wSS τ a sit ssr ssi) ++ (wHH τ a (upd shw 1 u) shn shs shz))) (fun _ => rfl) (by decide) (fun u57 hX57 => ?_)
              obtain ⟨vw_57, rfl⟩ : ∃ z, z = u57 := ⟨_, rfl⟩
              rw [hX57] at hR; rw [pr1_mk vw_57] at hR
              refine j_iconst (v := 1) C dX5_shelf_121 122 rfl (by decide) ?_
              exact Rt.ret (hR) rfl dX5_shelf_122
            · try rw [show (2 : Int32).toNatClampNeg = 2 from rfl] at hR
              refine j_aald (t0 := 3) (b := (a 72)) (N := 4) C dX5_shelf_117 118 rfl 3 rfl rfl (by unfold vp_in; decide) (by rfl) ?_
              refine j_cvV (na := 0) C dX5_shelf_118 121 rfl (c_X2_holdNothing τ (fun j => a (72 + j)) (shw 2) (shn 2) (shs 2) (shz 2) ) gX5_shelf_X2_holdNothing rfl rfl rfl qd_X2_holdNothing rfl ⟨by decide, by decide⟩ ⟨by decide, by decide⟩ rfl (Nat.le_of_ble_eq_true rfl) [21] [0, 1, 2, 3, 4, 5, 6, 7, 8, 9, 10, 11, 12, 13, 14, 15, 16, 17, 18, 19, 20, 22] [0, 1, 2, 3, 4, 5, 6, 7, 8, 9, 10, 11, 12, 13, 14, 15, 16, 17, 18, 19, 20, 22, 21] ((wX τ a rws isv rc) ++ (wT τ (fun j => a (10 + j)) nlw nkd nbt nph ncn nno nct nsc nrn nlg ndn nzz) ++ (wSS τ a sit ssr ssi) ++ [(a 70, .inr (2, [.int (shw 0), .int (shn 0), .int (shs 0), .int (shz 0)])), (a 71, .inr (2, [.int (shw 1), .int (shn 1), .int (shs 1), .int (shz 1)])), (a 73, .inr (2, [.int (shw 3), .int (shn 3), .int (shs 3), .int (shz 3)]))]) rfl (by decide) rfl (by decide) (by decide) 2 0 rfl rfl (fun u => ((wX τ a rws isv rc) ++ (wT τ (fun j => a (10 + j)) nlw nkd nbt nph ncn nno nct nsc nrn nlg ndn nzz) ++ (wSS τ a sit ssr ssi) ++ (wHH τ a (upd shw 2 u) shn shs shz))) (fun _ => rfl) (by decide) (fun u58 hX58 => ?_)
              obtain ⟨vw_58, rfl⟩ : ∃ z, z = u58 := ⟨_, rfl⟩
              rw [hX58] at hR; rw [pr1_mk vw_58] at hR
              refine j_iconst (v := 1) C dX5_shelf_121 122 rfl (by decide) ?_
              exact Rt.ret (hR) rfl dX5_shelf_122
            · try rw [show (3 : Int32).toNatClampNeg = 3 from rfl] at hR
              refine j_aald (t0 := 3) (b := (a 73)) (N := 4) C dX5_shelf_117 118 rfl 3 rfl rfl (by unfold vp_in; decide) (by rfl) ?_
              refine j_cvV (na := 0) C dX5_shelf_118 121 rfl (c_X2_holdNothing τ (fun j => a (73 + j)) (shw 3) (shn 3) (shs 3) (shz 3) ) gX5_shelf_X2_holdNothing rfl rfl rfl qd_X2_holdNothing rfl ⟨by decide, by decide⟩ ⟨by decide, by decide⟩ rfl (Nat.le_of_ble_eq_true rfl) [22] [0, 1, 2, 3, 4, 5, 6, 7, 8, 9, 10, 11, 12, 13, 14, 15, 16, 17, 18, 19, 20, 21] [0, 1, 2, 3, 4, 5, 6, 7, 8, 9, 10, 11, 12, 13, 14, 15, 16, 17, 18, 19, 20, 21, 22] ((wX τ a rws isv rc) ++ (wT τ (fun j => a (10 + j)) nlw nkd nbt nph ncn nno nct nsc nrn nlg ndn nzz) ++ (wSS τ a sit ssr ssi) ++ [(a 70, .inr (2, [.int (shw 0), .int (shn 0), .int (shs 0), .int (shz 0)])), (a 71, .inr (2, [.int (shw 1), .int (shn 1), .int (shs 1), .int (shz 1)])), (a 72, .inr (2, [.int (shw 2), .int (shn 2), .int (shs 2), .int (shz 2)]))]) rfl (by decide) rfl (by decide) (by decide) 2 0 rfl rfl (fun u => ((wX τ a rws isv rc) ++ (wT τ (fun j => a (10 + j)) nlw nkd nbt nph ncn nno nct nsc nrn nlg ndn nzz) ++ (wSS τ a sit ssr ssi) ++ (wHH τ a (upd shw 3 u) shn shs shz))) (fun _ => rfl) (by decide) (fun u59 hX59 => ?_)
              obtain ⟨vw_59, rfl⟩ : ∃ z, z = u59 := ⟨_, rfl⟩
              rw [hX59] at hR; rw [pr1_mk vw_59] at hR
              refine j_iconst (v := 1) C dX5_shelf_121 122 rfl (by decide) ?_
              exact Rt.ret (hR) rfl dX5_shelf_122
          · rw [if_neg c54] at hR
            refine j_aload_n C dX5_shelf_82 83 rfl rfl 0 rfl ?_
            refine j_get C dX5_shelf_83 86 rfl hiX5 0 rfl rfl 8 (by decide) rfl kX5_shelf_f41 rfl ?_
            refine j_iload_n C dX5_shelf_86 87 rfl rfl 1 rfl ?_
            rcases four_of (n := x1) hv4 with rfl | rfl | rfl | rfl
            · try rw [show (0 : Int32).toNatClampNeg = 0 from rfl] at hR
              refine j_aald (t0 := 3) (b := (a 70)) (N := 4) C dX5_shelf_87 88 rfl 3 rfl rfl (by unfold vp_in; decide) (by rfl) ?_
              refine j_aload_n C dX5_shelf_88 89 rfl rfl 0 rfl ?_
              refine j_get C dX5_shelf_89 92 rfl hiX5 0 rfl rfl 7 (by decide) rfl kX5_shelf_f35 rfl ?_
              refine j_iload_n C dX5_shelf_92 93 rfl rfl 3 rfl ?_
              refine j_aald (t0 := 2) (b := (a 66)) (N := 4) C dX5_shelf_93 94 rfl 2 rfl rfl (by unfold vp_in; decide) (by rfl) ?_
              refine j_get C dX5_shelf_94 97 rfl hiX1 17 rfl rfl 1 (by decide) rfl kX5_shelf_f196 rfl ?_
              refine j_aload_n C dX5_shelf_97 98 rfl rfl 0 rfl ?_
              refine j_get C dX5_shelf_98 101 rfl hiX5 0 rfl rfl 7 (by decide) rfl kX5_shelf_f35 rfl ?_
              refine j_iload_n C dX5_shelf_101 102 rfl rfl 3 rfl ?_
              refine j_aald (t0 := 2) (b := (a 66)) (N := 4) C dX5_shelf_102 103 rfl 2 rfl rfl (by unfold vp_in; decide) (by rfl) ?_
              refine j_get C dX5_shelf_103 106 rfl hiX1 17 rfl rfl 2 (by decide) rfl kX5_shelf_f206 rfl ?_
              refine j_cvV (na := 2) C dX5_shelf_106 109 rfl (c_X2_holdRow τ (fun j => a (70 + j)) (shw 0) (shn 0) (shs 0) (shz 0) (ssr 3) (ssi 3) ) gX5_shelf_X2_holdRow rfl rfl rfl qd_X2_holdRow rfl ⟨by decide, by decide⟩ ⟨by decide, by decide⟩ rfl (Nat.le_of_ble_eq_true rfl) [19] [0, 1, 2, 3, 4, 5, 6, 7, 8, 9, 10, 11, 12, 13, 14, 15, 16, 17, 18, 20, 21, 22] [0, 1, 2, 3, 4, 5, 6, 7, 8, 9, 10, 11, 12, 13, 14, 15, 16, 17, 18, 22, 19, 20, 21] ((wX τ a rws isv rc) ++ (wT τ (fun j => a (10 + j)) nlw nkd nbt nph ncn nno nct nsc nrn nlg ndn nzz) ++ (wSS τ a sit ssr ssi) ++ [(a 71, .inr (2, [.int (shw 1), .int (shn 1), .int (shs 1), .int (shz 1)])), (a 72, .inr (2, [.int (shw 2), .int (shn 2), .int (shs 2), .int (shz 2)])), (a 73, .inr (2, [.int (shw 3), .int (shn 3), .int (shs 3), .int (shz 3)]))]) rfl (by decide) rfl (by decide) (by decide) 2 0 rfl rfl (fun u => ((wX τ a rws isv rc) ++ (wT τ (fun j => a (10 + j)) nlw nkd nbt nph ncn nno nct nsc nrn nlg ndn nzz) ++ (wSS τ a sit ssr ssi) ++ (wHH τ a (upd shw 0 u.1) shn (upd shs 0 u.2.1) (upd shz 0 u.2.2)))) (fun _ => rfl) (by decide) (fun u61 hX61 => ?_)
              obtain ⟨vw_61, vs_61, vz_61⟩ := u61
              rw [hX61] at hR; rw [pr3_mk vw_61 vs_61 vz_61] at hR
              refine j_goto C dX5_shelf_109 121 rfl ?_
              refine j_iconst (v := 1) C dX5_shelf_121 122 rfl (by decide) ?_
              exact Rt.ret (hR) rfl dX5_shelf_122
            · try rw [show (1 : Int32).toNatClampNeg = 1 from rfl] at hR
              refine j_aald (t0 := 3) (b := (a 71)) (N := 4) C dX5_shelf_87 88 rfl 3 rfl rfl (by unfold vp_in; decide) (by rfl) ?_
              refine j_aload_n C dX5_shelf_88 89 rfl rfl 0 rfl ?_
              refine j_get C dX5_shelf_89 92 rfl hiX5 0 rfl rfl 7 (by decide) rfl kX5_shelf_f35 rfl ?_
              refine j_iload_n C dX5_shelf_92 93 rfl rfl 3 rfl ?_
              refine j_aald (t0 := 2) (b := (a 66)) (N := 4) C dX5_shelf_93 94 rfl 2 rfl rfl (by unfold vp_in; decide) (by rfl) ?_
              refine j_get C dX5_shelf_94 97 rfl hiX1 17 rfl rfl 1 (by decide) rfl kX5_shelf_f196 rfl ?_
              refine j_aload_n C dX5_shelf_97 98 rfl rfl 0 rfl ?_
              refine j_get C dX5_shelf_98 101 rfl hiX5 0 rfl rfl 7 (by decide) rfl kX5_shelf_f35 rfl ?_
              refine j_iload_n C dX5_shelf_101 102 rfl rfl 3 rfl ?_
              refine j_aald (t0 := 2) (b := (a 66)) (N := 4) C dX5_shelf_102 103 rfl 2 rfl rfl (by unfold vp_in; decide) (by rfl) ?_
              refine j_get C dX5_shelf_103 106 rfl hiX1 17 rfl rfl 2 (by decide) rfl kX5_shelf_f206 rfl ?_
              refine j_cvV (na := 2) C dX5_shelf_106 109 rfl (c_X2_holdRow τ (fun j => a (71 + j)) (shw 1) (shn 1) (shs 1) (shz 1) (ssr 3) (ssi 3) ) gX5_shelf_X2_holdRow rfl rfl rfl qd_X2_holdRow rfl ⟨by decide, by decide⟩ ⟨by decide, by decide⟩ rfl (Nat.le_of_ble_eq_true rfl) [20] [0, 1, 2, 3, 4, 5, 6, 7, 8, 9, 10, 11, 12, 13, 14, 15, 16, 17, 18, 19, 21, 22] [0, 1, 2, 3, 4, 5, 6, 7, 8, 9, 10, 11, 12, 13, 14, 15, 16, 17, 18, 19, 22, 20, 21] ((wX τ a rws isv rc) ++ (wT τ (fun j => a (10 + j)) nlw nkd nbt nph ncn nno nct nsc nrn nlg ndn nzz) ++ (wSS τ a sit ssr ssi) ++ [(a 70, .inr (2, [.int (shw 0), .int (shn 0), .int (shs 0), .int (shz 0)])), (a 72, .inr (2, [.int (shw 2), .int (shn 2), .int (shs 2), .int (shz 2)])), (a 73, .inr (2, [.int (shw 3), .int (shn 3), .int (shs 3), .int (shz 3)]))]) rfl (by decide) rfl (by decide) (by decide) 2 0 rfl rfl (fun u => ((wX τ a rws isv rc) ++ (wT τ (fun j => a (10 + j)) nlw nkd nbt nph ncn nno nct nsc nrn nlg ndn nzz) ++ (wSS τ a sit ssr ssi) ++ (wHH τ a (upd shw 1 u.1) shn (upd shs 1 u.2.1) (upd shz 1 u.2.2)))) (fun _ => rfl) (by decide) (fun u62 hX62 => ?_)
              obtain ⟨vw_62, vs_62, vz_62⟩ := u62
              rw [hX62] at hR; rw [pr3_mk vw_62 vs_62 vz_62] at hR
              refine j_goto C dX5_shelf_109 121 rfl ?_
              refine j_iconst (v := 1) C dX5_shelf_121 122 rfl (by decide) ?_
              exact Rt.ret (hR) rfl dX5_shelf_122
            · try rw [show (2 : Int32).toNatClampNeg = 2 from rfl] at hR
              refine j_aald (t0 := 3) (b := (a 72)) (N := 4) C dX5_shelf_87 88 rfl 3 rfl rfl (by unfold vp_in; decide) (by rfl) ?_
              refine j_aload_n C dX5_shelf_88 89 rfl rfl 0 rfl ?_
              refine j_get C dX5_shelf_89 92 rfl hiX5 0 rfl rfl 7 (by decide) rfl kX5_shelf_f35 rfl ?_
              refine j_iload_n C dX5_shelf_92 93 rfl rfl 3 rfl ?_
              refine j_aald (t0 := 2) (b := (a 66)) (N := 4) C dX5_shelf_93 94 rfl 2 rfl rfl (by unfold vp_in; decide) (by rfl) ?_
              refine j_get C dX5_shelf_94 97 rfl hiX1 17 rfl rfl 1 (by decide) rfl kX5_shelf_f196 rfl ?_
              refine j_aload_n C dX5_shelf_97 98 rfl rfl 0 rfl ?_
              refine j_get C dX5_shelf_98 101 rfl hiX5 0 rfl rfl 7 (by decide) rfl kX5_shelf_f35 rfl ?_
              refine j_iload_n C dX5_shelf_101 102 rfl rfl 3 rfl ?_
              refine j_aald (t0 := 2) (b := (a 66)) (N := 4) C dX5_shelf_102 103 rfl 2 rfl rfl (by unfold vp_in; decide) (by rfl) ?_
              refine j_get C dX5_shelf_103 106 rfl hiX1 17 rfl rfl 2 (by decide) rfl kX5_shelf_f206 rfl ?_
              refine j_cvV (na := 2) C dX5_shelf_106 109 rfl (c_X2_holdRow τ (fun j => a (72 + j)) (shw 2) (shn 2) (shs 2) (shz 2) (ssr 3) (ssi 3) ) gX5_shelf_X2_holdRow rfl rfl rfl qd_X2_holdRow rfl ⟨by decide, by decide⟩ ⟨by decide, by decide⟩ rfl (Nat.le_of_ble_eq_true rfl) [21] [0, 1, 2, 3, 4, 5, 6, 7, 8, 9, 10, 11, 12, 13, 14, 15, 16, 17, 18, 19, 20, 22] [0, 1, 2, 3, 4, 5, 6, 7, 8, 9, 10, 11, 12, 13, 14, 15, 16, 17, 18, 19, 20, 22, 21] ((wX τ a rws isv rc) ++ (wT τ (fun j => a (10 + j)) nlw nkd nbt nph ncn nno nct nsc nrn nlg ndn nzz) ++ (wSS τ a sit ssr ssi) ++ [(a 70, .inr (2, [.int (shw 0), .int (shn 0), .int (shs 0), .int (shz 0)])), (a 71, .inr (2, [.int (shw 1), .int (shn 1), .int (shs 1), .int (shz 1)])), (a 73, .inr (2, [.int (shw 3), .int (shn 3), .int (shs 3), .int (shz 3)]))]) rfl (by decide) rfl (by decide) (by decide) 2 0 rfl rfl (fun u => ((wX τ a rws isv rc) ++ (wT τ (fun j => a (10 + j)) nlw nkd nbt nph ncn nno nct nsc nrn nlg ndn nzz) ++ (wSS τ a sit ssr ssi) ++ (wHH τ a (upd shw 2 u.1) shn (upd shs 2 u.2.1) (upd shz 2 u.2.2)))) (fun _ => rfl) (by decide) (fun u63 hX63 => ?_)
              obtain ⟨vw_63, vs_63, vz_63⟩ := u63
              rw [hX63] at hR; rw [pr3_mk vw_63 vs_63 vz_63] at hR
              refine j_goto C dX5_shelf_109 121 rfl ?_
              refine j_iconst (v := 1) C dX5_shelf_121 122 rfl (by decide) ?_
              exact Rt.ret (hR) rfl dX5_shelf_122
            · try rw [show (3 : Int32).toNatClampNeg = 3 from rfl] at hR
              refine j_aald (t0 := 3) (b := (a 73)) (N := 4) C dX5_shelf_87 88 rfl 3 rfl rfl (by unfold vp_in; decide) (by rfl) ?_
              refine j_aload_n C dX5_shelf_88 89 rfl rfl 0 rfl ?_
              refine j_get C dX5_shelf_89 92 rfl hiX5 0 rfl rfl 7 (by decide) rfl kX5_shelf_f35 rfl ?_
              refine j_iload_n C dX5_shelf_92 93 rfl rfl 3 rfl ?_
              refine j_aald (t0 := 2) (b := (a 66)) (N := 4) C dX5_shelf_93 94 rfl 2 rfl rfl (by unfold vp_in; decide) (by rfl) ?_
              refine j_get C dX5_shelf_94 97 rfl hiX1 17 rfl rfl 1 (by decide) rfl kX5_shelf_f196 rfl ?_
              refine j_aload_n C dX5_shelf_97 98 rfl rfl 0 rfl ?_
              refine j_get C dX5_shelf_98 101 rfl hiX5 0 rfl rfl 7 (by decide) rfl kX5_shelf_f35 rfl ?_
              refine j_iload_n C dX5_shelf_101 102 rfl rfl 3 rfl ?_
              refine j_aald (t0 := 2) (b := (a 66)) (N := 4) C dX5_shelf_102 103 rfl 2 rfl rfl (by unfold vp_in; decide) (by rfl) ?_
              refine j_get C dX5_shelf_103 106 rfl hiX1 17 rfl rfl 2 (by decide) rfl kX5_shelf_f206 rfl ?_
              refine j_cvV (na := 2) C dX5_shelf_106 109 rfl (c_X2_holdRow τ (fun j => a (73 + j)) (shw 3) (shn 3) (shs 3) (shz 3) (ssr 3) (ssi 3) ) gX5_shelf_X2_holdRow rfl rfl rfl qd_X2_holdRow rfl ⟨by decide, by decide⟩ ⟨by decide, by decide⟩ rfl (Nat.le_of_ble_eq_true rfl) [22] [0, 1, 2, 3, 4, 5, 6, 7, 8, 9, 10, 11, 12, 13, 14, 15, 16, 17, 18, 19, 20, 21] [0, 1, 2, 3, 4, 5, 6, 7, 8, 9, 10, 11, 12, 13, 14, 15, 16, 17, 18, 19, 20, 21, 22] ((wX τ a rws isv rc) ++ (wT τ (fun j => a (10 + j)) nlw nkd nbt nph ncn nno nct nsc nrn nlg ndn nzz) ++ (wSS τ a sit ssr ssi) ++ [(a 70, .inr (2, [.int (shw 0), .int (shn 0), .int (shs 0), .int (shz 0)])), (a 71, .inr (2, [.int (shw 1), .int (shn 1), .int (shs 1), .int (shz 1)])), (a 72, .inr (2, [.int (shw 2), .int (shn 2), .int (shs 2), .int (shz 2)]))]) rfl (by decide) rfl (by decide) (by decide) 2 0 rfl rfl (fun u => ((wX τ a rws isv rc) ++ (wT τ (fun j => a (10 + j)) nlw nkd nbt nph ncn nno nct nsc nrn nlg ndn nzz) ++ (wSS τ a sit ssr ssi) ++ (wHH τ a (upd shw 3 u.1) shn (upd shs 3 u.2.1) (upd shz 3 u.2.2)))) (fun _ => rfl) (by decide) (fun u64 hX64 => ?_)
              obtain ⟨vw_64, vs_64, vz_64⟩ := u64
              rw [hX64] at hR; rw [pr3_mk vw_64 vs_64 vz_64] at hR
              refine j_goto C dX5_shelf_109 121 rfl ?_
              refine j_iconst (v := 1) C dX5_shelf_121 122 rfl (by decide) ?_
              exact Rt.ret (hR) rfl dX5_shelf_122
    · rw [if_pos c11] at hR
      refine j_aload_n C dX5_shelf_51 52 rfl rfl 0 rfl ?_
      refine j_get C dX5_shelf_52 55 rfl hiX5 0 rfl rfl 8 (by decide) rfl kX5_shelf_f41 rfl ?_
      refine j_iload_n C dX5_shelf_55 56 rfl rfl 1 rfl ?_
      rcases four_of (n := x1) hv4 with rfl | rfl | rfl | rfl
      · try rw [show (0 : Int32).toNatClampNeg = 0 from rfl] at hR
        refine j_aald (t0 := 3) (b := (a 70)) (N := 4) C dX5_shelf_56 57 rfl 3 rfl rfl (by unfold vp_in; decide) (by rfl) ?_
        refine j_iload_n C dX5_shelf_57 58 rfl rfl 3 rfl ?_
        refine j_cvV (na := 1) C dX5_shelf_58 61 rfl (c_X2_holdPerson τ (fun j => a (70 + j)) (shw 0) (shn 0) (shs 0) (shz 0) x3 ) gX5_shelf_X2_holdPerson rfl rfl rfl qd_X2_holdPerson rfl ⟨by decide, by decide⟩ ⟨by decide, by decide⟩ rfl (Nat.le_of_ble_eq_true rfl) [19] [0, 1, 2, 3, 4, 5, 6, 7, 8, 9, 10, 11, 12, 13, 14, 15, 16, 17, 18, 20, 21, 22] [0, 1, 2, 3, 4, 5, 6, 7, 8, 9, 10, 11, 12, 13, 14, 15, 16, 17, 18, 22, 19, 20, 21] ((wX τ a rws isv rc) ++ (wT τ (fun j => a (10 + j)) nlw nkd nbt nph ncn nno nct nsc nrn nlg ndn nzz) ++ (wSS τ a sit ssr ssi) ++ [(a 71, .inr (2, [.int (shw 1), .int (shn 1), .int (shs 1), .int (shz 1)])), (a 72, .inr (2, [.int (shw 2), .int (shn 2), .int (shs 2), .int (shz 2)])), (a 73, .inr (2, [.int (shw 3), .int (shn 3), .int (shs 3), .int (shz 3)]))]) rfl (by decide) rfl (by decide) (by decide) 2 0 rfl rfl (fun u => ((wX τ a rws isv rc) ++ (wT τ (fun j => a (10 + j)) nlw nkd nbt nph ncn nno nct nsc nrn nlg ndn nzz) ++ (wSS τ a sit ssr ssi) ++ (wHH τ a (upd shw 0 u.1) (upd shn 0 u.2) shs shz))) (fun _ => rfl) (by decide) (fun u13 hX13 => ?_)
        obtain ⟨vw_13, vn_13⟩ := u13
        rw [hX13] at hR; rw [pr2_mk vw_13 vn_13] at hR
        refine j_goto C dX5_shelf_61 121 rfl ?_
        refine j_iconst (v := 1) C dX5_shelf_121 122 rfl (by decide) ?_
        exact Rt.ret (hR) rfl dX5_shelf_122
      · try rw [show (1 : Int32).toNatClampNeg = 1 from rfl] at hR
        refine j_aald (t0 := 3) (b := (a 71)) (N := 4) C dX5_shelf_56 57 rfl 3 rfl rfl (by unfold vp_in; decide) (by rfl) ?_
        refine j_iload_n C dX5_shelf_57 58 rfl rfl 3 rfl ?_
        refine j_cvV (na := 1) C dX5_shelf_58 61 rfl (c_X2_holdPerson τ (fun j => a (71 + j)) (shw 1) (shn 1) (shs 1) (shz 1) x3 ) gX5_shelf_X2_holdPerson rfl rfl rfl qd_X2_holdPerson rfl ⟨by decide, by decide⟩ ⟨by decide, by decide⟩ rfl (Nat.le_of_ble_eq_true rfl) [20] [0, 1, 2, 3, 4, 5, 6, 7, 8, 9, 10, 11, 12, 13, 14, 15, 16, 17, 18, 19, 21, 22] [0, 1, 2, 3, 4, 5, 6, 7, 8, 9, 10, 11, 12, 13, 14, 15, 16, 17, 18, 19, 22, 20, 21] ((wX τ a rws isv rc) ++ (wT τ (fun j => a (10 + j)) nlw nkd nbt nph ncn nno nct nsc nrn nlg ndn nzz) ++ (wSS τ a sit ssr ssi) ++ [(a 70, .inr (2, [.int (shw 0), .int (shn 0), .int (shs 0), .int (shz 0)])), (a 72, .inr (2, [.int (shw 2), .int (shn 2), .int (shs 2), .int (shz 2)])), (a 73, .inr (2, [.int (shw 3), .int (shn 3), .int (shs 3), .int (shz 3)]))]) rfl (by decide) rfl (by decide) (by decide) 2 0 rfl rfl (fun u => ((wX τ a rws isv rc) ++ (wT τ (fun j => a (10 + j)) nlw nkd nbt nph ncn nno nct nsc nrn nlg ndn nzz) ++ (wSS τ a sit ssr ssi) ++ (wHH τ a (upd shw 1 u.1) (upd shn 1 u.2) shs shz))) (fun _ => rfl) (by decide) (fun u14 hX14 => ?_)
        obtain ⟨vw_14, vn_14⟩ := u14
        rw [hX14] at hR; rw [pr2_mk vw_14 vn_14] at hR
        refine j_goto C dX5_shelf_61 121 rfl ?_
        refine j_iconst (v := 1) C dX5_shelf_121 122 rfl (by decide) ?_
        exact Rt.ret (hR) rfl dX5_shelf_122
      · try rw [show (2 : Int32).toNatClampNeg = 2 from rfl] at hR
        refine j_aald (t0 := 3) (b := (a 72)) (N := 4) C dX5_shelf_56 57 rfl 3 rfl rfl (by unfold vp_in; decide) (by rfl) ?_
        refine j_iload_n C dX5_shelf_57 58 rfl rfl 3 rfl ?_
        refine j_cvV (na := 1) C dX5_shelf_58 61 rfl (c_X2_holdPerson τ (fun j => a (72 + j)) (shw 2) (shn 2) (shs 2) (shz 2) x3 ) gX5_shelf_X2_holdPerson rfl rfl rfl qd_X2_holdPerson rfl ⟨by decide, by decide⟩ ⟨by decide, by decide⟩ rfl (Nat.le_of_ble_eq_true rfl) [21] [0, 1, 2, 3, 4, 5, 6, 7, 8, 9, 10, 11, 12, 13, 14, 15, 16, 17, 18, 19, 20, 22] [0, 1, 2, 3, 4, 5, 6, 7, 8, 9, 10, 11, 12, 13, 14, 15, 16, 17, 18, 19, 20, 22, 21] ((wX τ a rws isv rc) ++ (wT τ (fun j => a (10 + j)) nlw nkd nbt nph ncn nno nct nsc nrn nlg ndn nzz) ++ (wSS τ a sit ssr ssi) ++ [(a 70, .inr (2, [.int (shw 0), .int (shn 0), .int (shs 0), .int (shz 0)])), (a 71, .inr (2, [.int (shw 1), .int (shn 1), .int (shs 1), .int (shz 1)])), (a 73, .inr (2, [.int (shw 3), .int (shn 3), .int (shs 3), .int (shz 3)]))]) rfl (by decide) rfl (by decide) (by decide) 2 0 rfl rfl (fun u => ((wX τ a rws isv rc) ++ (wT τ (fun j => a (10 + j)) nlw nkd nbt nph ncn nno nct nsc nrn nlg ndn nzz) ++ (wSS τ a sit ssr ssi) ++ (wHH τ a (upd shw 2 u.1) (upd shn 2 u.2) shs shz))) (fun _ => rfl) (by decide) (fun u15 hX15 => ?_)
        obtain ⟨vw_15, vn_15⟩ := u15
        rw [hX15] at hR; rw [pr2_mk vw_15 vn_15] at hR
        refine j_goto C dX5_shelf_61 121 rfl ?_
        refine j_iconst (v := 1) C dX5_shelf_121 122 rfl (by decide) ?_
        exact Rt.ret (hR) rfl dX5_shelf_122
      · try rw [show (3 : Int32).toNatClampNeg = 3 from rfl] at hR
        refine j_aald (t0 := 3) (b := (a 73)) (N := 4) C dX5_shelf_56 57 rfl 3 rfl rfl (by unfold vp_in; decide) (by rfl) ?_
        refine j_iload_n C dX5_shelf_57 58 rfl rfl 3 rfl ?_
        refine j_cvV (na := 1) C dX5_shelf_58 61 rfl (c_X2_holdPerson τ (fun j => a (73 + j)) (shw 3) (shn 3) (shs 3) (shz 3) x3 ) gX5_shelf_X2_holdPerson rfl rfl rfl qd_X2_holdPerson rfl ⟨by decide, by decide⟩ ⟨by decide, by decide⟩ rfl (Nat.le_of_ble_eq_true rfl) [22] [0, 1, 2, 3, 4, 5, 6, 7, 8, 9, 10, 11, 12, 13, 14, 15, 16, 17, 18, 19, 20, 21] [0, 1, 2, 3, 4, 5, 6, 7, 8, 9, 10, 11, 12, 13, 14, 15, 16, 17, 18, 19, 20, 21, 22] ((wX τ a rws isv rc) ++ (wT τ (fun j => a (10 + j)) nlw nkd nbt nph ncn nno nct nsc nrn nlg ndn nzz) ++ (wSS τ a sit ssr ssi) ++ [(a 70, .inr (2, [.int (shw 0), .int (shn 0), .int (shs 0), .int (shz 0)])), (a 71, .inr (2, [.int (shw 1), .int (shn 1), .int (shs 1), .int (shz 1)])), (a 72, .inr (2, [.int (shw 2), .int (shn 2), .int (shs 2), .int (shz 2)]))]) rfl (by decide) rfl (by decide) (by decide) 2 0 rfl rfl (fun u => ((wX τ a rws isv rc) ++ (wT τ (fun j => a (10 + j)) nlw nkd nbt nph ncn nno nct nsc nrn nlg ndn nzz) ++ (wSS τ a sit ssr ssi) ++ (wHH τ a (upd shw 3 u.1) (upd shn 3 u.2) shs shz))) (fun _ => rfl) (by decide) (fun u16 hX16 => ?_)
        obtain ⟨vw_16, vn_16⟩ := u16
        rw [hX16] at hR; rw [pr2_mk vw_16 vn_16] at hR
        refine j_goto C dX5_shelf_61 121 rfl ?_
        refine j_iconst (v := 1) C dX5_shelf_121 122 rfl (by decide) ?_
        exact Rt.ret (hR) rfl dX5_shelf_122
  refine j_iload_n C dX5_shelf_0 1 rfl rfl 1 rfl ?_
  refine j_cs0I (na := 1) C dX5_shelf_1 4 rfl (c_X5_isShelf τ  x1 ) rfl ggX5_shelf_X5_isShelf rfl rfl rfl kX5_shelf_iRX5 kX5_shelf_m243 kX5_shelf_sX5_isShelf qd_X5_isShelf rfl ⟨by decide, by decide⟩ ⟨by decide, by decide⟩ rfl (Nat.le_of_ble_eq_true rfl) (fun r1 u1 hX1 hn1 => ?_)
  obtain rfl := (Prod.mk.inj hX1).1
  refine j_if_eq C dX5_shelf_4 16 rfl 7 rfl (fun c2 => ?_) (fun c2 => ?_)
  · rw [if_pos c2] at hR
    refine j_iconst (v := (-1)) C dX5_shelf_16 17 rfl (by decide) ?_
    exact Rt.ret (hR) rfl dX5_shelf_17
  · rw [if_neg c2] at hR
    refine j_iload_n C dX5_shelf_7 8 rfl rfl 2 rfl ?_
    refine j_iconst (v := 0) C dX5_shelf_8 9 rfl (by decide) ?_
    refine j_iconst (v := 2) C dX5_shelf_9 10 rfl (by decide) ?_
    refine j_cs0I (na := 3) C dX5_shelf_10 13 rfl (c_X5_isIn τ  x2 (0 : Int32) (2 : Int32) ) rfl ggX5_shelf_X5_isIn rfl rfl rfl kX5_shelf_iRX5 kX5_shelf_m79 kX5_shelf_sX5_isIn qd_X5_isIn rfl ⟨by decide, by decide⟩ ⟨by decide, by decide⟩ rfl (Nat.le_of_ble_eq_true rfl) (fun r3 u3 hX3 hn3 => ?_)
    obtain rfl := (Prod.mk.inj hX3).1
    refine j_if_ne C dX5_shelf_13 18 rfl 16 rfl (fun c4 => ?_) (fun c4 => ?_)
    · rw [if_neg c4] at hR
      refine j_iload_n C dX5_shelf_18 19 rfl rfl 2 rfl ?_
      refine j_if_ne C dX5_shelf_19 33 rfl 22 rfl (fun c5 => ?_) (fun c5 => ?_)
      · rw [if_neg c5] at hR
        refine j_iload_n C dX5_shelf_33 34 rfl rfl 2 rfl ?_
        refine j_iconst (v := 1) C dX5_shelf_34 35 rfl (by decide) ?_
        refine j_icmp_ne C dX5_shelf_35 47 rfl 38 rfl (fun c70 => ?_) (fun c70 => ?_)
        · rw [if_neg c70] at hR
          exact j_lv [0, 1, 2, 3] [(0, .ref (a 0)), (1, .int x1), (2, .int x2), (3, .int x3)] rfl (K47 (in_shelf (x := x1) (by assumption)) (by first | exact fun _ => in_sheet (x := x3) (by assumption) | exact fun h => absurd h (by assumption : ¬ x2 = 1) | exact fun h => absurd ((by assumption : x2 = 0).symm.trans h) (by decide)) hR)
        · rw [if_pos c70] at hR
          refine j_iload_n C dX5_shelf_38 39 rfl rfl 3 rfl ?_
          refine j_cs0I (na := 1) C dX5_shelf_39 42 rfl (c_X5_isSheet τ  x3 ) rfl ggX5_shelf_X5_isSheet rfl rfl rfl kX5_shelf_iRX5 kX5_shelf_m193 kX5_shelf_sX5_isSheet qd_X5_isSheet rfl ⟨by decide, by decide⟩ ⟨by decide, by decide⟩ rfl (Nat.le_of_ble_eq_true rfl) (fun r71 u71 hX71 hn71 => ?_)
          obtain rfl := (Prod.mk.inj hX71).1
          refine j_if_ne C dX5_shelf_42 47 rfl 45 rfl (fun c72 => ?_) (fun c72 => ?_)
          · rw [if_neg c72] at hR
            exact j_lv [0, 1, 2, 3] [(0, .ref (a 0)), (1, .int x1), (2, .int x2), (3, .int x3)] rfl (K47 (in_shelf (x := x1) (by assumption)) (by first | exact fun _ => in_sheet (x := x3) (by assumption) | exact fun h => absurd h (by assumption : ¬ x2 = 1) | exact fun h => absurd ((by assumption : x2 = 0).symm.trans h) (by decide)) hR)
          · rw [if_pos c72] at hR
            refine j_iconst (v := (-1)) C dX5_shelf_45 46 rfl (by decide) ?_
            exact Rt.ret (hR) rfl dX5_shelf_46
      · rw [if_pos c5] at hR
        refine j_aload_n C dX5_shelf_22 23 rfl rfl 0 rfl ?_
        refine j_get C dX5_shelf_23 26 rfl hiX5 0 rfl rfl 0 (by decide) rfl kX5_shelf_f10 rfl ?_
        refine j_iload_n C dX5_shelf_26 27 rfl rfl 3 rfl ?_
        refine j_cvI (na := 1) C dX5_shelf_27 30 rfl (c_X4_has τ (fun j => a (10 + j)) nlw nkd nbt nph ncn nno nct nsc nrn nlg ndn nzz x3 ) gX5_shelf_X4_has rfl rfl rfl qd_X4_has rfl ⟨by decide, by decide⟩ ⟨by decide, by decide⟩ rfl (Nat.le_of_ble_eq_true rfl) [4, 5, 6, 7, 8, 9, 10] [0, 1, 2, 3, 11, 12, 13, 14, 15, 16, 17, 18, 19, 20, 21, 22] [0, 1, 2, 3, 16, 17, 18, 19, 20, 21, 22, 4, 5, 6, 7, 8, 9, 10, 11, 12, 13, 14, 15] ((wX τ a rws isv rc) ++ (wSS τ a sit ssr ssi) ++ (wHH τ a shw shn shs shz)) rfl (by decide) rfl (by decide) (by decide) 4 0 rfl rfl (fun u => ((wX τ a rws isv rc) ++ (wT τ (fun j => a (10 + j)) nlw nkd nbt nph ncn nno nct nsc nrn nlg ndn nzz) ++ (wSS τ a sit ssr ssi) ++ (wHH τ a shw shn shs shz))) (fun _ => rfl) (by decide) (fun r6 u6 hX6 hn6 => ?_)
        obtain rfl := (Prod.mk.inj hX6).1
        refine j_if_eq C dX5_shelf_30 45 rfl 33 rfl (fun c7 => ?_) (fun c7 => ?_)
        · rw [if_pos c7] at hR
          refine j_iconst (v := (-1)) C dX5_shelf_45 46 rfl (by decide) ?_
          exact Rt.ret (hR) rfl dX5_shelf_46
        · rw [if_neg c7] at hR
          refine j_iload_n C dX5_shelf_33 34 rfl rfl 2 rfl ?_
          refine j_iconst (v := 1) C dX5_shelf_34 35 rfl (by decide) ?_
          refine j_icmp_ne C dX5_shelf_35 47 rfl 38 rfl (fun c8 => ?_) (fun c8 => ?_)
          · rw [if_neg c8] at hR
            exact j_lv [0, 1, 2, 3] [(0, .ref (a 0)), (1, .int x1), (2, .int x2), (3, .int x3)] rfl (K47 (in_shelf (x := x1) (by assumption)) (by first | exact fun _ => in_sheet (x := x3) (by assumption) | exact fun h => absurd h (by assumption : ¬ x2 = 1) | exact fun h => absurd ((by assumption : x2 = 0).symm.trans h) (by decide)) hR)
          · rw [if_pos c8] at hR
            refine j_iload_n C dX5_shelf_38 39 rfl rfl 3 rfl ?_
            refine j_cs0I (na := 1) C dX5_shelf_39 42 rfl (c_X5_isSheet τ  x3 ) rfl ggX5_shelf_X5_isSheet rfl rfl rfl kX5_shelf_iRX5 kX5_shelf_m193 kX5_shelf_sX5_isSheet qd_X5_isSheet rfl ⟨by decide, by decide⟩ ⟨by decide, by decide⟩ rfl (Nat.le_of_ble_eq_true rfl) (fun r9 u9 hX9 hn9 => ?_)
            obtain rfl := (Prod.mk.inj hX9).1
            refine j_if_ne C dX5_shelf_42 47 rfl 45 rfl (fun c10 => ?_) (fun c10 => ?_)
            · rw [if_neg c10] at hR
              exact j_lv [0, 1, 2, 3] [(0, .ref (a 0)), (1, .int x1), (2, .int x2), (3, .int x3)] rfl (K47 (in_shelf (x := x1) (by assumption)) (by first | exact fun _ => in_sheet (x := x3) (by assumption) | exact fun h => absurd h (by assumption : ¬ x2 = 1) | exact fun h => absurd ((by assumption : x2 = 0).symm.trans h) (by decide)) hR)
            · rw [if_pos c10] at hR
              refine j_iconst (v := (-1)) C dX5_shelf_45 46 rfl (by decide) ?_
              exact Rt.ret (hR) rfl dX5_shelf_46
    · rw [if_pos c4] at hR
      refine j_iconst (v := (-1)) C dX5_shelf_16 17 rfl (by decide) ?_
      exact Rt.ret (hR) rfl dX5_shelf_17

