theorem in_isIn {x l h : Int32} (c : ¬ f_X5_isIn x l h = 0) : l.toInt ≤ x.toInt ∧ x.toInt ≤ h.toInt := by
  unfold f_X5_isIn at c
  by_cases c1 : x < l
  · rw [if_pos c1] at c; exact absurd rfl c
  · rw [if_neg c1] at c
    by_cases c2 : h < x
    · rw [if_pos c2] at c; exact absurd rfl c
    · rw [i32_lt] at c1 c2; omega
theorem i32_sub1 {i : Int32} (h : 0 ≤ i.toInt) : (i - 1).toInt = i.toInt - 1 := by
  have h0 := Int32.toInt_lt i
  rw [Int32.toInt_sub, show (1 : Int32).toInt = 1 from rfl]
  exact Int.bmod_eq_of_le (by omega) (by omega)
theorem in_has {ct x : Int32} (c : ¬ f_X4_has ct x = 0) (h0 : 0 ≤ ct.toInt) (h : ct.toInt ≤ 8) : vp_in x 8 := by
  have h1 := in_isIn (x := x) (l := 0) (h := ct - 1) c
  rw [i32_sub1 h0, show (0 : Int32).toInt = 0 from rfl] at h1
  exact vpI h1.1 (by omega)
theorem in_hasI {ct x : Int32} (c : ¬ f_X4_has ct x = 0) (h0 : 0 ≤ ct.toInt) : 0 ≤ x.toInt ∧ x.toInt < ct.toInt := by
  have h1 := in_isIn (x := x) (l := 0) (h := ct - 1) c
  rw [i32_sub1 h0, show (0 : Int32).toInt = 0 from rfl] at h1
  omega
theorem in_isIn4 {x : Int32} (c : ¬ f_X5_isIn x 0 3 = 0) : vp_in x 4 := by
  have h1 := in_isIn c
  rw [show (0 : Int32).toInt = 0 from rfl, show (3 : Int32).toInt = 3 from rfl] at h1
  exact vpI h1.1 (by omega)
theorem in_isIn60 {x : Int32} {l : Int32} (c : ¬ f_X5_isIn x l 60 = 0) : x.toInt ≤ 60 := (in_isIn c).2
theorem in_isIn30 {x : Int32} {l : Int32} (c : ¬ f_X5_isIn x l 30 = 0) : x.toInt ≤ 60 := by
  have h1 := in_isIn c
  rw [show (30 : Int32).toInt = 30 from rfl] at h1
  omega

-- X5_isKind
def f_X5_isKind (x0 : Int32) : Int32 := (f_X5_isIn x0 (0 : Int32) (5 : Int32))
theorem kX5_isKind_iRX5 : Cond.initialized yX5_isIn.cls ∈ wsX5_isKind := by decide +kernel
theorem kX5_isKind_sX5_isIn : Cond.static yX5_isIn ∈ wsX5_isKind := by decide +kernel
theorem kX5_isKind_m79 : Cond.methodLink RX5 79 yX5_isIn ∈ wsX5_isKind := by decide +kernel
theorem qd_X5_isKind : yX5_isKind.cls ≠ "java/lang/invoke/MethodHandle" ∧ yX5_isKind.cls ≠ "java/lang/invoke/VarHandle" ∧ (parseMethodDescriptor yX5_isKind.desc).map (fun d => d.parameters.length) = some 1 := by decide +kernel
abbrev rmX5_isKind : Room := { frames := 1, cells := 0, slots := 0, locals := 22 }
set_option maxHeartbeats 4000000 in
set_option maxRecDepth 100000 in
theorem c_X5_isKind (τ : SX) (x0 : Int32) (sz : Nat) : McI τ yX5_isKind wsX5_isKind rmX5_isKind .boolean [.int x0] [] (fun _ : Unit => []) (f_X5_isKind x0, ()) sz := by
  refine mc_I (cc := cX5_isKind) (own := RX5) [(0, .int x0)] rfl (by decide) rfl rfl (Nat.le_of_ble_eq_true rfl) (fun κ C hR => ?_)
  unfold f_X5_isKind at hR
  refine j_iload_n C dX5_isKind_0 1 rfl rfl 0 rfl ?_
  refine j_iconst (v := 0) C dX5_isKind_1 2 rfl (by decide) ?_
  refine j_iconst (v := 5) C dX5_isKind_2 3 rfl (by decide) ?_
  refine j_cs0I (na := 3) C dX5_isKind_3 6 rfl (c_X5_isIn τ  x0 (0 : Int32) (5 : Int32) ) rfl ggX5_isKind_X5_isIn rfl rfl rfl kX5_isKind_iRX5 kX5_isKind_m79 kX5_isKind_sX5_isIn qd_X5_isIn rfl ⟨by decide, by decide⟩ ⟨by decide, by decide⟩ rfl (Nat.le_of_ble_eq_true rfl) (fun r1 u1 hX1 hn1 => ?_)
  obtain rfl := (Prod.mk.inj hX1).1
  exact Rt.ret (hR) (by assumption) dX5_isKind_6

-- X5_isCorner
def f_X5_isCorner (x0 : Int32) : Int32 := (f_X5_isIn x0 (0 : Int32) (11 : Int32))
theorem kX5_isCorner_iRX5 : Cond.initialized yX5_isIn.cls ∈ wsX5_isCorner := by decide +kernel
theorem kX5_isCorner_sX5_isIn : Cond.static yX5_isIn ∈ wsX5_isCorner := by decide +kernel
theorem kX5_isCorner_m79 : Cond.methodLink RX5 79 yX5_isIn ∈ wsX5_isCorner := by decide +kernel
theorem qd_X5_isCorner : yX5_isCorner.cls ≠ "java/lang/invoke/MethodHandle" ∧ yX5_isCorner.cls ≠ "java/lang/invoke/VarHandle" ∧ (parseMethodDescriptor yX5_isCorner.desc).map (fun d => d.parameters.length) = some 1 := by decide +kernel
abbrev rmX5_isCorner : Room := { frames := 1, cells := 0, slots := 0, locals := 22 }
set_option maxHeartbeats 4000000 in
set_option maxRecDepth 100000 in
theorem c_X5_isCorner (τ : SX) (x0 : Int32) (sz : Nat) : McI τ yX5_isCorner wsX5_isCorner rmX5_isCorner .boolean [.int x0] [] (fun _ : Unit => []) (f_X5_isCorner x0, ()) sz := by
  refine mc_I (cc := cX5_isCorner) (own := RX5) [(0, .int x0)] rfl (by decide) rfl rfl (Nat.le_of_ble_eq_true rfl) (fun κ C hR => ?_)
  unfold f_X5_isCorner at hR
  refine j_iload_n C dX5_isCorner_0 1 rfl rfl 0 rfl ?_
  refine j_iconst (v := 0) C dX5_isCorner_1 2 rfl (by decide) ?_
  refine j_bipush (v := 11) C dX5_isCorner_2 4 rfl (by decide) ?_
  refine j_cs0I (na := 3) C dX5_isCorner_4 7 rfl (c_X5_isIn τ  x0 (0 : Int32) (11 : Int32) ) rfl ggX5_isCorner_X5_isIn rfl rfl rfl kX5_isCorner_iRX5 kX5_isCorner_m79 kX5_isCorner_sX5_isIn qd_X5_isIn rfl ⟨by decide, by decide⟩ ⟨by decide, by decide⟩ rfl (Nat.le_of_ble_eq_true rfl) (fun r1 u1 hX1 hn1 => ?_)
  obtain rfl := (Prod.mk.inj hX1).1
  exact Rt.ret (hR) (by assumption) dX5_isCorner_7

-- X5_isSheet
def f_X5_isSheet (x0 : Int32) : Int32 := (f_X5_isIn x0 (0 : Int32) (3 : Int32))
theorem kX5_isSheet_iRX5 : Cond.initialized yX5_isIn.cls ∈ wsX5_isSheet := by decide +kernel
theorem kX5_isSheet_sX5_isIn : Cond.static yX5_isIn ∈ wsX5_isSheet := by decide +kernel
theorem kX5_isSheet_m79 : Cond.methodLink RX5 79 yX5_isIn ∈ wsX5_isSheet := by decide +kernel
theorem qd_X5_isSheet : yX5_isSheet.cls ≠ "java/lang/invoke/MethodHandle" ∧ yX5_isSheet.cls ≠ "java/lang/invoke/VarHandle" ∧ (parseMethodDescriptor yX5_isSheet.desc).map (fun d => d.parameters.length) = some 1 := by decide +kernel
abbrev rmX5_isSheet : Room := { frames := 1, cells := 0, slots := 0, locals := 22 }
set_option maxHeartbeats 4000000 in
set_option maxRecDepth 100000 in
theorem c_X5_isSheet (τ : SX) (x0 : Int32) (sz : Nat) : McI τ yX5_isSheet wsX5_isSheet rmX5_isSheet .boolean [.int x0] [] (fun _ : Unit => []) (f_X5_isSheet x0, ()) sz := by
  refine mc_I (cc := cX5_isSheet) (own := RX5) [(0, .int x0)] rfl (by decide) rfl rfl (Nat.le_of_ble_eq_true rfl) (fun κ C hR => ?_)
  unfold f_X5_isSheet at hR
  refine j_iload_n C dX5_isSheet_0 1 rfl rfl 0 rfl ?_
  refine j_iconst (v := 0) C dX5_isSheet_1 2 rfl (by decide) ?_
  refine j_iconst (v := 3) C dX5_isSheet_2 3 rfl (by decide) ?_
  refine j_cs0I (na := 3) C dX5_isSheet_3 6 rfl (c_X5_isIn τ  x0 (0 : Int32) (3 : Int32) ) rfl ggX5_isSheet_X5_isIn rfl rfl rfl kX5_isSheet_iRX5 kX5_isSheet_m79 kX5_isSheet_sX5_isIn qd_X5_isIn rfl ⟨by decide, by decide⟩ ⟨by decide, by decide⟩ rfl (Nat.le_of_ble_eq_true rfl) (fun r1 u1 hX1 hn1 => ?_)
  obtain rfl := (Prod.mk.inj hX1).1
  exact Rt.ret (hR) (by assumption) dX5_isSheet_6

-- X5_isShelf
def f_X5_isShelf (x0 : Int32) : Int32 := (f_X5_isIn x0 (0 : Int32) (3 : Int32))
theorem kX5_isShelf_iRX5 : Cond.initialized yX5_isIn.cls ∈ wsX5_isShelf := by decide +kernel
theorem kX5_isShelf_sX5_isIn : Cond.static yX5_isIn ∈ wsX5_isShelf := by decide +kernel
theorem kX5_isShelf_m79 : Cond.methodLink RX5 79 yX5_isIn ∈ wsX5_isShelf := by decide +kernel
theorem qd_X5_isShelf : yX5_isShelf.cls ≠ "java/lang/invoke/MethodHandle" ∧ yX5_isShelf.cls ≠ "java/lang/invoke/VarHandle" ∧ (parseMethodDescriptor yX5_isShelf.desc).map (fun d => d.parameters.length) = some 1 := by decide +kernel
abbrev rmX5_isShelf : Room := { frames := 1, cells := 0, slots := 0, locals := 22 }
set_option maxHeartbeats 4000000 in
set_option maxRecDepth 100000 in
theorem c_X5_isShelf (τ : SX) (x0 : Int32) (sz : Nat) : McI τ yX5_isShelf wsX5_isShelf rmX5_isShelf .boolean [.int x0] [] (fun _ : Unit => []) (f_X5_isShelf x0, ()) sz := by
  refine mc_I (cc := cX5_isShelf) (own := RX5) [(0, .int x0)] rfl (by decide) rfl rfl (Nat.le_of_ble_eq_true rfl) (fun κ C hR => ?_)
  unfold f_X5_isShelf at hR
  refine j_iload_n C dX5_isShelf_0 1 rfl rfl 0 rfl ?_
  refine j_iconst (v := 0) C dX5_isShelf_1 2 rfl (by decide) ?_
  refine j_iconst (v := 3) C dX5_isShelf_2 3 rfl (by decide) ?_
  refine j_cs0I (na := 3) C dX5_isShelf_3 6 rfl (c_X5_isIn τ  x0 (0 : Int32) (3 : Int32) ) rfl ggX5_isShelf_X5_isIn rfl rfl rfl kX5_isShelf_iRX5 kX5_isShelf_m79 kX5_isShelf_sX5_isIn qd_X5_isIn rfl ⟨by decide, by decide⟩ ⟨by decide, by decide⟩ rfl (Nat.le_of_ble_eq_true rfl) (fun r1 u1 hX1 hn1 => ?_)
  obtain rfl := (Prod.mk.inj hX1).1
  exact Rt.ret (hR) (by assumption) dX5_isShelf_6

-- X5_isTrial main now
def f_X5_isTrial (nct : Int32) (x1 : Int32) (x2 : Int32) (x3 : Int32) : Int32 := if ((f_X4_has nct x1) = 0) then (0 : Int32) else (if ((f_X5_isIn x2 (1 : Int32) x3) = 0) then (0 : Int32) else (1 : Int32))
theorem kX5_isTrial_f10 : Cond.fieldLink RX5 10 "TwoMinutes" "now" "LTwoMinutes$Town;" ∈ wsX5_isTrial := by decide +kernel
theorem kX5_isTrial_iRX5 : Cond.initialized yX5_isIn.cls ∈ wsX5_isTrial := by decide +kernel
theorem kX5_isTrial_sX5_isIn : Cond.static yX5_isIn ∈ wsX5_isTrial := by decide +kernel
theorem kX5_isTrial_m79 : Cond.methodLink RX5 79 yX5_isIn ∈ wsX5_isTrial := by decide +kernel
theorem qd_X5_isTrial : yX5_isTrial.cls = RX5 ∧ yX5_isTrial.cls ≠ "java/lang/invoke/MethodHandle" ∧ yX5_isTrial.cls ≠ "java/lang/invoke/VarHandle" ∧ (parseMethodDescriptor yX5_isTrial.desc).map (fun d => d.parameters.length) = some 3 := by decide +kernel
abbrev rmX5_isTrial : Room := { frames := 2, cells := 0, slots := 0, locals := 43 }
set_option maxHeartbeats 4000000 in
set_option maxRecDepth 100000 in
theorem c_X5_isTrial (τ : SX) (a : Nat → Nat) (rws : Nat → Int32) (isv : Int32) (rc : Int32) (nlw : Nat → Int32) (nkd : Nat → Int32) (nbt : Nat → Int32) (nph : Nat → Int32) (ncn : Nat → Int32) (nno : Nat → Int32) (nct : Int32) (nsc : Int32) (nrn : Int32) (nlg : Int32) (ndn : Int32) (nzz : Int32) (x1 : Int32) (x2 : Int32) (x3 : Int32) (hrc0 : 0 ≤ rc.toInt) (hrc : rc.toInt ≤ 10) (hn0 : 0 ≤ nct.toInt) (hn : nct.toInt ≤ 8) (sz : Nat) : McI τ yX5_isTrial wsX5_isTrial rmX5_isTrial .boolean [.ref (a 0), .int x1, .int x2, .int x3] ((wX τ a rws isv rc) ++ (wT τ (fun j => a (10 + j)) nlw nkd nbt nph ncn nno nct nsc nrn nlg ndn nzz)) (fun _ : Unit => ((wX τ a rws isv rc) ++ (wT τ (fun j => a (10 + j)) nlw nkd nbt nph ncn nno nct nsc nrn nlg ndn nzz))) (f_X5_isTrial nct x1 x2 x3, ()) sz := by
  refine mc_I (cc := cX5_isTrial) (own := RX5) [(0, .ref (a 0)), (1, .int x1), (2, .int x2), (3, .int x3)] rfl (by decide) rfl rfl (Nat.le_of_ble_eq_true rfl) (fun κ C hR => ?_)
  have hiX4 : ∀ w ∈ wsX40, w ∈ wsX5_isTrial := fun w h => List.mem_cons_of_mem _ (List.mem_append_right _ h)
  have hiX5 : ∀ w ∈ wsX50, w ∈ wsX5_isTrial := fun w h => List.mem_cons_of_mem _ (List.mem_append_left _ (List.mem_append_right _ h))
  unfold f_X5_isTrial at hR
  refine j_aload_n C dX5_isTrial_0 1 rfl rfl 0 rfl ?_
  refine j_get C dX5_isTrial_1 4 rfl hiX5 0 rfl rfl 0 (by decide) rfl kX5_isTrial_f10 rfl ?_
  refine j_iload_n C dX5_isTrial_4 5 rfl rfl 1 rfl ?_
  refine j_cvI (na := 1) C dX5_isTrial_5 8 rfl (c_X4_has τ (fun j => a (10 + j)) nlw nkd nbt nph ncn nno nct nsc nrn nlg ndn nzz x1 ) gX5_isTrial_X4_has rfl rfl rfl qd_X4_has rfl ⟨by decide, by decide⟩ ⟨by decide, by decide⟩ rfl (Nat.le_of_ble_eq_true rfl) [4, 5, 6, 7, 8, 9, 10] [0, 1, 2, 3] [0, 1, 2, 3, 4, 5, 6, 7, 8, 9, 10] ((wX τ a rws isv rc)) rfl (by decide) rfl (by decide) (by decide) 4 0 rfl rfl (fun u => ((wX τ a rws isv rc) ++ (wT τ (fun j => a (10 + j)) nlw nkd nbt nph ncn nno nct nsc nrn nlg ndn nzz))) (fun _ => rfl) (by decide) (fun r1 u1 hX1 hn1 => ?_)
  obtain rfl := (Prod.mk.inj hX1).1
  refine j_if_eq C dX5_isTrial_8 24 rfl 11 rfl (fun c2 => ?_) (fun c2 => ?_)
  · rw [if_pos c2] at hR
    refine j_iconst (v := 0) C dX5_isTrial_24 25 rfl (by decide) ?_
    exact Rt.ret (hR) (show narrow .boolean (.int (0 : Int32)) = .int (0 : Int32) from rfl) dX5_isTrial_25
  · rw [if_neg c2] at hR
    refine j_iload_n C dX5_isTrial_11 12 rfl rfl 2 rfl ?_
    refine j_iconst (v := 1) C dX5_isTrial_12 13 rfl (by decide) ?_
    refine j_iload_n C dX5_isTrial_13 14 rfl rfl 3 rfl ?_
    refine j_cs0I (na := 3) C dX5_isTrial_14 17 rfl (c_X5_isIn τ  x2 (1 : Int32) x3 ) rfl ggX5_isTrial_X5_isIn rfl rfl rfl kX5_isTrial_iRX5 kX5_isTrial_m79 kX5_isTrial_sX5_isIn qd_X5_isIn rfl ⟨by decide, by decide⟩ ⟨by decide, by decide⟩ rfl (Nat.le_of_ble_eq_true rfl) (fun r3 u3 hX3 hn3 => ?_)
    obtain rfl := (Prod.mk.inj hX3).1
    refine j_if_eq C dX5_isTrial_17 24 rfl 20 rfl (fun c4 => ?_) (fun c4 => ?_)
    · rw [if_pos c4] at hR
      refine j_iconst (v := 0) C dX5_isTrial_24 25 rfl (by decide) ?_
      exact Rt.ret (hR) (show narrow .boolean (.int (0 : Int32)) = .int (0 : Int32) from rfl) dX5_isTrial_25
    · rw [if_neg c4] at hR
      refine j_iconst (v := 1) C dX5_isTrial_20 21 rfl (by decide) ?_
      refine j_goto C dX5_isTrial_21 25 rfl ?_
      exact Rt.ret (hR) (show narrow .boolean (.int (1 : Int32)) = .int (1 : Int32) from rfl) dX5_isTrial_25

theorem in_sheet {x : Int32} (c : ¬ f_X5_isSheet x = 0) : vp_in x 4 := in_isIn4 c
theorem in_shelf {x : Int32} (c : ¬ f_X5_isShelf x = 0) : vp_in x 4 := in_isIn4 c
theorem in_trialG {ct x n m : Int32} (c : ¬ f_X5_isTrial ct x n m = 0) (h0 : 0 ≤ ct.toInt) (h : ct.toInt ≤ 8) : vp_in x 8 ∧ 1 ≤ n.toInt ∧ n.toInt ≤ m.toInt := by
  unfold f_X5_isTrial at c
  by_cases c1 : f_X4_has ct x = 0
  · rw [if_pos c1] at c; exact absurd rfl c
  · rw [if_neg c1] at c
    by_cases c2 : f_X5_isIn n 1 m = 0
    · rw [if_pos c2] at c; exact absurd rfl c
    · exact ⟨in_has c1 h0 h, in_isIn c2⟩
theorem in_trial {ct x n : Int32} (c : ¬ f_X5_isTrial ct x n 60 = 0) (h0 : 0 ≤ ct.toInt) (h : ct.toInt ≤ 8) : vp_in x 8 ∧ 1 ≤ n.toInt ∧ n.toInt ≤ 60 := in_trialG c h0 h

-- X5_isCell main
def f_X5_isCell (rc : Int32) (x1 : Int32) (x2 : Int32) : Int32 := if ((f_X5_isIn x1 (0 : Int32) (rc - 1)) = 0) then (0 : Int32) else (if ((f_X5_isIn x2 (0 : Int32) (2 : Int32)) = 0) then (0 : Int32) else (1 : Int32))
theorem kX5_isCell_f73 : Cond.fieldLink RX5 73 "TwoMinutes" "rowCount" "I" ∈ wsX5_isCell := by decide +kernel
theorem kX5_isCell_iRX5 : Cond.initialized yX5_isIn.cls ∈ wsX5_isCell := by decide +kernel
theorem kX5_isCell_sX5_isIn : Cond.static yX5_isIn ∈ wsX5_isCell := by decide +kernel
theorem kX5_isCell_m79 : Cond.methodLink RX5 79 yX5_isIn ∈ wsX5_isCell := by decide +kernel
theorem qd_X5_isCell : yX5_isCell.cls = RX5 ∧ yX5_isCell.cls ≠ "java/lang/invoke/MethodHandle" ∧ yX5_isCell.cls ≠ "java/lang/invoke/VarHandle" ∧ (parseMethodDescriptor yX5_isCell.desc).map (fun d => d.parameters.length) = some 2 := by decide +kernel
abbrev rmX5_isCell : Room := { frames := 1, cells := 0, slots := 0, locals := 22 }
set_option maxHeartbeats 4000000 in
set_option maxRecDepth 100000 in
theorem c_X5_isCell (τ : SX) (a : Nat → Nat) (rws : Nat → Int32) (isv : Int32) (rc : Int32) (x1 : Int32) (x2 : Int32) (hrc0 : 0 ≤ rc.toInt) (hrc : rc.toInt ≤ 10) (sz : Nat) : McI τ yX5_isCell wsX5_isCell rmX5_isCell .boolean [.ref (a 0), .int x1, .int x2] (wX τ a rws isv rc) (fun _ : Unit => (wX τ a rws isv rc)) (f_X5_isCell rc x1 x2, ()) sz := by
  refine mc_I (cc := cX5_isCell) (own := RX5) [(0, .ref (a 0)), (1, .int x1), (2, .int x2)] rfl (by decide) rfl rfl (Nat.le_of_ble_eq_true rfl) (fun κ C hR => ?_)
  have hiX5 : ∀ w ∈ wsX50, w ∈ wsX5_isCell := fun w h => List.mem_cons_of_mem _ (List.mem_append_right _ h)
  unfold f_X5_isCell at hR
  refine j_iload_n C dX5_isCell_0 1 rfl rfl 1 rfl ?_
  refine j_iconst (v := 0) C dX5_isCell_1 2 rfl (by decide) ?_
  refine j_aload_n C dX5_isCell_2 3 rfl rfl 0 rfl ?_
  refine j_get C dX5_isCell_3 6 rfl hiX5 0 rfl rfl 6 (by decide) rfl kX5_isCell_f73 rfl ?_
  refine j_iconst (v := 1) C dX5_isCell_6 7 rfl (by decide) ?_
  refine j_isub C dX5_isCell_7 8 rfl ?_
  refine j_cs0I (na := 3) C dX5_isCell_8 11 rfl (c_X5_isIn τ  x1 (0 : Int32) (rc - 1) ) rfl ggX5_isCell_X5_isIn rfl rfl rfl kX5_isCell_iRX5 kX5_isCell_m79 kX5_isCell_sX5_isIn qd_X5_isIn rfl ⟨by decide, by decide⟩ ⟨by decide, by decide⟩ rfl (Nat.le_of_ble_eq_true rfl) (fun r1 u1 hX1 hn1 => ?_)
  obtain rfl := (Prod.mk.inj hX1).1
  refine j_if_eq C dX5_isCell_11 27 rfl 14 rfl (fun c2 => ?_) (fun c2 => ?_)
  · rw [if_pos c2] at hR
    refine j_iconst (v := 0) C dX5_isCell_27 28 rfl (by decide) ?_
    exact Rt.ret (hR) (show narrow .boolean (.int (0 : Int32)) = .int (0 : Int32) from rfl) dX5_isCell_28
  · rw [if_neg c2] at hR
    refine j_iload_n C dX5_isCell_14 15 rfl rfl 2 rfl ?_
    refine j_iconst (v := 0) C dX5_isCell_15 16 rfl (by decide) ?_
    refine j_iconst (v := 2) C dX5_isCell_16 17 rfl (by decide) ?_
    refine j_cs0I (na := 3) C dX5_isCell_17 20 rfl (c_X5_isIn τ  x2 (0 : Int32) (2 : Int32) ) rfl ggX5_isCell_X5_isIn rfl rfl rfl kX5_isCell_iRX5 kX5_isCell_m79 kX5_isCell_sX5_isIn qd_X5_isIn rfl ⟨by decide, by decide⟩ ⟨by decide, by decide⟩ rfl (Nat.le_of_ble_eq_true rfl) (fun r3 u3 hX3 hn3 => ?_)
    obtain rfl := (Prod.mk.inj hX3).1
    refine j_if_eq C dX5_isCell_20 27 rfl 23 rfl (fun c4 => ?_) (fun c4 => ?_)
    · rw [if_pos c4] at hR
      refine j_iconst (v := 0) C dX5_isCell_27 28 rfl (by decide) ?_
      exact Rt.ret (hR) (show narrow .boolean (.int (0 : Int32)) = .int (0 : Int32) from rfl) dX5_isCell_28
    · rw [if_neg c4] at hR
      refine j_iconst (v := 1) C dX5_isCell_23 24 rfl (by decide) ?_
      refine j_goto C dX5_isCell_24 28 rfl ?_
      exact Rt.ret (hR) (show narrow .boolean (.int (1 : Int32)) = .int (1 : Int32) from rfl) dX5_isCell_28

theorem in_cell {rc i w : Int32} (c : ¬ f_X5_isCell rc i w = 0) (h0 : 0 ≤ rc.toInt) (h : rc.toInt ≤ 10) : vp_in (i * 3 + w) 30 := by
  unfold f_X5_isCell at c
  by_cases c1 : f_X5_isIn i 0 (rc - 1) = 0
  · rw [if_pos c1] at c; exact absurd rfl c
  · rw [if_neg c1] at c
    by_cases c2 : f_X5_isIn w 0 2 = 0
    · rw [if_pos c2] at c; exact absurd rfl c
    · have a1 := in_isIn c1
      have a2 := in_isIn c2
      rw [i32_sub1 h0] at a1
      have e0 : (0 : Int32).toInt = 0 := rfl
      have e2 : (2 : Int32).toInt = 2 := rfl
      have e3 : (3 : Int32).toInt = 3 := rfl
      have m1 : (i * 3).toInt = i.toInt * 3 := i32_mulE (a := i) (b := 3) (by rw [e3]; omega) (by rw [e3]; omega)
      have m2 : (i * 3 + w).toInt = (i * 3).toInt + w.toInt := i32_addE (a := i * 3) (b := w) (by omega) (by omega)
      exact vpI (by omega) (by omega)

-- X5_set main now
def f_X5_set (nlw : Nat → Int32) (x1 : Int32) (x2 : Int32) : Int32 × (Nat → Int32) := if ((f_X5_isIn x1 (0 : Int32) (3 : Int32)) = 0) then (((-1) : Int32), nlw) else (if ((f_X5_isIn x2 (saG 1 (x1).toNatClampNeg) (saG 2 (x1).toNatClampNeg)) = 0) then (((-1) : Int32), nlw) else ((nlw (x1).toNatClampNeg), (upd nlw (x1).toNatClampNeg x2)))
theorem kX5_set_iRX5 : Cond.initialized yX5_isIn.cls ∈ wsX5_set := by decide +kernel
theorem kX5_set_sX5_isIn : Cond.static yX5_isIn ∈ wsX5_set := by decide +kernel
theorem kX5_set_m79 : Cond.methodLink RX5 79 yX5_isIn ∈ wsX5_set := by decide +kernel
theorem kX5_set_f83 : Cond.fieldLink RX5 83 "TwoMinutes" "LAW_LEAST" "[I" ∈ wsX5_set := by decide +kernel
theorem kX5_set_f86 : Cond.fieldLink RX5 86 "TwoMinutes" "LAW_MOST" "[I" ∈ wsX5_set := by decide +kernel
theorem kX5_set_f10 : Cond.fieldLink RX5 10 "TwoMinutes" "now" "LTwoMinutes$Town;" ∈ wsX5_set := by decide +kernel
theorem kX5_set_f89 : Cond.fieldLink RX5 89 "TwoMinutes$Town" "laws" "[I" ∈ wsX5_set := by decide +kernel
theorem qd_X5_set : yX5_set.cls = RX5 ∧ yX5_set.cls ≠ "java/lang/invoke/MethodHandle" ∧ yX5_set.cls ≠ "java/lang/invoke/VarHandle" ∧ (parseMethodDescriptor yX5_set.desc).map (fun d => d.parameters.length) = some 2 := by decide +kernel
abbrev rmX5_set : Room := { frames := 1, cells := 0, slots := 0, locals := 22 }
set_option maxHeartbeats 4000000 in
set_option maxRecDepth 100000 in
theorem c_X5_set (τ : SX) (a : Nat → Nat) (rws : Nat → Int32) (isv : Int32) (rc : Int32) (nlw : Nat → Int32) (nkd : Nat → Int32) (nbt : Nat → Int32) (nph : Nat → Int32) (ncn : Nat → Int32) (nno : Nat → Int32) (nct : Int32) (nsc : Int32) (nrn : Int32) (nlg : Int32) (ndn : Int32) (nzz : Int32) (x1 : Int32) (x2 : Int32) (hrc0 : 0 ≤ rc.toInt) (hrc : rc.toInt ≤ 10) (hn0 : 0 ≤ nct.toInt) (hn : nct.toInt ≤ 8) (sz : Nat) : McI τ yX5_set wsX5_set rmX5_set .int [.ref (a 0), .int x1, .int x2] ((wX τ a rws isv rc) ++ (wT τ (fun j => a (10 + j)) nlw nkd nbt nph ncn nno nct nsc nrn nlg ndn nzz)) (fun u : (Nat → Int32) => ((wX τ a rws isv rc) ++ (wT τ (fun j => a (10 + j)) u nkd nbt nph ncn nno nct nsc nrn nlg ndn nzz))) (f_X5_set nlw x1 x2) sz := by
  refine mc_I (cc := cX5_set) (own := RX5) [(0, .ref (a 0)), (1, .int x1), (2, .int x2)] rfl (by decide) rfl rfl (Nat.le_of_ble_eq_true rfl) (fun κ C hR => ?_)
  have hiX4 : ∀ w ∈ wsX40, w ∈ wsX5_set := fun w h => List.mem_cons_of_mem _ (List.mem_append_right _ h)
  have hiX5 : ∀ w ∈ wsX50, w ∈ wsX5_set := fun w h => List.mem_cons_of_mem _ (List.mem_append_left _ (List.mem_append_right _ h))
  unfold f_X5_set at hR
  refine j_iload_n C dX5_set_0 1 rfl rfl 1 rfl ?_
  refine j_iconst (v := 0) C dX5_set_1 2 rfl (by decide) ?_
  refine j_iconst (v := 3) C dX5_set_2 3 rfl (by decide) ?_
  refine j_cs0I (na := 3) C dX5_set_3 6 rfl (c_X5_isIn τ  x1 (0 : Int32) (3 : Int32) ) rfl ggX5_set_X5_isIn rfl rfl rfl kX5_set_iRX5 kX5_set_m79 kX5_set_sX5_isIn qd_X5_isIn rfl ⟨by decide, by decide⟩ ⟨by decide, by decide⟩ rfl (Nat.le_of_ble_eq_true rfl) (fun r1 u1 hX1 hn1 => ?_)
  obtain rfl := (Prod.mk.inj hX1).1
  refine j_if_eq C dX5_set_6 26 rfl 9 rfl (fun c2 => ?_) (fun c2 => ?_)
  · rw [if_pos c2] at hR
    refine j_iconst (v := (-1)) C dX5_set_26 27 rfl (by decide) ?_
    exact Rt.ret (hR) rfl dX5_set_27
  · rw [if_neg c2] at hR
    refine j_iload_n C dX5_set_9 10 rfl rfl 2 rfl ?_
    refine j_gets C dX5_set_10 13 rfl 1 rfl rfl rfl rfl kX5_set_f83 ?_
    refine j_iload_n C dX5_set_13 14 rfl rfl 1 rfl ?_
    refine j_sald C dX5_set_14 15 rfl 1 rfl (by first | assumption | decide | exact in_has (by assumption) hn0 hn | exact (in_trial (by assumption) hn0 hn).1 | exact (in_trial (by assumption) hn0 hn).2.2 | exact in_isIn4 (by assumption) | exact in_isIn60 (by assumption) | exact in_isIn30 (by assumption) | exact in_sheet (by assumption) | exact in_shelf (by assumption) | exact vp_in_iff.mpr ⟨by omega, by omega⟩ | exact nz_nle (by assumption) | exact nz_lt (by assumption) | omega) (x1).toNatClampNeg rfl ?_
    refine j_gets C dX5_set_15 18 rfl 2 rfl rfl rfl rfl kX5_set_f86 ?_
    refine j_iload_n C dX5_set_18 19 rfl rfl 1 rfl ?_
    refine j_sald C dX5_set_19 20 rfl 2 rfl (by first | assumption | decide | exact in_has (by assumption) hn0 hn | exact (in_trial (by assumption) hn0 hn).1 | exact (in_trial (by assumption) hn0 hn).2.2 | exact in_isIn4 (by assumption) | exact in_isIn60 (by assumption) | exact in_isIn30 (by assumption) | exact in_sheet (by assumption) | exact in_shelf (by assumption) | exact vp_in_iff.mpr ⟨by omega, by omega⟩ | exact nz_nle (by assumption) | exact nz_lt (by assumption) | omega) (x1).toNatClampNeg rfl ?_
    refine j_cs0I (na := 3) C dX5_set_20 23 rfl (c_X5_isIn τ  x2 (saG 1 (x1).toNatClampNeg) (saG 2 (x1).toNatClampNeg) ) rfl ggX5_set_X5_isIn rfl rfl rfl kX5_set_iRX5 kX5_set_m79 kX5_set_sX5_isIn qd_X5_isIn rfl ⟨by decide, by decide⟩ ⟨by decide, by decide⟩ rfl (Nat.le_of_ble_eq_true rfl) (fun r3 u3 hX3 hn3 => ?_)
    obtain rfl := (Prod.mk.inj hX3).1
    refine j_if_ne C dX5_set_23 28 rfl 26 rfl (fun c4 => ?_) (fun c4 => ?_)
    · rw [if_neg c4] at hR
      refine j_aload_n C dX5_set_28 29 rfl rfl 0 rfl ?_
      refine j_get C dX5_set_29 32 rfl hiX5 0 rfl rfl 0 (by decide) rfl kX5_set_f10 rfl ?_
      refine j_get C dX5_set_32 35 rfl hiX4 4 rfl rfl 0 (by decide) rfl kX5_set_f89 rfl ?_
      refine j_iload_n C dX5_set_35 36 rfl rfl 1 rfl ?_
      refine j_iald C dX5_set_36 37 rfl 5 rfl (by first | assumption | decide | exact in_has (by assumption) hn0 hn | exact (in_trial (by assumption) hn0 hn).1 | exact (in_trial (by assumption) hn0 hn).2.2 | exact in_isIn4 (by assumption) | exact in_isIn60 (by assumption) | exact in_isIn30 (by assumption) | exact in_sheet (by assumption) | exact in_shelf (by assumption) | exact vp_in_iff.mpr ⟨by omega, by omega⟩ | exact nz_nle (by assumption) | exact nz_lt (by assumption) | omega) (x1).toNatClampNeg rfl ?_
      refine j_istore_n C dX5_set_37 38 rfl rfl (by decide) [(3, .int (nlw (x1).toNatClampNeg)), (0, .ref (a 0)), (1, .int x1), (2, .int x2)] rfl ?_
      refine j_aload_n C dX5_set_38 39 rfl rfl 1 rfl ?_
      refine j_get C dX5_set_39 42 rfl hiX5 0 rfl rfl 0 (by decide) rfl kX5_set_f10 rfl ?_
      refine j_get C dX5_set_42 45 rfl hiX4 4 rfl rfl 0 (by decide) rfl kX5_set_f89 rfl ?_
      refine j_iload_n C dX5_set_45 46 rfl rfl 2 rfl ?_
      refine j_iload_n C dX5_set_46 47 rfl rfl 3 rfl ?_
      refine j_iast C dX5_set_47 48 rfl 5 rfl (by first | assumption | decide | exact in_has (by assumption) hn0 hn | exact (in_trial (by assumption) hn0 hn).1 | exact (in_trial (by assumption) hn0 hn).2.2 | exact in_isIn4 (by assumption) | exact in_isIn60 (by assumption) | exact in_isIn30 (by assumption) | exact in_sheet (by assumption) | exact in_shelf (by assumption) | exact vp_in_iff.mpr ⟨by omega, by omega⟩ | exact nz_nle (by assumption) | exact nz_lt (by assumption) | omega) (x1).toNatClampNeg rfl ((wX τ a rws isv rc) ++ (wT τ (fun j => a (10 + j)) (upd nlw (x1).toNatClampNeg x2) nkd nbt nph ncn nno nct nsc nrn nlg ndn nzz)) rfl ?_
      refine j_iload_n C dX5_set_48 49 rfl rfl 0 rfl ?_
      exact Rt.ret (hR) rfl dX5_set_49
    · rw [if_pos c4] at hR
      refine j_iconst (v := (-1)) C dX5_set_26 27 rfl (by decide) ?_
      exact Rt.ret (hR) rfl dX5_set_27

-- X5_lawOf main now
def f_X5_lawOf (nlw : Nat → Int32) (x1 : Int32) : Int32 := if ((f_X5_isIn x1 (0 : Int32) (3 : Int32)) = 0) then ((-1) : Int32) else (nlw (x1).toNatClampNeg)
theorem kX5_lawOf_iRX5 : Cond.initialized yX5_isIn.cls ∈ wsX5_lawOf := by decide +kernel
theorem kX5_lawOf_sX5_isIn : Cond.static yX5_isIn ∈ wsX5_lawOf := by decide +kernel
theorem kX5_lawOf_m79 : Cond.methodLink RX5 79 yX5_isIn ∈ wsX5_lawOf := by decide +kernel
theorem kX5_lawOf_f10 : Cond.fieldLink RX5 10 "TwoMinutes" "now" "LTwoMinutes$Town;" ∈ wsX5_lawOf := by decide +kernel
theorem kX5_lawOf_f89 : Cond.fieldLink RX5 89 "TwoMinutes$Town" "laws" "[I" ∈ wsX5_lawOf := by decide +kernel
theorem qd_X5_lawOf : yX5_lawOf.cls = RX5 ∧ yX5_lawOf.cls ≠ "java/lang/invoke/MethodHandle" ∧ yX5_lawOf.cls ≠ "java/lang/invoke/VarHandle" ∧ (parseMethodDescriptor yX5_lawOf.desc).map (fun d => d.parameters.length) = some 1 := by decide +kernel
abbrev rmX5_lawOf : Room := { frames := 1, cells := 0, slots := 0, locals := 22 }
set_option maxHeartbeats 4000000 in
set_option maxRecDepth 100000 in
theorem c_X5_lawOf (τ : SX) (a : Nat → Nat) (rws : Nat → Int32) (isv : Int32) (rc : Int32) (nlw : Nat → Int32) (nkd : Nat → Int32) (nbt : Nat → Int32) (nph : Nat → Int32) (ncn : Nat → Int32) (nno : Nat → Int32) (nct : Int32) (nsc : Int32) (nrn : Int32) (nlg : Int32) (ndn : Int32) (nzz : Int32) (x1 : Int32) (hrc0 : 0 ≤ rc.toInt) (hrc : rc.toInt ≤ 10) (hn0 : 0 ≤ nct.toInt) (hn : nct.toInt ≤ 8) (sz : Nat) : McI τ yX5_lawOf wsX5_lawOf rmX5_lawOf .int [.ref (a 0), .int x1] ((wX τ a rws isv rc) ++ (wT τ (fun j => a (10 + j)) nlw nkd nbt nph ncn nno nct nsc nrn nlg ndn nzz)) (fun _ : Unit => ((wX τ a rws isv rc) ++ (wT τ (fun j => a (10 + j)) nlw nkd nbt nph ncn nno nct nsc nrn nlg ndn nzz))) (f_X5_lawOf nlw x1, ()) sz := by
  refine mc_I (cc := cX5_lawOf) (own := RX5) [(0, .ref (a 0)), (1, .int x1)] rfl (by decide) rfl rfl (Nat.le_of_ble_eq_true rfl) (fun κ C hR => ?_)
  have hiX4 : ∀ w ∈ wsX40, w ∈ wsX5_lawOf := fun w h => List.mem_cons_of_mem _ (List.mem_append_right _ h)
  have hiX5 : ∀ w ∈ wsX50, w ∈ wsX5_lawOf := fun w h => List.mem_cons_of_mem _ (List.mem_append_left _ (List.mem_append_right _ h))
  unfold f_X5_lawOf at hR
  refine j_iload_n C dX5_lawOf_0 1 rfl rfl 1 rfl ?_
  refine j_iconst (v := 0) C dX5_lawOf_1 2 rfl (by decide) ?_
  refine j_iconst (v := 3) C dX5_lawOf_2 3 rfl (by decide) ?_
  refine j_cs0I (na := 3) C dX5_lawOf_3 6 rfl (c_X5_isIn τ  x1 (0 : Int32) (3 : Int32) ) rfl ggX5_lawOf_X5_isIn rfl rfl rfl kX5_lawOf_iRX5 kX5_lawOf_m79 kX5_lawOf_sX5_isIn qd_X5_isIn rfl ⟨by decide, by decide⟩ ⟨by decide, by decide⟩ rfl (Nat.le_of_ble_eq_true rfl) (fun r1 u1 hX1 hn1 => ?_)
  obtain rfl := (Prod.mk.inj hX1).1
  refine j_if_eq C dX5_lawOf_6 21 rfl 9 rfl (fun c2 => ?_) (fun c2 => ?_)
  · rw [if_pos c2] at hR
    refine j_iconst (v := (-1)) C dX5_lawOf_21 22 rfl (by decide) ?_
    exact Rt.ret (hR) rfl dX5_lawOf_22
  · rw [if_neg c2] at hR
    refine j_aload_n C dX5_lawOf_9 10 rfl rfl 0 rfl ?_
    refine j_get C dX5_lawOf_10 13 rfl hiX5 0 rfl rfl 0 (by decide) rfl kX5_lawOf_f10 rfl ?_
    refine j_get C dX5_lawOf_13 16 rfl hiX4 4 rfl rfl 0 (by decide) rfl kX5_lawOf_f89 rfl ?_
    refine j_iload_n C dX5_lawOf_16 17 rfl rfl 1 rfl ?_
    refine j_iald C dX5_lawOf_17 18 rfl 5 rfl (by first | assumption | decide | exact in_has (by assumption) hn0 hn | exact (in_trial (by assumption) hn0 hn).1 | exact (in_trial (by assumption) hn0 hn).2.2 | exact in_isIn4 (by assumption) | exact in_isIn60 (by assumption) | exact in_isIn30 (by assumption) | exact in_sheet (by assumption) | exact in_shelf (by assumption) | exact vp_in_iff.mpr ⟨by omega, by omega⟩ | exact nz_nle (by assumption) | exact nz_lt (by assumption) | omega) (x1).toNatClampNeg rfl ?_
    refine j_goto C dX5_lawOf_18 22 rfl ?_
    exact Rt.ret (hR) rfl dX5_lawOf_22

-- X5_person main now
def f_X5_person (nkd : Nat → Int32) (nbt : Nat → Int32) (nph : Nat → Int32) (ncn : Nat → Int32) (nno : Nat → Int32) (nct : Int32) (x1 : Int32) (x2 : Int32) (x3 : Int32) (x4 : Int32) : Int32 × (Nat → Int32) × (Nat → Int32) × (Nat → Int32) × (Nat → Int32) × (Nat → Int32) × Int32 := if ((f_X5_isKind x1) = 0) then (((-1) : Int32), nkd, nbt, nph, ncn, nno, nct) else (if ((f_X5_isIn x2 (1 : Int32) (9 : Int32)) = 0) then (((-1) : Int32), nkd, nbt, nph, ncn, nno, nct) else (if ((f_X5_isIn x3 (0 : Int32) (8 : Int32)) = 0) then (((-1) : Int32), nkd, nbt, nph, ncn, nno, nct) else (if ((f_X5_isCorner x4) = 0) then (((-1) : Int32), nkd, nbt, nph, ncn, nno, nct) else (if (nct < 8) then (pr6 (f_X4_add nkd nbt nph ncn nno nct x1 x2 x3 x4) (fun nkd_10 nbt_10 nph_10 ncn_10 nno_10 nct_10 => ((nct_10 - 1), nkd_10, nbt_10, nph_10, ncn_10, nno_10, nct_10))) else (((-2) : Int32), nkd, nbt, nph, ncn, nno, nct)))))
theorem kX5_person_iRX5 : Cond.initialized yX5_isCorner.cls ∈ wsX5_person := by decide +kernel
theorem kX5_person_sX5_isKind : Cond.static yX5_isKind ∈ wsX5_person := by decide +kernel
theorem kX5_person_m92 : Cond.methodLink RX5 92 yX5_isKind ∈ wsX5_person := by decide +kernel
theorem kX5_person_sX5_isIn : Cond.static yX5_isIn ∈ wsX5_person := by decide +kernel
theorem kX5_person_m79 : Cond.methodLink RX5 79 yX5_isIn ∈ wsX5_person := by decide +kernel
theorem kX5_person_sX5_isCorner : Cond.static yX5_isCorner ∈ wsX5_person := by decide +kernel
theorem kX5_person_m96 : Cond.methodLink RX5 96 yX5_isCorner ∈ wsX5_person := by decide +kernel
theorem kX5_person_f10 : Cond.fieldLink RX5 10 "TwoMinutes" "now" "LTwoMinutes$Town;" ∈ wsX5_person := by decide +kernel
theorem kX5_person_f76 : Cond.fieldLink RX5 76 "TwoMinutes$Town" "count" "I" ∈ wsX5_person := by decide +kernel
theorem qd_X5_person : yX5_person.cls = RX5 ∧ yX5_person.cls ≠ "java/lang/invoke/MethodHandle" ∧ yX5_person.cls ≠ "java/lang/invoke/VarHandle" ∧ (parseMethodDescriptor yX5_person.desc).map (fun d => d.parameters.length) = some 4 := by decide +kernel
abbrev rmX5_person : Room := { frames := 2, cells := 0, slots := 0, locals := 42 }
set_option maxHeartbeats 4000000 in
set_option maxRecDepth 100000 in
theorem c_X5_person (τ : SX) (a : Nat → Nat) (rws : Nat → Int32) (isv : Int32) (rc : Int32) (nlw : Nat → Int32) (nkd : Nat → Int32) (nbt : Nat → Int32) (nph : Nat → Int32) (ncn : Nat → Int32) (nno : Nat → Int32) (nct : Int32) (nsc : Int32) (nrn : Int32) (nlg : Int32) (ndn : Int32) (nzz : Int32) (x1 : Int32) (x2 : Int32) (x3 : Int32) (x4 : Int32) (hrc0 : 0 ≤ rc.toInt) (hrc : rc.toInt ≤ 10) (hn0 : 0 ≤ nct.toInt) (hn : nct.toInt ≤ 8) (sz : Nat) : McI τ yX5_person wsX5_person rmX5_person .int [.ref (a 0), .int x1, .int x2, .int x3, .int x4] ((wX τ a rws isv rc) ++ (wT τ (fun j => a (10 + j)) nlw nkd nbt nph ncn nno nct nsc nrn nlg ndn nzz)) (fun u : (Nat → Int32) × (Nat → Int32) × (Nat → Int32) × (Nat → Int32) × (Nat → Int32) × Int32 => ((wX τ a rws isv rc) ++ (wT τ (fun j => a (10 + j)) nlw u.1 u.2.1 u.2.2.1 u.2.2.2.1 u.2.2.2.2.1 u.2.2.2.2.2 nsc nrn nlg ndn nzz))) (f_X5_person nkd nbt nph ncn nno nct x1 x2 x3 x4) sz := by
  refine mc_I (cc := cX5_person) (own := RX5) [(0, .ref (a 0)), (1, .int x1), (2, .int x2), (3, .int x3), (4, .int x4)] rfl (by decide) rfl rfl (Nat.le_of_ble_eq_true rfl) (fun κ C hR => ?_)
  have hiX4 : ∀ w ∈ wsX40, w ∈ wsX5_person := fun w h => List.mem_cons_of_mem _ (List.mem_append_right _ h)
  have hiX5 : ∀ w ∈ wsX50, w ∈ wsX5_person := fun w h => List.mem_cons_of_mem _ (List.mem_append_left _ (List.mem_append_right _ h))
  unfold f_X5_person at hR
  refine j_iload_n C dX5_person_0 1 rfl rfl 1 rfl ?_
  refine j_cs0I (na := 1) C dX5_person_1 4 rfl (c_X5_isKind τ  x1 ) rfl ggX5_person_X5_isKind rfl rfl rfl kX5_person_iRX5 kX5_person_m92 kX5_person_sX5_isKind qd_X5_isKind rfl ⟨by decide, by decide⟩ ⟨by decide, by decide⟩ rfl (Nat.le_of_ble_eq_true rfl) (fun r1 u1 hX1 hn1 => ?_)
  obtain rfl := (Prod.mk.inj hX1).1
  refine j_if_eq C dX5_person_4 35 rfl 7 rfl (fun c2 => ?_) (fun c2 => ?_)
  · rw [if_pos c2] at hR
    refine j_iconst (v := (-1)) C dX5_person_35 36 rfl (by decide) ?_
    exact Rt.ret (hR) rfl dX5_person_36
  · rw [if_neg c2] at hR
    refine j_iload_n C dX5_person_7 8 rfl rfl 2 rfl ?_
    refine j_iconst (v := 1) C dX5_person_8 9 rfl (by decide) ?_
    refine j_bipush (v := 9) C dX5_person_9 11 rfl (by decide) ?_
    refine j_cs0I (na := 3) C dX5_person_11 14 rfl (c_X5_isIn τ  x2 (1 : Int32) (9 : Int32) ) rfl ggX5_person_X5_isIn rfl rfl rfl kX5_person_iRX5 kX5_person_m79 kX5_person_sX5_isIn qd_X5_isIn rfl ⟨by decide, by decide⟩ ⟨by decide, by decide⟩ rfl (Nat.le_of_ble_eq_true rfl) (fun r3 u3 hX3 hn3 => ?_)
    obtain rfl := (Prod.mk.inj hX3).1
    refine j_if_eq C dX5_person_14 35 rfl 17 rfl (fun c4 => ?_) (fun c4 => ?_)
    · rw [if_pos c4] at hR
      refine j_iconst (v := (-1)) C dX5_person_35 36 rfl (by decide) ?_
      exact Rt.ret (hR) rfl dX5_person_36
    · rw [if_neg c4] at hR
      refine j_iload_n C dX5_person_17 18 rfl rfl 3 rfl ?_
      refine j_iconst (v := 0) C dX5_person_18 19 rfl (by decide) ?_
      refine j_bipush (v := 8) C dX5_person_19 21 rfl (by decide) ?_
      refine j_cs0I (na := 3) C dX5_person_21 24 rfl (c_X5_isIn τ  x3 (0 : Int32) (8 : Int32) ) rfl ggX5_person_X5_isIn rfl rfl rfl kX5_person_iRX5 kX5_person_m79 kX5_person_sX5_isIn qd_X5_isIn rfl ⟨by decide, by decide⟩ ⟨by decide, by decide⟩ rfl (Nat.le_of_ble_eq_true rfl) (fun r5 u5 hX5 hn5 => ?_)
      obtain rfl := (Prod.mk.inj hX5).1
      refine j_if_eq C dX5_person_24 35 rfl 27 rfl (fun c6 => ?_) (fun c6 => ?_)
      · rw [if_pos c6] at hR
        refine j_iconst (v := (-1)) C dX5_person_35 36 rfl (by decide) ?_
        exact Rt.ret (hR) rfl dX5_person_36
      · rw [if_neg c6] at hR
        refine j_iload C dX5_person_27 29 rfl 4 rfl ?_
        refine j_cs0I (na := 1) C dX5_person_29 32 rfl (c_X5_isCorner τ  x4 ) rfl ggX5_person_X5_isCorner rfl rfl rfl kX5_person_iRX5 kX5_person_m96 kX5_person_sX5_isCorner qd_X5_isCorner rfl ⟨by decide, by decide⟩ ⟨by decide, by decide⟩ rfl (Nat.le_of_ble_eq_true rfl) (fun r7 u7 hX7 hn7 => ?_)
        obtain rfl := (Prod.mk.inj hX7).1
        refine j_if_ne C dX5_person_32 37 rfl 35 rfl (fun c8 => ?_) (fun c8 => ?_)
        · rw [if_neg c8] at hR
          refine j_aload_n C dX5_person_37 38 rfl rfl 0 rfl ?_
          refine j_get C dX5_person_38 41 rfl hiX5 0 rfl rfl 0 (by decide) rfl kX5_person_f10 rfl ?_
          refine j_get C dX5_person_41 44 rfl hiX4 4 rfl rfl 6 (by decide) rfl kX5_person_f76 rfl ?_
          refine j_bipush (v := 8) C dX5_person_44 46 rfl (by decide) ?_
          refine j_icmp_lt C dX5_person_46 52 rfl 49 rfl (fun c9 => ?_) (fun c9 => ?_)
          · rw [if_pos c9] at hR
            refine j_aload_n C dX5_person_52 53 rfl rfl 0 rfl ?_
            refine j_get C dX5_person_53 56 rfl hiX5 0 rfl rfl 0 (by decide) rfl kX5_person_f10 rfl ?_
            refine j_iload_n C dX5_person_56 57 rfl rfl 1 rfl ?_
            refine j_iload_n C dX5_person_57 58 rfl rfl 2 rfl ?_
            refine j_iload_n C dX5_person_58 59 rfl rfl 3 rfl ?_
            refine j_iload C dX5_person_59 61 rfl 4 rfl ?_
            refine j_cvV (na := 4) C dX5_person_61 64 rfl (c_X4_add τ (fun j => a (10 + j)) nlw nkd nbt nph ncn nno nct nsc nrn nlg ndn nzz x1 x2 x3 x4 (by first | assumption | decide | exact in_has (by assumption) hn0 hn | exact (in_trial (by assumption) hn0 hn).1 | exact (in_trial (by assumption) hn0 hn).2.2 | exact in_isIn4 (by assumption) | exact in_isIn60 (by assumption) | exact in_isIn30 (by assumption) | exact in_sheet (by assumption) | exact in_shelf (by assumption) | exact vp_in_iff.mpr ⟨by omega, by omega⟩ | exact nz_nle (by assumption) | exact nz_lt (by assumption) | omega)) gX5_person_X4_add rfl rfl rfl qd_X4_add rfl ⟨by decide, by decide⟩ ⟨by decide, by decide⟩ rfl (Nat.le_of_ble_eq_true rfl) [4, 5, 6, 7, 8, 9, 10] [0, 1, 2, 3] [0, 1, 2, 3, 4, 5, 6, 7, 8, 9, 10] ((wX τ a rws isv rc)) rfl (by decide) rfl (by decide) (by decide) 4 0 rfl rfl (fun u => ((wX τ a rws isv rc) ++ (wT τ (fun j => a (10 + j)) nlw u.1 u.2.1 u.2.2.1 u.2.2.2.1 u.2.2.2.2.1 u.2.2.2.2.2 nsc nrn nlg ndn nzz))) (fun _ => rfl) (by decide) (fun u10 hX10 => ?_)
            obtain ⟨nkd_10, nbt_10, nph_10, ncn_10, nno_10, nct_10⟩ := u10
            rw [hX10] at hR; rw [pr6_mk nkd_10 nbt_10 nph_10 ncn_10 nno_10 nct_10] at hR
            refine j_aload_n C dX5_person_64 65 rfl rfl 0 rfl ?_
            refine j_get C dX5_person_65 68 rfl hiX5 0 rfl rfl 0 (by decide) rfl kX5_person_f10 rfl ?_
            refine j_get C dX5_person_68 71 rfl hiX4 4 rfl rfl 6 (by decide) rfl kX5_person_f76 rfl ?_
            refine j_iconst (v := 1) C dX5_person_71 72 rfl (by decide) ?_
            refine j_isub C dX5_person_72 73 rfl ?_
            exact Rt.ret (hR) rfl dX5_person_73
          · rw [if_neg c9] at hR
            refine j_bipush (v := (-2)) C dX5_person_49 51 rfl (by decide) ?_
            exact Rt.ret (hR) rfl dX5_person_51
        · rw [if_pos c8] at hR
          refine j_iconst (v := (-1)) C dX5_person_35 36 rfl (by decide) ?_
          exact Rt.ret (hR) rfl dX5_person_36

-- X5_of main now
def f_X5_of (nlw : Nat → Int32) (nkd : Nat → Int32) (nbt : Nat → Int32) (nph : Nat → Int32) (ncn : Nat → Int32) (nno : Nat → Int32) (nct : Int32) (nsc : Int32) (nrn : Int32) (x1 : Int32) (x2 : Int32) : Int32 := if ((f_X4_has nct x1) = 0) then ((-1) : Int32) else (if x2 = 0 then (nkd (x1).toNatClampNeg) else (if x2 = 1 then (nbt (x1).toNatClampNeg) else (if x2 = 2 then (nph (x1).toNatClampNeg) else (if x2 = 3 then (ncn (x1).toNatClampNeg) else (if x2 = 4 then (nno (x1).toNatClampNeg) else (if x2 = 5 then (if ((f_X4_isSounding nlw nkd nbt nph nsc nrn x1) = 0) then (0 : Int32) else (1 : Int32)) else (if x2 = 6 then (f_X4_reachOf nlw nkd nph x1) else ((-1) : Int32))))))))
theorem kX5_of_f10 : Cond.fieldLink RX5 10 "TwoMinutes" "now" "LTwoMinutes$Town;" ∈ wsX5_of := by decide +kernel
theorem kX5_of_f106 : Cond.fieldLink RX5 106 "TwoMinutes$Town" "kinds" "[I" ∈ wsX5_of := by decide +kernel
theorem kX5_of_f109 : Cond.fieldLink RX5 109 "TwoMinutes$Town" "beats" "[I" ∈ wsX5_of := by decide +kernel
theorem kX5_of_f112 : Cond.fieldLink RX5 112 "TwoMinutes$Town" "phases" "[I" ∈ wsX5_of := by decide +kernel
theorem kX5_of_f115 : Cond.fieldLink RX5 115 "TwoMinutes$Town" "corners" "[I" ∈ wsX5_of := by decide +kernel
theorem kX5_of_f118 : Cond.fieldLink RX5 118 "TwoMinutes$Town" "noises" "[I" ∈ wsX5_of := by decide +kernel
theorem qd_X5_of : yX5_of.cls = RX5 ∧ yX5_of.cls ≠ "java/lang/invoke/MethodHandle" ∧ yX5_of.cls ≠ "java/lang/invoke/VarHandle" ∧ (parseMethodDescriptor yX5_of.desc).map (fun d => d.parameters.length) = some 2 := by decide +kernel
abbrev rmX5_of : Room := { frames := 3, cells := 0, slots := 0, locals := 64 }
set_option maxHeartbeats 4000000 in
set_option maxRecDepth 100000 in
theorem c_X5_of (τ : SX) (a : Nat → Nat) (rws : Nat → Int32) (isv : Int32) (rc : Int32) (nlw : Nat → Int32) (nkd : Nat → Int32) (nbt : Nat → Int32) (nph : Nat → Int32) (ncn : Nat → Int32) (nno : Nat → Int32) (nct : Int32) (nsc : Int32) (nrn : Int32) (nlg : Int32) (ndn : Int32) (nzz : Int32) (x1 : Int32) (x2 : Int32) (hrc0 : 0 ≤ rc.toInt) (hrc : rc.toInt ≤ 10) (hn0 : 0 ≤ nct.toInt) (hn : nct.toInt ≤ 8) (sz : Nat) : McI τ yX5_of wsX5_of rmX5_of .int [.ref (a 0), .int x1, .int x2] ((wX τ a rws isv rc) ++ (wT τ (fun j => a (10 + j)) nlw nkd nbt nph ncn nno nct nsc nrn nlg ndn nzz)) (fun _ : Unit => ((wX τ a rws isv rc) ++ (wT τ (fun j => a (10 + j)) nlw nkd nbt nph ncn nno nct nsc nrn nlg ndn nzz))) (f_X5_of nlw nkd nbt nph ncn nno nct nsc nrn x1 x2, ()) sz := by
  refine mc_I (cc := cX5_of) (own := RX5) [(0, .ref (a 0)), (1, .int x1), (2, .int x2)] rfl (by decide) rfl rfl (Nat.le_of_ble_eq_true rfl) (fun κ C hR => ?_)
  have hiX4 : ∀ w ∈ wsX40, w ∈ wsX5_of := fun w h => List.mem_cons_of_mem _ (List.mem_append_right _ h)
  have hiX5 : ∀ w ∈ wsX50, w ∈ wsX5_of := fun w h => List.mem_cons_of_mem _ (List.mem_append_left _ (List.mem_append_right _ h))
  unfold f_X5_of at hR
  refine j_aload_n C dX5_of_0 1 rfl rfl 0 rfl ?_
  refine j_get C dX5_of_1 4 rfl hiX5 0 rfl rfl 0 (by decide) rfl kX5_of_f10 rfl ?_
  refine j_iload_n C dX5_of_4 5 rfl rfl 1 rfl ?_
  refine j_cvI (na := 1) C dX5_of_5 8 rfl (c_X4_has τ (fun j => a (10 + j)) nlw nkd nbt nph ncn nno nct nsc nrn nlg ndn nzz x1 ) gX5_of_X4_has rfl rfl rfl qd_X4_has rfl ⟨by decide, by decide⟩ ⟨by decide, by decide⟩ rfl (Nat.le_of_ble_eq_true rfl) [4, 5, 6, 7, 8, 9, 10] [0, 1, 2, 3] [0, 1, 2, 3, 4, 5, 6, 7, 8, 9, 10] ((wX τ a rws isv rc)) rfl (by decide) rfl (by decide) (by decide) 4 0 rfl rfl (fun u => ((wX τ a rws isv rc) ++ (wT τ (fun j => a (10 + j)) nlw nkd nbt nph ncn nno nct nsc nrn nlg ndn nzz))) (fun _ => rfl) (by decide) (fun r1 u1 hX1 hn1 => ?_)
  obtain rfl := (Prod.mk.inj hX1).1
  refine j_if_ne C dX5_of_8 13 rfl 11 rfl (fun c2 => ?_) (fun c2 => ?_)
  · rw [if_neg c2] at hR
    refine j_iload_n C dX5_of_13 14 rfl rfl 2 rfl ?_
    by_cases c3 : x2 = 0
    · rw [if_pos c3] at hR
      refine j_tabIn C dX5_of_14 (by rw [c3]; decide) (by rw [c3]; decide) (by rw [c3]; rfl) 56 rfl ?_
      refine j_aload_n C dX5_of_56 57 rfl rfl 0 rfl ?_
      refine j_get C dX5_of_57 60 rfl hiX5 0 rfl rfl 0 (by decide) rfl kX5_of_f10 rfl ?_
      refine j_get C dX5_of_60 63 rfl hiX4 4 rfl rfl 1 (by decide) rfl kX5_of_f106 rfl ?_
      refine j_iload_n C dX5_of_63 64 rfl rfl 1 rfl ?_
      refine j_iald C dX5_of_64 65 rfl 6 rfl (by first | assumption | decide | exact in_has (by assumption) hn0 hn | exact (in_trial (by assumption) hn0 hn).1 | exact (in_trial (by assumption) hn0 hn).2.2 | exact in_isIn4 (by assumption) | exact in_isIn60 (by assumption) | exact in_isIn30 (by assumption) | exact in_sheet (by assumption) | exact in_shelf (by assumption) | exact vp_in_iff.mpr ⟨by omega, by omega⟩ | exact nz_nle (by assumption) | exact nz_lt (by assumption) | omega) (x1).toNatClampNeg rfl ?_
      exact Rt.ret (hR) rfl dX5_of_65
    rw [if_neg c3] at hR
    by_cases c4 : x2 = 1
    · rw [if_pos c4] at hR
      refine j_tabIn C dX5_of_14 (by rw [c4]; decide) (by rw [c4]; decide) (by rw [c4]; rfl) 66 rfl ?_
      refine j_aload_n C dX5_of_66 67 rfl rfl 0 rfl ?_
      refine j_get C dX5_of_67 70 rfl hiX5 0 rfl rfl 0 (by decide) rfl kX5_of_f10 rfl ?_
      refine j_get C dX5_of_70 73 rfl hiX4 4 rfl rfl 2 (by decide) rfl kX5_of_f109 rfl ?_
      refine j_iload_n C dX5_of_73 74 rfl rfl 1 rfl ?_
      refine j_iald C dX5_of_74 75 rfl 7 rfl (by first | assumption | decide | exact in_has (by assumption) hn0 hn | exact (in_trial (by assumption) hn0 hn).1 | exact (in_trial (by assumption) hn0 hn).2.2 | exact in_isIn4 (by assumption) | exact in_isIn60 (by assumption) | exact in_isIn30 (by assumption) | exact in_sheet (by assumption) | exact in_shelf (by assumption) | exact vp_in_iff.mpr ⟨by omega, by omega⟩ | exact nz_nle (by assumption) | exact nz_lt (by assumption) | omega) (x1).toNatClampNeg rfl ?_
      exact Rt.ret (hR) rfl dX5_of_75
    rw [if_neg c4] at hR
    by_cases c5 : x2 = 2
    · rw [if_pos c5] at hR
      refine j_tabIn C dX5_of_14 (by rw [c5]; decide) (by rw [c5]; decide) (by rw [c5]; rfl) 76 rfl ?_
      refine j_aload_n C dX5_of_76 77 rfl rfl 0 rfl ?_
      refine j_get C dX5_of_77 80 rfl hiX5 0 rfl rfl 0 (by decide) rfl kX5_of_f10 rfl ?_
      refine j_get C dX5_of_80 83 rfl hiX4 4 rfl rfl 3 (by decide) rfl kX5_of_f112 rfl ?_
      refine j_iload_n C dX5_of_83 84 rfl rfl 1 rfl ?_
      refine j_iald C dX5_of_84 85 rfl 8 rfl (by first | assumption | decide | exact in_has (by assumption) hn0 hn | exact (in_trial (by assumption) hn0 hn).1 | exact (in_trial (by assumption) hn0 hn).2.2 | exact in_isIn4 (by assumption) | exact in_isIn60 (by assumption) | exact in_isIn30 (by assumption) | exact in_sheet (by assumption) | exact in_shelf (by assumption) | exact vp_in_iff.mpr ⟨by omega, by omega⟩ | exact nz_nle (by assumption) | exact nz_lt (by assumption) | omega) (x1).toNatClampNeg rfl ?_
      exact Rt.ret (hR) rfl dX5_of_85
    rw [if_neg c5] at hR
    by_cases c6 : x2 = 3
    · rw [if_pos c6] at hR
      refine j_tabIn C dX5_of_14 (by rw [c6]; decide) (by rw [c6]; decide) (by rw [c6]; rfl) 86 rfl ?_
      refine j_aload_n C dX5_of_86 87 rfl rfl 0 rfl ?_
      refine j_get C dX5_of_87 90 rfl hiX5 0 rfl rfl 0 (by decide) rfl kX5_of_f10 rfl ?_
      refine j_get C dX5_of_90 93 rfl hiX4 4 rfl rfl 4 (by decide) rfl kX5_of_f115 rfl ?_
      refine j_iload_n C dX5_of_93 94 rfl rfl 1 rfl ?_
      refine j_iald C dX5_of_94 95 rfl 9 rfl (by first | assumption | decide | exact in_has (by assumption) hn0 hn | exact (in_trial (by assumption) hn0 hn).1 | exact (in_trial (by assumption) hn0 hn).2.2 | exact in_isIn4 (by assumption) | exact in_isIn60 (by assumption) | exact in_isIn30 (by assumption) | exact in_sheet (by assumption) | exact in_shelf (by assumption) | exact vp_in_iff.mpr ⟨by omega, by omega⟩ | exact nz_nle (by assumption) | exact nz_lt (by assumption) | omega) (x1).toNatClampNeg rfl ?_
      exact Rt.ret (hR) rfl dX5_of_95
    rw [if_neg c6] at hR
    by_cases c7 : x2 = 4
    · rw [if_pos c7] at hR
      refine j_tabIn C dX5_of_14 (by rw [c7]; decide) (by rw [c7]; decide) (by rw [c7]; rfl) 96 rfl ?_
      refine j_aload_n C dX5_of_96 97 rfl rfl 0 rfl ?_
      refine j_get C dX5_of_97 100 rfl hiX5 0 rfl rfl 0 (by decide) rfl kX5_of_f10 rfl ?_
      refine j_get C dX5_of_100 103 rfl hiX4 4 rfl rfl 5 (by decide) rfl kX5_of_f118 rfl ?_
      refine j_iload_n C dX5_of_103 104 rfl rfl 1 rfl ?_
      refine j_iald C dX5_of_104 105 rfl 10 rfl (by first | assumption | decide | exact in_has (by assumption) hn0 hn | exact (in_trial (by assumption) hn0 hn).1 | exact (in_trial (by assumption) hn0 hn).2.2 | exact in_isIn4 (by assumption) | exact in_isIn60 (by assumption) | exact in_isIn30 (by assumption) | exact in_sheet (by assumption) | exact in_shelf (by assumption) | exact vp_in_iff.mpr ⟨by omega, by omega⟩ | exact nz_nle (by assumption) | exact nz_lt (by assumption) | omega) (x1).toNatClampNeg rfl ?_
      exact Rt.ret (hR) rfl dX5_of_105
    rw [if_neg c7] at hR
    by_cases c10 : x2 = 5
    · rw [if_pos c10] at hR
      refine j_tabIn C dX5_of_14 (by rw [c10]; decide) (by rw [c10]; decide) (by rw [c10]; rfl) 106 rfl ?_
      refine j_aload_n C dX5_of_106 107 rfl rfl 0 rfl ?_
      refine j_get C dX5_of_107 110 rfl hiX5 0 rfl rfl 0 (by decide) rfl kX5_of_f10 rfl ?_
      refine j_iload_n C dX5_of_110 111 rfl rfl 1 rfl ?_
      refine j_cvI (na := 1) C dX5_of_111 114 rfl (c_X4_isSounding τ (fun j => a (10 + j)) nlw nkd nbt nph ncn nno nct nsc nrn nlg ndn nzz x1 (by first | assumption | decide | exact in_has (by assumption) hn0 hn | exact (in_trial (by assumption) hn0 hn).1 | exact (in_trial (by assumption) hn0 hn).2.2 | exact in_isIn4 (by assumption) | exact in_isIn60 (by assumption) | exact in_isIn30 (by assumption) | exact in_sheet (by assumption) | exact in_shelf (by assumption) | exact vp_in_iff.mpr ⟨by omega, by omega⟩ | exact nz_nle (by assumption) | exact nz_lt (by assumption) | omega)) gX5_of_X4_isSounding rfl rfl rfl qd_X4_isSounding rfl ⟨by decide, by decide⟩ ⟨by decide, by decide⟩ rfl (Nat.le_of_ble_eq_true rfl) [4, 5, 6, 7, 8, 9, 10] [0, 1, 2, 3] [0, 1, 2, 3, 4, 5, 6, 7, 8, 9, 10] ((wX τ a rws isv rc)) rfl (by decide) rfl (by decide) (by decide) 4 0 rfl rfl (fun u => ((wX τ a rws isv rc) ++ (wT τ (fun j => a (10 + j)) nlw nkd nbt nph ncn nno nct nsc nrn nlg ndn nzz))) (fun _ => rfl) (by decide) (fun r8 u8 hX8 hn8 => ?_)
      obtain rfl := (Prod.mk.inj hX8).1
      refine j_if_eq C dX5_of_114 121 rfl 117 rfl (fun c9 => ?_) (fun c9 => ?_)
      · rw [if_pos c9] at hR
        refine j_iconst (v := 0) C dX5_of_121 122 rfl (by decide) ?_
        exact Rt.ret (hR) rfl dX5_of_122
      · rw [if_neg c9] at hR
        refine j_iconst (v := 1) C dX5_of_117 118 rfl (by decide) ?_
        refine j_goto C dX5_of_118 122 rfl ?_
        exact Rt.ret (hR) rfl dX5_of_122
    rw [if_neg c10] at hR
    by_cases c12 : x2 = 6
    · rw [if_pos c12] at hR
      refine j_tabIn C dX5_of_14 (by rw [c12]; decide) (by rw [c12]; decide) (by rw [c12]; rfl) 123 rfl ?_
      refine j_aload_n C dX5_of_123 124 rfl rfl 0 rfl ?_
      refine j_get C dX5_of_124 127 rfl hiX5 0 rfl rfl 0 (by decide) rfl kX5_of_f10 rfl ?_
      refine j_iload_n C dX5_of_127 128 rfl rfl 1 rfl ?_
      refine j_cvI (na := 1) C dX5_of_128 131 rfl (c_X4_reachOf τ (fun j => a (10 + j)) nlw nkd nbt nph ncn nno nct nsc nrn nlg ndn nzz x1 (by first | assumption | decide | exact in_has (by assumption) hn0 hn | exact (in_trial (by assumption) hn0 hn).1 | exact (in_trial (by assumption) hn0 hn).2.2 | exact in_isIn4 (by assumption) | exact in_isIn60 (by assumption) | exact in_isIn30 (by assumption) | exact in_sheet (by assumption) | exact in_shelf (by assumption) | exact vp_in_iff.mpr ⟨by omega, by omega⟩ | exact nz_nle (by assumption) | exact nz_lt (by assumption) | omega)) gX5_of_X4_reachOf rfl rfl rfl qd_X4_reachOf rfl ⟨by decide, by decide⟩ ⟨by decide, by decide⟩ rfl (Nat.le_of_ble_eq_true rfl) [4, 5, 6, 7, 8, 9, 10] [0, 1, 2, 3] [0, 1, 2, 3, 4, 5, 6, 7, 8, 9, 10] ((wX τ a rws isv rc)) rfl (by decide) rfl (by decide) (by decide) 4 0 rfl rfl (fun u => ((wX τ a rws isv rc) ++ (wT τ (fun j => a (10 + j)) nlw nkd nbt nph ncn nno nct nsc nrn nlg ndn nzz))) (fun _ => rfl) (by decide) (fun r11 u11 hX11 hn11 => ?_)
      obtain rfl := (Prod.mk.inj hX11).1
      exact Rt.ret (hR) rfl dX5_of_131
    rw [if_neg c12] at hR
    refine j_tabOut C dX5_of_14 (by have n3 := lv_neT (a := 0) c3 (by decide); have n4 := lv_neT (a := 1) c4 (by decide); have n5 := lv_neT (a := 2) c5 (by decide); have n6 := lv_neT (a := 3) c6 (by decide); have n7 := lv_neT (a := 4) c7 (by decide); have n10 := lv_neT (a := 5) c10 (by decide); have n12 := lv_neT (a := 6) c12 (by decide); omega) 132 rfl ?_
    refine j_iconst (v := (-1)) C dX5_of_132 133 rfl (by decide) ?_
    exact Rt.ret (hR) rfl dX5_of_133
  · rw [if_pos c2] at hR
    refine j_iconst (v := (-1)) C dX5_of_11 12 rfl (by decide) ?_
    exact Rt.ret (hR) rfl dX5_of_12

-- X5_mind main now
def f_X5_mind (nkd : Nat → Int32) (nct : Int32) (x1 : Int32) (x2 : Int32) : Int32 × (Nat → Int32) := if ((f_X4_has nct x1) = 0) then (((-1) : Int32), nkd) else (if ((f_X5_isKind x2) = 0) then (((-1) : Int32), nkd) else ((nkd (x1).toNatClampNeg), (upd nkd (x1).toNatClampNeg x2)))
theorem kX5_mind_f10 : Cond.fieldLink RX5 10 "TwoMinutes" "now" "LTwoMinutes$Town;" ∈ wsX5_mind := by decide +kernel
theorem kX5_mind_iRX5 : Cond.initialized yX5_isKind.cls ∈ wsX5_mind := by decide +kernel
theorem kX5_mind_sX5_isKind : Cond.static yX5_isKind ∈ wsX5_mind := by decide +kernel
theorem kX5_mind_m92 : Cond.methodLink RX5 92 yX5_isKind ∈ wsX5_mind := by decide +kernel
theorem kX5_mind_f106 : Cond.fieldLink RX5 106 "TwoMinutes$Town" "kinds" "[I" ∈ wsX5_mind := by decide +kernel
theorem qd_X5_mind : yX5_mind.cls = RX5 ∧ yX5_mind.cls ≠ "java/lang/invoke/MethodHandle" ∧ yX5_mind.cls ≠ "java/lang/invoke/VarHandle" ∧ (parseMethodDescriptor yX5_mind.desc).map (fun d => d.parameters.length) = some 2 := by decide +kernel
abbrev rmX5_mind : Room := { frames := 2, cells := 0, slots := 0, locals := 43 }
set_option maxHeartbeats 4000000 in
set_option maxRecDepth 100000 in
theorem c_X5_mind (τ : SX) (a : Nat → Nat) (rws : Nat → Int32) (isv : Int32) (rc : Int32) (nlw : Nat → Int32) (nkd : Nat → Int32) (nbt : Nat → Int32) (nph : Nat → Int32) (ncn : Nat → Int32) (nno : Nat → Int32) (nct : Int32) (nsc : Int32) (nrn : Int32) (nlg : Int32) (ndn : Int32) (nzz : Int32) (x1 : Int32) (x2 : Int32) (hrc0 : 0 ≤ rc.toInt) (hrc : rc.toInt ≤ 10) (hn0 : 0 ≤ nct.toInt) (hn : nct.toInt ≤ 8) (sz : Nat) : McI τ yX5_mind wsX5_mind rmX5_mind .int [.ref (a 0), .int x1, .int x2] ((wX τ a rws isv rc) ++ (wT τ (fun j => a (10 + j)) nlw nkd nbt nph ncn nno nct nsc nrn nlg ndn nzz)) (fun u : (Nat → Int32) => ((wX τ a rws isv rc) ++ (wT τ (fun j => a (10 + j)) nlw u nbt nph ncn nno nct nsc nrn nlg ndn nzz))) (f_X5_mind nkd nct x1 x2) sz := by
  refine mc_I (cc := cX5_mind) (own := RX5) [(0, .ref (a 0)), (1, .int x1), (2, .int x2)] rfl (by decide) rfl rfl (Nat.le_of_ble_eq_true rfl) (fun κ C hR => ?_)
  have hiX4 : ∀ w ∈ wsX40, w ∈ wsX5_mind := fun w h => List.mem_cons_of_mem _ (List.mem_append_right _ h)
  have hiX5 : ∀ w ∈ wsX50, w ∈ wsX5_mind := fun w h => List.mem_cons_of_mem _ (List.mem_append_left _ (List.mem_append_right _ h))
  unfold f_X5_mind at hR
  refine j_aload_n C dX5_mind_0 1 rfl rfl 0 rfl ?_
  refine j_get C dX5_mind_1 4 rfl hiX5 0 rfl rfl 0 (by decide) rfl kX5_mind_f10 rfl ?_
  refine j_iload_n C dX5_mind_4 5 rfl rfl 1 rfl ?_
  refine j_cvI (na := 1) C dX5_mind_5 8 rfl (c_X4_has τ (fun j => a (10 + j)) nlw nkd nbt nph ncn nno nct nsc nrn nlg ndn nzz x1 ) gX5_mind_X4_has rfl rfl rfl qd_X4_has rfl ⟨by decide, by decide⟩ ⟨by decide, by decide⟩ rfl (Nat.le_of_ble_eq_true rfl) [4, 5, 6, 7, 8, 9, 10] [0, 1, 2, 3] [0, 1, 2, 3, 4, 5, 6, 7, 8, 9, 10] ((wX τ a rws isv rc)) rfl (by decide) rfl (by decide) (by decide) 4 0 rfl rfl (fun u => ((wX τ a rws isv rc) ++ (wT τ (fun j => a (10 + j)) nlw nkd nbt nph ncn nno nct nsc nrn nlg ndn nzz))) (fun _ => rfl) (by decide) (fun r1 u1 hX1 hn1 => ?_)
  obtain rfl := (Prod.mk.inj hX1).1
  refine j_if_eq C dX5_mind_8 18 rfl 11 rfl (fun c2 => ?_) (fun c2 => ?_)
  · rw [if_pos c2] at hR
    refine j_iconst (v := (-1)) C dX5_mind_18 19 rfl (by decide) ?_
    exact Rt.ret (hR) rfl dX5_mind_19
  · rw [if_neg c2] at hR
    refine j_iload_n C dX5_mind_11 12 rfl rfl 2 rfl ?_
    refine j_cs0I (na := 1) C dX5_mind_12 15 rfl (c_X5_isKind τ  x2 ) rfl ggX5_mind_X5_isKind rfl rfl rfl kX5_mind_iRX5 kX5_mind_m92 kX5_mind_sX5_isKind qd_X5_isKind rfl ⟨by decide, by decide⟩ ⟨by decide, by decide⟩ rfl (Nat.le_of_ble_eq_true rfl) (fun r3 u3 hX3 hn3 => ?_)
    obtain rfl := (Prod.mk.inj hX3).1
    refine j_if_ne C dX5_mind_15 20 rfl 18 rfl (fun c4 => ?_) (fun c4 => ?_)
    · rw [if_neg c4] at hR
      refine j_aload_n C dX5_mind_20 21 rfl rfl 0 rfl ?_
      refine j_get C dX5_mind_21 24 rfl hiX5 0 rfl rfl 0 (by decide) rfl kX5_mind_f10 rfl ?_
      refine j_get C dX5_mind_24 27 rfl hiX4 4 rfl rfl 1 (by decide) rfl kX5_mind_f106 rfl ?_
      refine j_iload_n C dX5_mind_27 28 rfl rfl 1 rfl ?_
      refine j_iald C dX5_mind_28 29 rfl 6 rfl (by first | assumption | decide | exact in_has (by assumption) hn0 hn | exact (in_trial (by assumption) hn0 hn).1 | exact (in_trial (by assumption) hn0 hn).2.2 | exact in_isIn4 (by assumption) | exact in_isIn60 (by assumption) | exact in_isIn30 (by assumption) | exact in_sheet (by assumption) | exact in_shelf (by assumption) | exact vp_in_iff.mpr ⟨by omega, by omega⟩ | exact nz_nle (by assumption) | exact nz_lt (by assumption) | omega) (x1).toNatClampNeg rfl ?_
      refine j_istore_n C dX5_mind_29 30 rfl rfl (by decide) [(3, .int (nkd (x1).toNatClampNeg)), (0, .ref (a 0)), (1, .int x1), (2, .int x2)] rfl ?_
      refine j_aload_n C dX5_mind_30 31 rfl rfl 1 rfl ?_
      refine j_get C dX5_mind_31 34 rfl hiX5 0 rfl rfl 0 (by decide) rfl kX5_mind_f10 rfl ?_
      refine j_get C dX5_mind_34 37 rfl hiX4 4 rfl rfl 1 (by decide) rfl kX5_mind_f106 rfl ?_
      refine j_iload_n C dX5_mind_37 38 rfl rfl 2 rfl ?_
      refine j_iload_n C dX5_mind_38 39 rfl rfl 3 rfl ?_
      refine j_iast C dX5_mind_39 40 rfl 6 rfl (by first | assumption | decide | exact in_has (by assumption) hn0 hn | exact (in_trial (by assumption) hn0 hn).1 | exact (in_trial (by assumption) hn0 hn).2.2 | exact in_isIn4 (by assumption) | exact in_isIn60 (by assumption) | exact in_isIn30 (by assumption) | exact in_sheet (by assumption) | exact in_shelf (by assumption) | exact vp_in_iff.mpr ⟨by omega, by omega⟩ | exact nz_nle (by assumption) | exact nz_lt (by assumption) | omega) (x1).toNatClampNeg rfl ((wX τ a rws isv rc) ++ (wT τ (fun j => a (10 + j)) nlw (upd nkd (x1).toNatClampNeg x2) nbt nph ncn nno nct nsc nrn nlg ndn nzz)) rfl ?_
      refine j_iload_n C dX5_mind_40 41 rfl rfl 0 rfl ?_
      exact Rt.ret (hR) rfl dX5_mind_41
    · rw [if_pos c4] at hR
      refine j_iconst (v := (-1)) C dX5_mind_18 19 rfl (by decide) ?_
      exact Rt.ret (hR) rfl dX5_mind_19

-- X5_change main now
def f_X5_change (nbt : Nat → Int32) (nph : Nat → Int32) (nct : Int32) (x1 : Int32) (x2 : Int32) (x3 : Int32) : Int32 × (Nat → Int32) × (Nat → Int32) := if ((f_X4_has nct x1) = 0) then (((-1) : Int32), nbt, nph) else (if (x2 = 1) then (if ((f_X5_isIn x3 (1 : Int32) (9 : Int32)) = 0) then (if (x2 = 2) then (if ((f_X5_isIn x3 (0 : Int32) (8 : Int32)) = 0) then (((-1) : Int32), nbt, nph) else ((nph (x1).toNatClampNeg), nbt, (upd nph (x1).toNatClampNeg x3))) else (((-1) : Int32), nbt, nph)) else ((nbt (x1).toNatClampNeg), (upd nbt (x1).toNatClampNeg x3), nph)) else (if (x2 = 2) then (if ((f_X5_isIn x3 (0 : Int32) (8 : Int32)) = 0) then (((-1) : Int32), nbt, nph) else ((nph (x1).toNatClampNeg), nbt, (upd nph (x1).toNatClampNeg x3))) else (((-1) : Int32), nbt, nph)))
theorem kX5_change_f10 : Cond.fieldLink RX5 10 "TwoMinutes" "now" "LTwoMinutes$Town;" ∈ wsX5_change := by decide +kernel
theorem kX5_change_iRX5 : Cond.initialized yX5_isIn.cls ∈ wsX5_change := by decide +kernel
theorem kX5_change_sX5_isIn : Cond.static yX5_isIn ∈ wsX5_change := by decide +kernel
theorem kX5_change_m79 : Cond.methodLink RX5 79 yX5_isIn ∈ wsX5_change := by decide +kernel
theorem kX5_change_f112 : Cond.fieldLink RX5 112 "TwoMinutes$Town" "phases" "[I" ∈ wsX5_change := by decide +kernel
theorem kX5_change_f109 : Cond.fieldLink RX5 109 "TwoMinutes$Town" "beats" "[I" ∈ wsX5_change := by decide +kernel
theorem qd_X5_change : yX5_change.cls = RX5 ∧ yX5_change.cls ≠ "java/lang/invoke/MethodHandle" ∧ yX5_change.cls ≠ "java/lang/invoke/VarHandle" ∧ (parseMethodDescriptor yX5_change.desc).map (fun d => d.parameters.length) = some 3 := by decide +kernel
abbrev rmX5_change : Room := { frames := 2, cells := 0, slots := 0, locals := 43 }
set_option maxHeartbeats 4000000 in
set_option maxRecDepth 100000 in
theorem c_X5_change (τ : SX) (a : Nat → Nat) (rws : Nat → Int32) (isv : Int32) (rc : Int32) (nlw : Nat → Int32) (nkd : Nat → Int32) (nbt : Nat → Int32) (nph : Nat → Int32) (ncn : Nat → Int32) (nno : Nat → Int32) (nct : Int32) (nsc : Int32) (nrn : Int32) (nlg : Int32) (ndn : Int32) (nzz : Int32) (x1 : Int32) (x2 : Int32) (x3 : Int32) (hrc0 : 0 ≤ rc.toInt) (hrc : rc.toInt ≤ 10) (hn0 : 0 ≤ nct.toInt) (hn : nct.toInt ≤ 8) (sz : Nat) : McI τ yX5_change wsX5_change rmX5_change .int [.ref (a 0), .int x1, .int x2, .int x3] ((wX τ a rws isv rc) ++ (wT τ (fun j => a (10 + j)) nlw nkd nbt nph ncn nno nct nsc nrn nlg ndn nzz)) (fun u : (Nat → Int32) × (Nat → Int32) => ((wX τ a rws isv rc) ++ (wT τ (fun j => a (10 + j)) nlw nkd u.1 u.2 ncn nno nct nsc nrn nlg ndn nzz))) (f_X5_change nbt nph nct x1 x2 x3) sz := by
  refine mc_I (cc := cX5_change) (own := RX5) [(0, .ref (a 0)), (1, .int x1), (2, .int x2), (3, .int x3)] rfl (by decide) rfl rfl (Nat.le_of_ble_eq_true rfl) (fun κ C hR => ?_)
  have hiX4 : ∀ w ∈ wsX40, w ∈ wsX5_change := fun w h => List.mem_cons_of_mem _ (List.mem_append_right _ h)
  have hiX5 : ∀ w ∈ wsX50, w ∈ wsX5_change := fun w h => List.mem_cons_of_mem _ (List.mem_append_left _ (List.mem_append_right _ h))
  unfold f_X5_change at hR
  refine j_aload_n C dX5_change_0 1 rfl rfl 0 rfl ?_
  refine j_get C dX5_change_1 4 rfl hiX5 0 rfl rfl 0 (by decide) rfl kX5_change_f10 rfl ?_
  refine j_iload_n C dX5_change_4 5 rfl rfl 1 rfl ?_
  refine j_cvI (na := 1) C dX5_change_5 8 rfl (c_X4_has τ (fun j => a (10 + j)) nlw nkd nbt nph ncn nno nct nsc nrn nlg ndn nzz x1 ) gX5_change_X4_has rfl rfl rfl qd_X4_has rfl ⟨by decide, by decide⟩ ⟨by decide, by decide⟩ rfl (Nat.le_of_ble_eq_true rfl) [4, 5, 6, 7, 8, 9, 10] [0, 1, 2, 3] [0, 1, 2, 3, 4, 5, 6, 7, 8, 9, 10] ((wX τ a rws isv rc)) rfl (by decide) rfl (by decide) (by decide) 4 0 rfl rfl (fun u => ((wX τ a rws isv rc) ++ (wT τ (fun j => a (10 + j)) nlw nkd nbt nph ncn nno nct nsc nrn nlg ndn nzz))) (fun _ => rfl) (by decide) (fun r1 u1 hX1 hn1 => ?_)
  obtain rfl := (Prod.mk.inj hX1).1
  refine j_if_ne C dX5_change_8 13 rfl 11 rfl (fun c2 => ?_) (fun c2 => ?_)
  · rw [if_neg c2] at hR
    refine j_iload_n C dX5_change_13 14 rfl rfl 2 rfl ?_
    refine j_iconst (v := 1) C dX5_change_14 15 rfl (by decide) ?_
    refine j_icmp_ne C dX5_change_15 52 rfl 18 rfl (fun c3 => ?_) (fun c3 => ?_)
    · rw [if_neg c3] at hR
      refine j_iload_n C dX5_change_52 53 rfl rfl 2 rfl ?_
      refine j_iconst (v := 2) C dX5_change_53 54 rfl (by decide) ?_
      refine j_icmp_ne C dX5_change_54 91 rfl 57 rfl (fun c9 => ?_) (fun c9 => ?_)
      · rw [if_neg c9] at hR
        refine j_iconst (v := (-1)) C dX5_change_91 92 rfl (by decide) ?_
        exact Rt.ret (hR) rfl dX5_change_92
      · rw [if_pos c9] at hR
        refine j_iload_n C dX5_change_57 58 rfl rfl 3 rfl ?_
        refine j_iconst (v := 0) C dX5_change_58 59 rfl (by decide) ?_
        refine j_bipush (v := 8) C dX5_change_59 61 rfl (by decide) ?_
        refine j_cs0I (na := 3) C dX5_change_61 64 rfl (c_X5_isIn τ  x3 (0 : Int32) (8 : Int32) ) rfl ggX5_change_X5_isIn rfl rfl rfl kX5_change_iRX5 kX5_change_m79 kX5_change_sX5_isIn qd_X5_isIn rfl ⟨by decide, by decide⟩ ⟨by decide, by decide⟩ rfl (Nat.le_of_ble_eq_true rfl) (fun r10 u10 hX10 hn10 => ?_)
        obtain rfl := (Prod.mk.inj hX10).1
        refine j_if_eq C dX5_change_64 91 rfl 67 rfl (fun c11 => ?_) (fun c11 => ?_)
        · rw [if_pos c11] at hR
          refine j_iconst (v := (-1)) C dX5_change_91 92 rfl (by decide) ?_
          exact Rt.ret (hR) rfl dX5_change_92
        · rw [if_neg c11] at hR
          refine j_aload_n C dX5_change_67 68 rfl rfl 0 rfl ?_
          refine j_get C dX5_change_68 71 rfl hiX5 0 rfl rfl 0 (by decide) rfl kX5_change_f10 rfl ?_
          refine j_get C dX5_change_71 74 rfl hiX4 4 rfl rfl 3 (by decide) rfl kX5_change_f112 rfl ?_
          refine j_iload_n C dX5_change_74 75 rfl rfl 1 rfl ?_
          refine j_iald C dX5_change_75 76 rfl 8 rfl (by first | assumption | decide | exact in_has (by assumption) hn0 hn | exact (in_trial (by assumption) hn0 hn).1 | exact (in_trial (by assumption) hn0 hn).2.2 | exact in_isIn4 (by assumption) | exact in_isIn60 (by assumption) | exact in_isIn30 (by assumption) | exact in_sheet (by assumption) | exact in_shelf (by assumption) | exact vp_in_iff.mpr ⟨by omega, by omega⟩ | exact nz_nle (by assumption) | exact nz_lt (by assumption) | omega) (x1).toNatClampNeg rfl ?_
          refine j_istore C dX5_change_76 78 rfl (by decide) [(4, .int (nph (x1).toNatClampNeg)), (0, .ref (a 0)), (1, .int x1), (2, .int x2), (3, .int x3)] rfl ?_
          refine j_aload_n C dX5_change_78 79 rfl rfl 1 rfl ?_
          refine j_get C dX5_change_79 82 rfl hiX5 0 rfl rfl 0 (by decide) rfl kX5_change_f10 rfl ?_
          refine j_get C dX5_change_82 85 rfl hiX4 4 rfl rfl 3 (by decide) rfl kX5_change_f112 rfl ?_
          refine j_iload_n C dX5_change_85 86 rfl rfl 2 rfl ?_
          refine j_iload_n C dX5_change_86 87 rfl rfl 4 rfl ?_
          refine j_iast C dX5_change_87 88 rfl 8 rfl (by first | assumption | decide | exact in_has (by assumption) hn0 hn | exact (in_trial (by assumption) hn0 hn).1 | exact (in_trial (by assumption) hn0 hn).2.2 | exact in_isIn4 (by assumption) | exact in_isIn60 (by assumption) | exact in_isIn30 (by assumption) | exact in_sheet (by assumption) | exact in_shelf (by assumption) | exact vp_in_iff.mpr ⟨by omega, by omega⟩ | exact nz_nle (by assumption) | exact nz_lt (by assumption) | omega) (x1).toNatClampNeg rfl ((wX τ a rws isv rc) ++ (wT τ (fun j => a (10 + j)) nlw nkd nbt (upd nph (x1).toNatClampNeg x3) ncn nno nct nsc nrn nlg ndn nzz)) rfl ?_
          refine j_iload C dX5_change_88 90 rfl 0 rfl ?_
          exact Rt.ret (hR) rfl dX5_change_90
    · rw [if_pos c3] at hR
      refine j_iload_n C dX5_change_18 19 rfl rfl 3 rfl ?_
      refine j_iconst (v := 1) C dX5_change_19 20 rfl (by decide) ?_
      refine j_bipush (v := 9) C dX5_change_20 22 rfl (by decide) ?_
      refine j_cs0I (na := 3) C dX5_change_22 25 rfl (c_X5_isIn τ  x3 (1 : Int32) (9 : Int32) ) rfl ggX5_change_X5_isIn rfl rfl rfl kX5_change_iRX5 kX5_change_m79 kX5_change_sX5_isIn qd_X5_isIn rfl ⟨by decide, by decide⟩ ⟨by decide, by decide⟩ rfl (Nat.le_of_ble_eq_true rfl) (fun r4 u4 hX4 hn4 => ?_)
      obtain rfl := (Prod.mk.inj hX4).1
      refine j_if_eq C dX5_change_25 52 rfl 28 rfl (fun c5 => ?_) (fun c5 => ?_)
      · rw [if_pos c5] at hR
        refine j_iload_n C dX5_change_52 53 rfl rfl 2 rfl ?_
        refine j_iconst (v := 2) C dX5_change_53 54 rfl (by decide) ?_
        refine j_icmp_ne C dX5_change_54 91 rfl 57 rfl (fun c6 => ?_) (fun c6 => ?_)
        · rw [if_neg c6] at hR
          refine j_iconst (v := (-1)) C dX5_change_91 92 rfl (by decide) ?_
          exact Rt.ret (hR) rfl dX5_change_92
        · rw [if_pos c6] at hR
          refine j_iload_n C dX5_change_57 58 rfl rfl 3 rfl ?_
          refine j_iconst (v := 0) C dX5_change_58 59 rfl (by decide) ?_
          refine j_bipush (v := 8) C dX5_change_59 61 rfl (by decide) ?_
          refine j_cs0I (na := 3) C dX5_change_61 64 rfl (c_X5_isIn τ  x3 (0 : Int32) (8 : Int32) ) rfl ggX5_change_X5_isIn rfl rfl rfl kX5_change_iRX5 kX5_change_m79 kX5_change_sX5_isIn qd_X5_isIn rfl ⟨by decide, by decide⟩ ⟨by decide, by decide⟩ rfl (Nat.le_of_ble_eq_true rfl) (fun r7 u7 hX7 hn7 => ?_)
          obtain rfl := (Prod.mk.inj hX7).1
          refine j_if_eq C dX5_change_64 91 rfl 67 rfl (fun c8 => ?_) (fun c8 => ?_)
          · rw [if_pos c8] at hR
            refine j_iconst (v := (-1)) C dX5_change_91 92 rfl (by decide) ?_
            exact Rt.ret (hR) rfl dX5_change_92
          · rw [if_neg c8] at hR
            refine j_aload_n C dX5_change_67 68 rfl rfl 0 rfl ?_
            refine j_get C dX5_change_68 71 rfl hiX5 0 rfl rfl 0 (by decide) rfl kX5_change_f10 rfl ?_
            refine j_get C dX5_change_71 74 rfl hiX4 4 rfl rfl 3 (by decide) rfl kX5_change_f112 rfl ?_
            refine j_iload_n C dX5_change_74 75 rfl rfl 1 rfl ?_
            refine j_iald C dX5_change_75 76 rfl 8 rfl (by first | assumption | decide | exact in_has (by assumption) hn0 hn | exact (in_trial (by assumption) hn0 hn).1 | exact (in_trial (by assumption) hn0 hn).2.2 | exact in_isIn4 (by assumption) | exact in_isIn60 (by assumption) | exact in_isIn30 (by assumption) | exact in_sheet (by assumption) | exact in_shelf (by assumption) | exact vp_in_iff.mpr ⟨by omega, by omega⟩ | exact nz_nle (by assumption) | exact nz_lt (by assumption) | omega) (x1).toNatClampNeg rfl ?_
            refine j_istore C dX5_change_76 78 rfl (by decide) [(4, .int (nph (x1).toNatClampNeg)), (0, .ref (a 0)), (1, .int x1), (2, .int x2), (3, .int x3)] rfl ?_
            refine j_aload_n C dX5_change_78 79 rfl rfl 1 rfl ?_
            refine j_get C dX5_change_79 82 rfl hiX5 0 rfl rfl 0 (by decide) rfl kX5_change_f10 rfl ?_
            refine j_get C dX5_change_82 85 rfl hiX4 4 rfl rfl 3 (by decide) rfl kX5_change_f112 rfl ?_
            refine j_iload_n C dX5_change_85 86 rfl rfl 2 rfl ?_
            refine j_iload_n C dX5_change_86 87 rfl rfl 4 rfl ?_
            refine j_iast C dX5_change_87 88 rfl 8 rfl (by first | assumption | decide | exact in_has (by assumption) hn0 hn | exact (in_trial (by assumption) hn0 hn).1 | exact (in_trial (by assumption) hn0 hn).2.2 | exact in_isIn4 (by assumption) | exact in_isIn60 (by assumption) | exact in_isIn30 (by assumption) | exact in_sheet (by assumption) | exact in_shelf (by assumption) | exact vp_in_iff.mpr ⟨by omega, by omega⟩ | exact nz_nle (by assumption) | exact nz_lt (by assumption) | omega) (x1).toNatClampNeg rfl ((wX τ a rws isv rc) ++ (wT τ (fun j => a (10 + j)) nlw nkd nbt (upd nph (x1).toNatClampNeg x3) ncn nno nct nsc nrn nlg ndn nzz)) rfl ?_
            refine j_iload C dX5_change_88 90 rfl 0 rfl ?_
            exact Rt.ret (hR) rfl dX5_change_90
      · rw [if_neg c5] at hR
        refine j_aload_n C dX5_change_28 29 rfl rfl 0 rfl ?_
        refine j_get C dX5_change_29 32 rfl hiX5 0 rfl rfl 0 (by decide) rfl kX5_change_f10 rfl ?_
        refine j_get C dX5_change_32 35 rfl hiX4 4 rfl rfl 2 (by decide) rfl kX5_change_f109 rfl ?_
        refine j_iload_n C dX5_change_35 36 rfl rfl 1 rfl ?_
        refine j_iald C dX5_change_36 37 rfl 7 rfl (by first | assumption | decide | exact in_has (by assumption) hn0 hn | exact (in_trial (by assumption) hn0 hn).1 | exact (in_trial (by assumption) hn0 hn).2.2 | exact in_isIn4 (by assumption) | exact in_isIn60 (by assumption) | exact in_isIn30 (by assumption) | exact in_sheet (by assumption) | exact in_shelf (by assumption) | exact vp_in_iff.mpr ⟨by omega, by omega⟩ | exact nz_nle (by assumption) | exact nz_lt (by assumption) | omega) (x1).toNatClampNeg rfl ?_
        refine j_istore C dX5_change_37 39 rfl (by decide) [(4, .int (nbt (x1).toNatClampNeg)), (0, .ref (a 0)), (1, .int x1), (2, .int x2), (3, .int x3)] rfl ?_
        refine j_aload_n C dX5_change_39 40 rfl rfl 1 rfl ?_
        refine j_get C dX5_change_40 43 rfl hiX5 0 rfl rfl 0 (by decide) rfl kX5_change_f10 rfl ?_
        refine j_get C dX5_change_43 46 rfl hiX4 4 rfl rfl 2 (by decide) rfl kX5_change_f109 rfl ?_
        refine j_iload_n C dX5_change_46 47 rfl rfl 2 rfl ?_
        refine j_iload_n C dX5_change_47 48 rfl rfl 4 rfl ?_
        refine j_iast C dX5_change_48 49 rfl 7 rfl (by first | assumption | decide | exact in_has (by assumption) hn0 hn | exact (in_trial (by assumption) hn0 hn).1 | exact (in_trial (by assumption) hn0 hn).2.2 | exact in_isIn4 (by assumption) | exact in_isIn60 (by assumption) | exact in_isIn30 (by assumption) | exact in_sheet (by assumption) | exact in_shelf (by assumption) | exact vp_in_iff.mpr ⟨by omega, by omega⟩ | exact nz_nle (by assumption) | exact nz_lt (by assumption) | omega) (x1).toNatClampNeg rfl ((wX τ a rws isv rc) ++ (wT τ (fun j => a (10 + j)) nlw nkd (upd nbt (x1).toNatClampNeg x3) nph ncn nno nct nsc nrn nlg ndn nzz)) rfl ?_
        refine j_iload C dX5_change_49 51 rfl 0 rfl ?_
        exact Rt.ret (hR) rfl dX5_change_51
  · rw [if_pos c2] at hR
    refine j_iconst (v := (-1)) C dX5_change_11 12 rfl (by decide) ?_
    exact Rt.ret (hR) rfl dX5_change_12

-- X5_bring main now
def f_X5_bring (ncn : Nat → Int32) (nct : Int32) (x1 : Int32) (x2 : Int32) : Int32 × (Nat → Int32) := if ((f_X4_has nct x1) = 0) then (((-1) : Int32), ncn) else (if ((f_X5_isCorner x2) = 0) then (((-1) : Int32), ncn) else ((ncn (x1).toNatClampNeg), (upd ncn (x1).toNatClampNeg x2)))
theorem kX5_bring_f10 : Cond.fieldLink RX5 10 "TwoMinutes" "now" "LTwoMinutes$Town;" ∈ wsX5_bring := by decide +kernel
theorem kX5_bring_iRX5 : Cond.initialized yX5_isCorner.cls ∈ wsX5_bring := by decide +kernel
theorem kX5_bring_sX5_isCorner : Cond.static yX5_isCorner ∈ wsX5_bring := by decide +kernel
theorem kX5_bring_m96 : Cond.methodLink RX5 96 yX5_isCorner ∈ wsX5_bring := by decide +kernel
theorem kX5_bring_f115 : Cond.fieldLink RX5 115 "TwoMinutes$Town" "corners" "[I" ∈ wsX5_bring := by decide +kernel
theorem qd_X5_bring : yX5_bring.cls = RX5 ∧ yX5_bring.cls ≠ "java/lang/invoke/MethodHandle" ∧ yX5_bring.cls ≠ "java/lang/invoke/VarHandle" ∧ (parseMethodDescriptor yX5_bring.desc).map (fun d => d.parameters.length) = some 2 := by decide +kernel
abbrev rmX5_bring : Room := { frames := 2, cells := 0, slots := 0, locals := 43 }
set_option maxHeartbeats 4000000 in
set_option maxRecDepth 100000 in
theorem c_X5_bring (τ : SX) (a : Nat → Nat) (rws : Nat → Int32) (isv : Int32) (rc : Int32) (nlw : Nat → Int32) (nkd : Nat → Int32) (nbt : Nat → Int32) (nph : Nat → Int32) (ncn : Nat → Int32) (nno : Nat → Int32) (nct : Int32) (nsc : Int32) (nrn : Int32) (nlg : Int32) (ndn : Int32) (nzz : Int32) (x1 : Int32) (x2 : Int32) (hrc0 : 0 ≤ rc.toInt) (hrc : rc.toInt ≤ 10) (hn0 : 0 ≤ nct.toInt) (hn : nct.toInt ≤ 8) (sz : Nat) : McI τ yX5_bring wsX5_bring rmX5_bring .int [.ref (a 0), .int x1, .int x2] ((wX τ a rws isv rc) ++ (wT τ (fun j => a (10 + j)) nlw nkd nbt nph ncn nno nct nsc nrn nlg ndn nzz)) (fun u : (Nat → Int32) => ((wX τ a rws isv rc) ++ (wT τ (fun j => a (10 + j)) nlw nkd nbt nph u nno nct nsc nrn nlg ndn nzz))) (f_X5_bring ncn nct x1 x2) sz := by
  refine mc_I (cc := cX5_bring) (own := RX5) [(0, .ref (a 0)), (1, .int x1), (2, .int x2)] rfl (by decide) rfl rfl (Nat.le_of_ble_eq_true rfl) (fun κ C hR => ?_)
  have hiX4 : ∀ w ∈ wsX40, w ∈ wsX5_bring := fun w h => List.mem_cons_of_mem _ (List.mem_append_right _ h)
  have hiX5 : ∀ w ∈ wsX50, w ∈ wsX5_bring := fun w h => List.mem_cons_of_mem _ (List.mem_append_left _ (List.mem_append_right _ h))
  unfold f_X5_bring at hR
  refine j_aload_n C dX5_bring_0 1 rfl rfl 0 rfl ?_
  refine j_get C dX5_bring_1 4 rfl hiX5 0 rfl rfl 0 (by decide) rfl kX5_bring_f10 rfl ?_
  refine j_iload_n C dX5_bring_4 5 rfl rfl 1 rfl ?_
  refine j_cvI (na := 1) C dX5_bring_5 8 rfl (c_X4_has τ (fun j => a (10 + j)) nlw nkd nbt nph ncn nno nct nsc nrn nlg ndn nzz x1 ) gX5_bring_X4_has rfl rfl rfl qd_X4_has rfl ⟨by decide, by decide⟩ ⟨by decide, by decide⟩ rfl (Nat.le_of_ble_eq_true rfl) [4, 5, 6, 7, 8, 9, 10] [0, 1, 2, 3] [0, 1, 2, 3, 4, 5, 6, 7, 8, 9, 10] ((wX τ a rws isv rc)) rfl (by decide) rfl (by decide) (by decide) 4 0 rfl rfl (fun u => ((wX τ a rws isv rc) ++ (wT τ (fun j => a (10 + j)) nlw nkd nbt nph ncn nno nct nsc nrn nlg ndn nzz))) (fun _ => rfl) (by decide) (fun r1 u1 hX1 hn1 => ?_)
  obtain rfl := (Prod.mk.inj hX1).1
  refine j_if_eq C dX5_bring_8 18 rfl 11 rfl (fun c2 => ?_) (fun c2 => ?_)
  · rw [if_pos c2] at hR
    refine j_iconst (v := (-1)) C dX5_bring_18 19 rfl (by decide) ?_
    exact Rt.ret (hR) rfl dX5_bring_19
  · rw [if_neg c2] at hR
    refine j_iload_n C dX5_bring_11 12 rfl rfl 2 rfl ?_
    refine j_cs0I (na := 1) C dX5_bring_12 15 rfl (c_X5_isCorner τ  x2 ) rfl ggX5_bring_X5_isCorner rfl rfl rfl kX5_bring_iRX5 kX5_bring_m96 kX5_bring_sX5_isCorner qd_X5_isCorner rfl ⟨by decide, by decide⟩ ⟨by decide, by decide⟩ rfl (Nat.le_of_ble_eq_true rfl) (fun r3 u3 hX3 hn3 => ?_)
    obtain rfl := (Prod.mk.inj hX3).1
    refine j_if_ne C dX5_bring_15 20 rfl 18 rfl (fun c4 => ?_) (fun c4 => ?_)
    · rw [if_neg c4] at hR
      refine j_aload_n C dX5_bring_20 21 rfl rfl 0 rfl ?_
      refine j_get C dX5_bring_21 24 rfl hiX5 0 rfl rfl 0 (by decide) rfl kX5_bring_f10 rfl ?_
      refine j_get C dX5_bring_24 27 rfl hiX4 4 rfl rfl 4 (by decide) rfl kX5_bring_f115 rfl ?_
      refine j_iload_n C dX5_bring_27 28 rfl rfl 1 rfl ?_
      refine j_iald C dX5_bring_28 29 rfl 9 rfl (by first | assumption | decide | exact in_has (by assumption) hn0 hn | exact (in_trial (by assumption) hn0 hn).1 | exact (in_trial (by assumption) hn0 hn).2.2 | exact in_isIn4 (by assumption) | exact in_isIn60 (by assumption) | exact in_isIn30 (by assumption) | exact in_sheet (by assumption) | exact in_shelf (by assumption) | exact vp_in_iff.mpr ⟨by omega, by omega⟩ | exact nz_nle (by assumption) | exact nz_lt (by assumption) | omega) (x1).toNatClampNeg rfl ?_
      refine j_istore_n C dX5_bring_29 30 rfl rfl (by decide) [(3, .int (ncn (x1).toNatClampNeg)), (0, .ref (a 0)), (1, .int x1), (2, .int x2)] rfl ?_
      refine j_aload_n C dX5_bring_30 31 rfl rfl 1 rfl ?_
      refine j_get C dX5_bring_31 34 rfl hiX5 0 rfl rfl 0 (by decide) rfl kX5_bring_f10 rfl ?_
      refine j_get C dX5_bring_34 37 rfl hiX4 4 rfl rfl 4 (by decide) rfl kX5_bring_f115 rfl ?_
      refine j_iload_n C dX5_bring_37 38 rfl rfl 2 rfl ?_
      refine j_iload_n C dX5_bring_38 39 rfl rfl 3 rfl ?_
      refine j_iast C dX5_bring_39 40 rfl 9 rfl (by first | assumption | decide | exact in_has (by assumption) hn0 hn | exact (in_trial (by assumption) hn0 hn).1 | exact (in_trial (by assumption) hn0 hn).2.2 | exact in_isIn4 (by assumption) | exact in_isIn60 (by assumption) | exact in_isIn30 (by assumption) | exact in_sheet (by assumption) | exact in_shelf (by assumption) | exact vp_in_iff.mpr ⟨by omega, by omega⟩ | exact nz_nle (by assumption) | exact nz_lt (by assumption) | omega) (x1).toNatClampNeg rfl ((wX τ a rws isv rc) ++ (wT τ (fun j => a (10 + j)) nlw nkd nbt nph (upd ncn (x1).toNatClampNeg x2) nno nct nsc nrn nlg ndn nzz)) rfl ?_
      refine j_iload_n C dX5_bring_40 41 rfl rfl 0 rfl ?_
      exact Rt.ret (hR) rfl dX5_bring_41
    · rw [if_pos c4] at hR
      refine j_iconst (v := (-1)) C dX5_bring_18 19 rfl (by decide) ?_
      exact Rt.ret (hR) rfl dX5_bring_19

-- X5_corner main now
def f_X5_corner (nlw : Nat → Int32) (nkd : Nat → Int32) (nbt : Nat → Int32) (nph : Nat → Int32) (ncn : Nat → Int32) (nct : Int32) (nsc : Int32) (nrn : Int32) (x1 : Int32) (x2 : Int32) : Int32 := if ((f_X5_isCorner x1) = 0) then ((-1) : Int32) else (if x2 = 0 then (f_X4_setAt ncn nct x1) else (if x2 = 1 then (f_X4_heardOf nlw nkd nph ncn nct (f_X4_soundingSet nlw nkd nbt nph nct nsc nrn) x1) else ((-1) : Int32)))
theorem kX5_corner_iRX5 : Cond.initialized yX5_isCorner.cls ∈ wsX5_corner := by decide +kernel
theorem kX5_corner_sX5_isCorner : Cond.static yX5_isCorner ∈ wsX5_corner := by decide +kernel
theorem kX5_corner_m96 : Cond.methodLink RX5 96 yX5_isCorner ∈ wsX5_corner := by decide +kernel
theorem kX5_corner_f10 : Cond.fieldLink RX5 10 "TwoMinutes" "now" "LTwoMinutes$Town;" ∈ wsX5_corner := by decide +kernel
theorem qd_X5_corner : yX5_corner.cls = RX5 ∧ yX5_corner.cls ≠ "java/lang/invoke/MethodHandle" ∧ yX5_corner.cls ≠ "java/lang/invoke/VarHandle" ∧ (parseMethodDescriptor yX5_corner.desc).map (fun d => d.parameters.length) = some 2 := by decide +kernel
abbrev rmX5_corner : Room := { frames := 4, cells := 0, slots := 0, locals := 86 }
set_option maxHeartbeats 4000000 in
set_option maxRecDepth 100000 in
theorem c_X5_corner (τ : SX) (a : Nat → Nat) (rws : Nat → Int32) (isv : Int32) (rc : Int32) (nlw : Nat → Int32) (nkd : Nat → Int32) (nbt : Nat → Int32) (nph : Nat → Int32) (ncn : Nat → Int32) (nno : Nat → Int32) (nct : Int32) (nsc : Int32) (nrn : Int32) (nlg : Int32) (ndn : Int32) (nzz : Int32) (x1 : Int32) (x2 : Int32) (hrc0 : 0 ≤ rc.toInt) (hrc : rc.toInt ≤ 10) (hn0 : 0 ≤ nct.toInt) (hn : nct.toInt ≤ 8) (sz : Nat) : McI τ yX5_corner wsX5_corner rmX5_corner .int [.ref (a 0), .int x1, .int x2] ((wX τ a rws isv rc) ++ (wT τ (fun j => a (10 + j)) nlw nkd nbt nph ncn nno nct nsc nrn nlg ndn nzz)) (fun _ : Unit => ((wX τ a rws isv rc) ++ (wT τ (fun j => a (10 + j)) nlw nkd nbt nph ncn nno nct nsc nrn nlg ndn nzz))) (f_X5_corner nlw nkd nbt nph ncn nct nsc nrn x1 x2, ()) sz := by
  refine mc_I (cc := cX5_corner) (own := RX5) [(0, .ref (a 0)), (1, .int x1), (2, .int x2)] rfl (by decide) rfl rfl (Nat.le_of_ble_eq_true rfl) (fun κ C hR => ?_)
  have hiX4 : ∀ w ∈ wsX40, w ∈ wsX5_corner := fun w h => List.mem_cons_of_mem _ (List.mem_append_right _ h)
  have hiX5 : ∀ w ∈ wsX50, w ∈ wsX5_corner := fun w h => List.mem_cons_of_mem _ (List.mem_append_left _ (List.mem_append_right _ h))
  unfold f_X5_corner at hR
  refine j_iload_n C dX5_corner_0 1 rfl rfl 1 rfl ?_
  refine j_cs0I (na := 1) C dX5_corner_1 4 rfl (c_X5_isCorner τ  x1 ) rfl ggX5_corner_X5_isCorner rfl rfl rfl kX5_corner_iRX5 kX5_corner_m96 kX5_corner_sX5_isCorner qd_X5_isCorner rfl ⟨by decide, by decide⟩ ⟨by decide, by decide⟩ rfl (Nat.le_of_ble_eq_true rfl) (fun r1 u1 hX1 hn1 => ?_)
  obtain rfl := (Prod.mk.inj hX1).1
  refine j_if_ne C dX5_corner_4 9 rfl 7 rfl (fun c2 => ?_) (fun c2 => ?_)
  · rw [if_neg c2] at hR
    refine j_iload_n C dX5_corner_9 10 rfl rfl 2 rfl ?_
    by_cases c4 : x2 = 0
    · rw [if_pos c4] at hR
      refine j_lookup C dX5_corner_10 (by decide) (by rw [c4] <;> rfl) 36 rfl ?_
      refine j_aload_n C dX5_corner_36 37 rfl rfl 0 rfl ?_
      refine j_get C dX5_corner_37 40 rfl hiX5 0 rfl rfl 0 (by decide) rfl kX5_corner_f10 rfl ?_
      refine j_iload_n C dX5_corner_40 41 rfl rfl 1 rfl ?_
      refine j_cvI (na := 1) C dX5_corner_41 44 rfl (c_X4_setAt τ (fun j => a (10 + j)) nlw nkd nbt nph ncn nno nct nsc nrn nlg ndn nzz x1 (by first | assumption | decide | exact in_has (by assumption) hn0 hn | exact (in_trial (by assumption) hn0 hn).1 | exact (in_trial (by assumption) hn0 hn).2.2 | exact in_isIn4 (by assumption) | exact in_isIn60 (by assumption) | exact in_isIn30 (by assumption) | exact in_sheet (by assumption) | exact in_shelf (by assumption) | exact vp_in_iff.mpr ⟨by omega, by omega⟩ | exact nz_nle (by assumption) | exact nz_lt (by assumption) | omega)) gX5_corner_X4_setAt rfl rfl rfl qd_X4_setAt rfl ⟨by decide, by decide⟩ ⟨by decide, by decide⟩ rfl (Nat.le_of_ble_eq_true rfl) [4, 5, 6, 7, 8, 9, 10] [0, 1, 2, 3] [0, 1, 2, 3, 4, 5, 6, 7, 8, 9, 10] ((wX τ a rws isv rc)) rfl (by decide) rfl (by decide) (by decide) 4 0 rfl rfl (fun u => ((wX τ a rws isv rc) ++ (wT τ (fun j => a (10 + j)) nlw nkd nbt nph ncn nno nct nsc nrn nlg ndn nzz))) (fun _ => rfl) (by decide) (fun r3 u3 hX3 hn3 => ?_)
      obtain rfl := (Prod.mk.inj hX3).1
      exact Rt.ret (hR) rfl dX5_corner_44
    rw [if_neg c4] at hR
    by_cases c7 : x2 = 1
    · rw [if_pos c7] at hR
      refine j_lookup C dX5_corner_10 (by decide) (by rw [c7] <;> rfl) 45 rfl ?_
      refine j_aload_n C dX5_corner_45 46 rfl rfl 0 rfl ?_
      refine j_get C dX5_corner_46 49 rfl hiX5 0 rfl rfl 0 (by decide) rfl kX5_corner_f10 rfl ?_
      refine j_aload_n C dX5_corner_49 50 rfl rfl 0 rfl ?_
      refine j_get C dX5_corner_50 53 rfl hiX5 0 rfl rfl 0 (by decide) rfl kX5_corner_f10 rfl ?_
      refine j_cvI (na := 0) C dX5_corner_53 56 rfl (c_X4_soundingSet τ (fun j => a (10 + j)) nlw nkd nbt nph ncn nno nct nsc nrn nlg ndn nzz (by first | assumption | decide | exact in_has (by assumption) hn0 hn | exact (in_trial (by assumption) hn0 hn).1 | exact (in_trial (by assumption) hn0 hn).2.2 | exact in_isIn4 (by assumption) | exact in_isIn60 (by assumption) | exact in_isIn30 (by assumption) | exact in_sheet (by assumption) | exact in_shelf (by assumption) | exact vp_in_iff.mpr ⟨by omega, by omega⟩ | exact nz_nle (by assumption) | exact nz_lt (by assumption) | omega)) gX5_corner_X4_soundingSet rfl rfl rfl qd_X4_soundingSet rfl ⟨by decide, by decide⟩ ⟨by decide, by decide⟩ rfl (Nat.le_of_ble_eq_true rfl) [4, 5, 6, 7, 8, 9, 10] [0, 1, 2, 3] [0, 1, 2, 3, 4, 5, 6, 7, 8, 9, 10] ((wX τ a rws isv rc)) rfl (by decide) rfl (by decide) (by decide) 4 0 rfl rfl (fun u => ((wX τ a rws isv rc) ++ (wT τ (fun j => a (10 + j)) nlw nkd nbt nph ncn nno nct nsc nrn nlg ndn nzz))) (fun _ => rfl) (by decide) (fun r5 u5 hX5 hn5 => ?_)
      obtain rfl := (Prod.mk.inj hX5).1
      refine j_iload_n C dX5_corner_56 57 rfl rfl 1 rfl ?_
      refine j_cvI (na := 2) C dX5_corner_57 60 rfl (c_X4_heardOf τ (fun j => a (10 + j)) nlw nkd nbt nph ncn nno nct nsc nrn nlg ndn nzz (f_X4_soundingSet nlw nkd nbt nph nct nsc nrn) x1 (by first | assumption | decide | exact in_has (by assumption) hn0 hn | exact (in_trial (by assumption) hn0 hn).1 | exact (in_trial (by assumption) hn0 hn).2.2 | exact in_isIn4 (by assumption) | exact in_isIn60 (by assumption) | exact in_isIn30 (by assumption) | exact in_sheet (by assumption) | exact in_shelf (by assumption) | exact vp_in_iff.mpr ⟨by omega, by omega⟩ | exact nz_nle (by assumption) | exact nz_lt (by assumption) | omega)) gX5_corner_X4_heardOf rfl rfl rfl qd_X4_heardOf rfl ⟨by decide, by decide⟩ ⟨by decide, by decide⟩ rfl (Nat.le_of_ble_eq_true rfl) [4, 5, 6, 7, 8, 9, 10] [0, 1, 2, 3] [0, 1, 2, 3, 4, 5, 6, 7, 8, 9, 10] ((wX τ a rws isv rc)) rfl (by decide) rfl (by decide) (by decide) 4 0 rfl rfl (fun u => ((wX τ a rws isv rc) ++ (wT τ (fun j => a (10 + j)) nlw nkd nbt nph ncn nno nct nsc nrn nlg ndn nzz))) (fun _ => rfl) (by decide) (fun r6 u6 hX6 hn6 => ?_)
      obtain rfl := (Prod.mk.inj hX6).1
      exact Rt.ret (hR) rfl dX5_corner_60
    rw [if_neg c7] at hR
    refine j_lookup C dX5_corner_10 (by decide) ((lv_osw (a := 0) c4 (by decide)).trans ((lv_osw (a := 1) c7 (by decide)).trans rfl)) 61 rfl ?_
    refine j_iconst (v := (-1)) C dX5_corner_61 62 rfl (by decide) ?_
    exact Rt.ret (hR) rfl dX5_corner_62
  · rw [if_pos c2] at hR
    refine j_iconst (v := (-1)) C dX5_corner_7 8 rfl (by decide) ?_
    exact Rt.ret (hR) rfl dX5_corner_8

-- X5_seed main now
def f_X5_seed (nzz : Int32) (x1 : Int32) : Int32 × Int32 := (nzz, x1)
theorem kX5_seed_f10 : Cond.fieldLink RX5 10 "TwoMinutes" "now" "LTwoMinutes$Town;" ∈ wsX5_seed := by decide +kernel
theorem kX5_seed_f145 : Cond.fieldLink RX5 145 "TwoMinutes$Town" "z" "I" ∈ wsX5_seed := by decide +kernel
theorem qd_X5_seed : yX5_seed.cls = RX5 ∧ yX5_seed.cls ≠ "java/lang/invoke/MethodHandle" ∧ yX5_seed.cls ≠ "java/lang/invoke/VarHandle" ∧ (parseMethodDescriptor yX5_seed.desc).map (fun d => d.parameters.length) = some 1 := by decide +kernel
abbrev rmX5_seed : Room := { frames := 0, cells := 0, slots := 0, locals := 0 }
set_option maxHeartbeats 4000000 in
set_option maxRecDepth 100000 in
theorem c_X5_seed (τ : SX) (a : Nat → Nat) (rws : Nat → Int32) (isv : Int32) (rc : Int32) (nlw : Nat → Int32) (nkd : Nat → Int32) (nbt : Nat → Int32) (nph : Nat → Int32) (ncn : Nat → Int32) (nno : Nat → Int32) (nct : Int32) (nsc : Int32) (nrn : Int32) (nlg : Int32) (ndn : Int32) (nzz : Int32) (x1 : Int32) (hrc0 : 0 ≤ rc.toInt) (hrc : rc.toInt ≤ 10) (hn0 : 0 ≤ nct.toInt) (hn : nct.toInt ≤ 8) (sz : Nat) : McI τ yX5_seed wsX5_seed rmX5_seed .int [.ref (a 0), .int x1] ((wX τ a rws isv rc) ++ (wT τ (fun j => a (10 + j)) nlw nkd nbt nph ncn nno nct nsc nrn nlg ndn nzz)) (fun u : Int32 => ((wX τ a rws isv rc) ++ (wT τ (fun j => a (10 + j)) nlw nkd nbt nph ncn nno nct nsc nrn nlg ndn u))) (f_X5_seed nzz x1) sz := by
  refine mc_I (cc := cX5_seed) (own := RX5) [(0, .ref (a 0)), (1, .int x1)] rfl (by decide) rfl rfl (Nat.le_of_ble_eq_true rfl) (fun κ C hR => ?_)
  have hiX4 : ∀ w ∈ wsX40, w ∈ wsX5_seed := fun w h => List.mem_cons_of_mem _ (List.mem_append_right _ h)
  have hiX5 : ∀ w ∈ wsX50, w ∈ wsX5_seed := fun w h => List.mem_cons_of_mem _ (List.mem_append_left _ (List.mem_append_right _ h))
  unfold f_X5_seed at hR
  refine j_aload_n C dX5_seed_0 1 rfl rfl 0 rfl ?_
  refine j_get C dX5_seed_1 4 rfl hiX5 0 rfl rfl 0 (by decide) rfl kX5_seed_f10 rfl ?_
  refine j_get C dX5_seed_4 7 rfl hiX4 4 rfl rfl 11 (by decide) rfl kX5_seed_f145 rfl ?_
  refine j_istore_n C dX5_seed_7 8 rfl rfl (by decide) [(2, .int nzz), (0, .ref (a 0)), (1, .int x1)] rfl ?_
  refine j_aload_n C dX5_seed_8 9 rfl rfl 1 rfl ?_
  refine j_get C dX5_seed_9 12 rfl hiX5 0 rfl rfl 0 (by decide) rfl kX5_seed_f10 rfl ?_
  refine j_iload_n C dX5_seed_12 13 rfl rfl 2 rfl ?_
  refine j_put C dX5_seed_13 16 rfl hiX4 tyX4_ok nmX4 4 rfl rfl 11 (by decide) rfl kX5_seed_f145 rfl rfl rfl (Nat.le_of_ble_eq_true rfl) ((wX τ a rws isv rc) ++ (wT τ (fun j => a (10 + j)) nlw nkd nbt nph ncn nno nct nsc nrn nlg ndn x1)) rfl ?_
  refine j_iload_n C dX5_seed_16 17 rfl rfl 0 rfl ?_
  exact Rt.ret (hR) rfl dX5_seed_17

-- X5_state main now
def f_X5_state (nlw : Nat → Int32) (nkd : Nat → Int32) (nbt : Nat → Int32) (nph : Nat → Int32) (nno : Nat → Int32) (nct : Int32) (nsc : Int32) (nrn : Int32) (nlg : Int32) (ndn : Int32) (x1 : Int32) : Int32 := (if x1 = 0 then nsc else (if x1 = 1 then nrn else (if x1 = 2 then nlg else (if x1 = 3 then ndn else (if x1 = 4 then (f_X4_noiseOfAll nno nct) else (if x1 = 5 then (f_X4_soundingSet nlw nkd nbt nph nct nsc nrn) else ((-1) : Int32)))))))
theorem kX5_state_f10 : Cond.fieldLink RX5 10 "TwoMinutes" "now" "LTwoMinutes$Town;" ∈ wsX5_state := by decide +kernel
theorem kX5_state_f154 : Cond.fieldLink RX5 154 "TwoMinutes$Town" "second" "I" ∈ wsX5_state := by decide +kernel
theorem kX5_state_f142 : Cond.fieldLink RX5 142 "TwoMinutes$Town" "run" "I" ∈ wsX5_state := by decide +kernel
theorem kX5_state_f157 : Cond.fieldLink RX5 157 "TwoMinutes$Town" "longest" "I" ∈ wsX5_state := by decide +kernel
theorem kX5_state_f160 : Cond.fieldLink RX5 160 "TwoMinutes$Town" "done" "I" ∈ wsX5_state := by decide +kernel
theorem qd_X5_state : yX5_state.cls = RX5 ∧ yX5_state.cls ≠ "java/lang/invoke/MethodHandle" ∧ yX5_state.cls ≠ "java/lang/invoke/VarHandle" ∧ (parseMethodDescriptor yX5_state.desc).map (fun d => d.parameters.length) = some 1 := by decide +kernel
abbrev rmX5_state : Room := { frames := 4, cells := 0, slots := 0, locals := 86 }
set_option maxHeartbeats 4000000 in
set_option maxRecDepth 100000 in
theorem c_X5_state (τ : SX) (a : Nat → Nat) (rws : Nat → Int32) (isv : Int32) (rc : Int32) (nlw : Nat → Int32) (nkd : Nat → Int32) (nbt : Nat → Int32) (nph : Nat → Int32) (ncn : Nat → Int32) (nno : Nat → Int32) (nct : Int32) (nsc : Int32) (nrn : Int32) (nlg : Int32) (ndn : Int32) (nzz : Int32) (x1 : Int32) (hrc0 : 0 ≤ rc.toInt) (hrc : rc.toInt ≤ 10) (hn0 : 0 ≤ nct.toInt) (hn : nct.toInt ≤ 8) (sz : Nat) : McI τ yX5_state wsX5_state rmX5_state .int [.ref (a 0), .int x1] ((wX τ a rws isv rc) ++ (wT τ (fun j => a (10 + j)) nlw nkd nbt nph ncn nno nct nsc nrn nlg ndn nzz)) (fun _ : Unit => ((wX τ a rws isv rc) ++ (wT τ (fun j => a (10 + j)) nlw nkd nbt nph ncn nno nct nsc nrn nlg ndn nzz))) (f_X5_state nlw nkd nbt nph nno nct nsc nrn nlg ndn x1, ()) sz := by
  refine mc_I (cc := cX5_state) (own := RX5) [(0, .ref (a 0)), (1, .int x1)] rfl (by decide) rfl rfl (Nat.le_of_ble_eq_true rfl) (fun κ C hR => ?_)
  have hiX4 : ∀ w ∈ wsX40, w ∈ wsX5_state := fun w h => List.mem_cons_of_mem _ (List.mem_append_right _ h)
  have hiX5 : ∀ w ∈ wsX50, w ∈ wsX5_state := fun w h => List.mem_cons_of_mem _ (List.mem_append_left _ (List.mem_append_right _ h))
  unfold f_X5_state at hR
  refine j_iload_n C dX5_state_0 1 rfl rfl 1 rfl ?_
  by_cases c1 : x1 = 0
  · rw [if_pos c1] at hR
    refine j_tabIn C dX5_state_1 (by rw [c1]; decide) (by rw [c1]; decide) (by rw [c1]; rfl) 40 rfl ?_
    refine j_aload_n C dX5_state_40 41 rfl rfl 0 rfl ?_
    refine j_get C dX5_state_41 44 rfl hiX5 0 rfl rfl 0 (by decide) rfl kX5_state_f10 rfl ?_
    refine j_get C dX5_state_44 47 rfl hiX4 4 rfl rfl 7 (by decide) rfl kX5_state_f154 rfl ?_
    exact Rt.ret (hR) rfl dX5_state_47
  rw [if_neg c1] at hR
  by_cases c2 : x1 = 1
  · rw [if_pos c2] at hR
    refine j_tabIn C dX5_state_1 (by rw [c2]; decide) (by rw [c2]; decide) (by rw [c2]; rfl) 48 rfl ?_
    refine j_aload_n C dX5_state_48 49 rfl rfl 0 rfl ?_
    refine j_get C dX5_state_49 52 rfl hiX5 0 rfl rfl 0 (by decide) rfl kX5_state_f10 rfl ?_
    refine j_get C dX5_state_52 55 rfl hiX4 4 rfl rfl 8 (by decide) rfl kX5_state_f142 rfl ?_
    exact Rt.ret (hR) rfl dX5_state_55
  rw [if_neg c2] at hR
  by_cases c3 : x1 = 2
  · rw [if_pos c3] at hR
    refine j_tabIn C dX5_state_1 (by rw [c3]; decide) (by rw [c3]; decide) (by rw [c3]; rfl) 56 rfl ?_
    refine j_aload_n C dX5_state_56 57 rfl rfl 0 rfl ?_
    refine j_get C dX5_state_57 60 rfl hiX5 0 rfl rfl 0 (by decide) rfl kX5_state_f10 rfl ?_
    refine j_get C dX5_state_60 63 rfl hiX4 4 rfl rfl 9 (by decide) rfl kX5_state_f157 rfl ?_
    exact Rt.ret (hR) rfl dX5_state_63
  rw [if_neg c3] at hR
  by_cases c4 : x1 = 3
  · rw [if_pos c4] at hR
    refine j_tabIn C dX5_state_1 (by rw [c4]; decide) (by rw [c4]; decide) (by rw [c4]; rfl) 64 rfl ?_
    refine j_aload_n C dX5_state_64 65 rfl rfl 0 rfl ?_
    refine j_get C dX5_state_65 68 rfl hiX5 0 rfl rfl 0 (by decide) rfl kX5_state_f10 rfl ?_
    refine j_get C dX5_state_68 71 rfl hiX4 4 rfl rfl 10 (by decide) rfl kX5_state_f160 rfl ?_
    exact Rt.ret (hR) rfl dX5_state_71
  rw [if_neg c4] at hR
  by_cases c6 : x1 = 4
  · rw [if_pos c6] at hR
    refine j_tabIn C dX5_state_1 (by rw [c6]; decide) (by rw [c6]; decide) (by rw [c6]; rfl) 72 rfl ?_
    refine j_aload_n C dX5_state_72 73 rfl rfl 0 rfl ?_
    refine j_get C dX5_state_73 76 rfl hiX5 0 rfl rfl 0 (by decide) rfl kX5_state_f10 rfl ?_
    refine j_cvI (na := 0) C dX5_state_76 79 rfl (c_X4_noiseOfAll τ (fun j => a (10 + j)) nlw nkd nbt nph ncn nno nct nsc nrn nlg ndn nzz (by first | assumption | decide | exact in_has (by assumption) hn0 hn | exact (in_trial (by assumption) hn0 hn).1 | exact (in_trial (by assumption) hn0 hn).2.2 | exact in_isIn4 (by assumption) | exact in_isIn60 (by assumption) | exact in_isIn30 (by assumption) | exact in_sheet (by assumption) | exact in_shelf (by assumption) | exact vp_in_iff.mpr ⟨by omega, by omega⟩ | exact nz_nle (by assumption) | exact nz_lt (by assumption) | omega)) gX5_state_X4_noiseOfAll rfl rfl rfl qd_X4_noiseOfAll rfl ⟨by decide, by decide⟩ ⟨by decide, by decide⟩ rfl (Nat.le_of_ble_eq_true rfl) [4, 5, 6, 7, 8, 9, 10] [0, 1, 2, 3] [0, 1, 2, 3, 4, 5, 6, 7, 8, 9, 10] ((wX τ a rws isv rc)) rfl (by decide) rfl (by decide) (by decide) 4 0 rfl rfl (fun u => ((wX τ a rws isv rc) ++ (wT τ (fun j => a (10 + j)) nlw nkd nbt nph ncn nno nct nsc nrn nlg ndn nzz))) (fun _ => rfl) (by decide) (fun r5 u5 hX5 hn5 => ?_)
    obtain rfl := (Prod.mk.inj hX5).1
    exact Rt.ret (hR) rfl dX5_state_79
  rw [if_neg c6] at hR
  by_cases c8 : x1 = 5
  · rw [if_pos c8] at hR
    refine j_tabIn C dX5_state_1 (by rw [c8]; decide) (by rw [c8]; decide) (by rw [c8]; rfl) 80 rfl ?_
    refine j_aload_n C dX5_state_80 81 rfl rfl 0 rfl ?_
    refine j_get C dX5_state_81 84 rfl hiX5 0 rfl rfl 0 (by decide) rfl kX5_state_f10 rfl ?_
    refine j_cvI (na := 0) C dX5_state_84 87 rfl (c_X4_soundingSet τ (fun j => a (10 + j)) nlw nkd nbt nph ncn nno nct nsc nrn nlg ndn nzz (by first | assumption | decide | exact in_has (by assumption) hn0 hn | exact (in_trial (by assumption) hn0 hn).1 | exact (in_trial (by assumption) hn0 hn).2.2 | exact in_isIn4 (by assumption) | exact in_isIn60 (by assumption) | exact in_isIn30 (by assumption) | exact in_sheet (by assumption) | exact in_shelf (by assumption) | exact vp_in_iff.mpr ⟨by omega, by omega⟩ | exact nz_nle (by assumption) | exact nz_lt (by assumption) | omega)) gX5_state_X4_soundingSet rfl rfl rfl qd_X4_soundingSet rfl ⟨by decide, by decide⟩ ⟨by decide, by decide⟩ rfl (Nat.le_of_ble_eq_true rfl) [4, 5, 6, 7, 8, 9, 10] [0, 1, 2, 3] [0, 1, 2, 3, 4, 5, 6, 7, 8, 9, 10] ((wX τ a rws isv rc)) rfl (by decide) rfl (by decide) (by decide) 4 0 rfl rfl (fun u => ((wX τ a rws isv rc) ++ (wT τ (fun j => a (10 + j)) nlw nkd nbt nph ncn nno nct nsc nrn nlg ndn nzz))) (fun _ => rfl) (by decide) (fun r7 u7 hX7 hn7 => ?_)
    obtain rfl := (Prod.mk.inj hX7).1
    exact Rt.ret (hR) rfl dX5_state_87
  rw [if_neg c8] at hR
  refine j_tabOut C dX5_state_1 (by have n1 := lv_neT (a := 0) c1 (by decide); have n2 := lv_neT (a := 1) c2 (by decide); have n3 := lv_neT (a := 2) c3 (by decide); have n4 := lv_neT (a := 3) c4 (by decide); have n6 := lv_neT (a := 4) c6 (by decide); have n8 := lv_neT (a := 5) c8 (by decide); omega) 88 rfl ?_
  refine j_iconst (v := (-1)) C dX5_state_88 89 rfl (by decide) ?_
  exact Rt.ret (hR) rfl dX5_state_89

-- X5_anew main now
def f_X5_anew (nno : Nat → Int32) (nrn : Int32) : Int32 × (Nat → Int32) × Int32 × Int32 × Int32 := pr4 (f_X4_forget nno) (fun nno_1 nrn_1 nlg_1 ndn_1 => (nrn, nno_1, nrn_1, nlg_1, ndn_1))
theorem kX5_anew_f10 : Cond.fieldLink RX5 10 "TwoMinutes" "now" "LTwoMinutes$Town;" ∈ wsX5_anew := by decide +kernel
theorem kX5_anew_f142 : Cond.fieldLink RX5 142 "TwoMinutes$Town" "run" "I" ∈ wsX5_anew := by decide +kernel
theorem qd_X5_anew : yX5_anew.cls = RX5 ∧ yX5_anew.cls ≠ "java/lang/invoke/MethodHandle" ∧ yX5_anew.cls ≠ "java/lang/invoke/VarHandle" ∧ (parseMethodDescriptor yX5_anew.desc).map (fun d => d.parameters.length) = some 0 := by decide +kernel
abbrev rmX5_anew : Room := { frames := 1, cells := 0, slots := 0, locals := 21 }
set_option maxHeartbeats 4000000 in
set_option maxRecDepth 100000 in
theorem c_X5_anew (τ : SX) (a : Nat → Nat) (rws : Nat → Int32) (isv : Int32) (rc : Int32) (nlw : Nat → Int32) (nkd : Nat → Int32) (nbt : Nat → Int32) (nph : Nat → Int32) (ncn : Nat → Int32) (nno : Nat → Int32) (nct : Int32) (nsc : Int32) (nrn : Int32) (nlg : Int32) (ndn : Int32) (nzz : Int32) (hrc0 : 0 ≤ rc.toInt) (hrc : rc.toInt ≤ 10) (hn0 : 0 ≤ nct.toInt) (hn : nct.toInt ≤ 8) (sz : Nat) : McI τ yX5_anew wsX5_anew rmX5_anew .int [.ref (a 0)] ((wX τ a rws isv rc) ++ (wT τ (fun j => a (10 + j)) nlw nkd nbt nph ncn nno nct nsc nrn nlg ndn nzz)) (fun u : (Nat → Int32) × Int32 × Int32 × Int32 => ((wX τ a rws isv rc) ++ (wT τ (fun j => a (10 + j)) nlw nkd nbt nph ncn u.1 nct nsc u.2.1 u.2.2.1 u.2.2.2 nzz))) (f_X5_anew nno nrn) sz := by
  refine mc_I (cc := cX5_anew) (own := RX5) [(0, .ref (a 0))] rfl (by decide) rfl rfl (Nat.le_of_ble_eq_true rfl) (fun κ C hR => ?_)
  have hiX4 : ∀ w ∈ wsX40, w ∈ wsX5_anew := fun w h => List.mem_cons_of_mem _ (List.mem_append_right _ h)
  have hiX5 : ∀ w ∈ wsX50, w ∈ wsX5_anew := fun w h => List.mem_cons_of_mem _ (List.mem_append_left _ (List.mem_append_right _ h))
  unfold f_X5_anew at hR
  refine j_aload_n C dX5_anew_0 1 rfl rfl 0 rfl ?_
  refine j_get C dX5_anew_1 4 rfl hiX5 0 rfl rfl 0 (by decide) rfl kX5_anew_f10 rfl ?_
  refine j_get C dX5_anew_4 7 rfl hiX4 4 rfl rfl 8 (by decide) rfl kX5_anew_f142 rfl ?_
  refine j_istore_n C dX5_anew_7 8 rfl rfl (by decide) [(1, .int nrn), (0, .ref (a 0))] rfl ?_
  refine j_aload_n C dX5_anew_8 9 rfl rfl 1 rfl ?_
  refine j_get C dX5_anew_9 12 rfl hiX5 0 rfl rfl 0 (by decide) rfl kX5_anew_f10 rfl ?_
  refine j_cvV (na := 0) C dX5_anew_12 15 rfl (c_X4_forget τ (fun j => a (10 + j)) nlw nkd nbt nph ncn nno nct nsc nrn nlg ndn nzz ) gX5_anew_X4_forget rfl rfl rfl qd_X4_forget rfl ⟨by decide, by decide⟩ ⟨by decide, by decide⟩ rfl (Nat.le_of_ble_eq_true rfl) [4, 5, 6, 7, 8, 9, 10] [0, 1, 2, 3] [0, 1, 2, 3, 4, 5, 6, 7, 8, 9, 10] ((wX τ a rws isv rc)) rfl (by decide) rfl (by decide) (by decide) 4 0 rfl rfl (fun u => ((wX τ a rws isv rc) ++ (wT τ (fun j => a (10 + j)) nlw nkd nbt nph ncn u.1 nct nsc u.2.1 u.2.2.1 u.2.2.2 nzz))) (fun _ => rfl) (by decide) (fun u1 hX1 => ?_)
  obtain ⟨nno_1, nrn_1, nlg_1, ndn_1⟩ := u1
  rw [hX1] at hR; rw [pr4_mk nno_1 nrn_1 nlg_1 ndn_1] at hR
  refine j_iload_n C dX5_anew_15 16 rfl rfl 0 rfl ?_
  exact Rt.ret (hR) rfl dX5_anew_16

-- X5_row main
def f_X5_row (rws : Nat → Int32) (rc : Int32) (x1 : Int32) (x2 : Int32) : Int32 := if ((f_X5_isCell rc x1 x2) = 0) then ((-9) : Int32) else (rws (((x1 * 3) + x2)).toNatClampNeg)
theorem kX5_row_f29 : Cond.fieldLink RX5 29 "TwoMinutes" "rows" "[I" ∈ wsX5_row := by decide +kernel
theorem qd_X5_row : yX5_row.cls = RX5 ∧ yX5_row.cls ≠ "java/lang/invoke/MethodHandle" ∧ yX5_row.cls ≠ "java/lang/invoke/VarHandle" ∧ (parseMethodDescriptor yX5_row.desc).map (fun d => d.parameters.length) = some 2 := by decide +kernel
abbrev rmX5_row : Room := { frames := 2, cells := 0, slots := 0, locals := 44 }
set_option maxHeartbeats 4000000 in
set_option maxRecDepth 100000 in
theorem c_X5_row (τ : SX) (a : Nat → Nat) (rws : Nat → Int32) (isv : Int32) (rc : Int32) (x1 : Int32) (x2 : Int32) (hrc0 : 0 ≤ rc.toInt) (hrc : rc.toInt ≤ 10) (sz : Nat) : McI τ yX5_row wsX5_row rmX5_row .int [.ref (a 0), .int x1, .int x2] (wX τ a rws isv rc) (fun _ : Unit => (wX τ a rws isv rc)) (f_X5_row rws rc x1 x2, ()) sz := by
  refine mc_I (cc := cX5_row) (own := RX5) [(0, .ref (a 0)), (1, .int x1), (2, .int x2)] rfl (by decide) rfl rfl (Nat.le_of_ble_eq_true rfl) (fun κ C hR => ?_)
  have hiX5 : ∀ w ∈ wsX50, w ∈ wsX5_row := fun w h => List.mem_cons_of_mem _ (List.mem_append_right _ h)
  unfold f_X5_row at hR
  refine j_aload_n C dX5_row_0 1 rfl rfl 0 rfl ?_
  refine j_iload_n C dX5_row_1 2 rfl rfl 1 rfl ?_
  refine j_iload_n C dX5_row_2 3 rfl rfl 2 rfl ?_
  refine j_cv0I (na := 2) C dX5_row_3 6 rfl (c_X5_isCell τ a rws isv rc x1 x2 (by first | assumption | exact in_cell (by assumption) hrc0 hrc) (by first | assumption | exact in_cell (by assumption) hrc0 hrc)) gX5_row_X5_isCell rfl rfl rfl qd_X5_isCell rfl ⟨by decide, by decide⟩ ⟨by decide, by decide⟩ rfl (Nat.le_of_ble_eq_true rfl) rfl 5 0 rfl rfl (fun r1 u1 hX1 hn1 => ?_)
  obtain rfl := (Prod.mk.inj hX1).1
  refine j_if_eq C dX5_row_6 22 rfl 9 rfl (fun c2 => ?_) (fun c2 => ?_)
  · rw [if_pos c2] at hR
    refine j_bipush (v := (-9)) C dX5_row_22 24 rfl (by decide) ?_
    exact Rt.ret (hR) rfl dX5_row_24
  · rw [if_neg c2] at hR
    refine j_aload_n C dX5_row_9 10 rfl rfl 0 rfl ?_
    refine j_get C dX5_row_10 13 rfl hiX5 0 rfl rfl 5 (by decide) rfl kX5_row_f29 rfl ?_
    refine j_iload_n C dX5_row_13 14 rfl rfl 1 rfl ?_
    refine j_iconst (v := 3) C dX5_row_14 15 rfl (by decide) ?_
    refine j_imul C dX5_row_15 16 rfl ?_
    refine j_iload_n C dX5_row_16 17 rfl rfl 2 rfl ?_
    refine j_iadd C dX5_row_17 18 rfl ?_
    refine j_iald C dX5_row_18 19 rfl 1 rfl (by first | assumption | exact in_cell (by assumption) hrc0 hrc) (((x1 * 3) + x2)).toNatClampNeg rfl ?_
    refine j_goto C dX5_row_19 24 rfl ?_
    exact Rt.ret (hR) rfl dX5_row_24

-- X5_alterRow main
def f_X5_alterRow (rws : Nat → Int32) (rc : Int32) (x1 : Int32) (x2 : Int32) (x3 : Int32) : Int32 × (Nat → Int32) := if ((f_X5_isCell rc x1 x2) = 0) then (((-9) : Int32), rws) else ((rws (((x1 * 3) + x2)).toNatClampNeg), (upd rws (((x1 * 3) + x2)).toNatClampNeg x3))
theorem kX5_alterRow_f29 : Cond.fieldLink RX5 29 "TwoMinutes" "rows" "[I" ∈ wsX5_alterRow := by decide +kernel
theorem qd_X5_alterRow : yX5_alterRow.cls = RX5 ∧ yX5_alterRow.cls ≠ "java/lang/invoke/MethodHandle" ∧ yX5_alterRow.cls ≠ "java/lang/invoke/VarHandle" ∧ (parseMethodDescriptor yX5_alterRow.desc).map (fun d => d.parameters.length) = some 3 := by decide +kernel
abbrev rmX5_alterRow : Room := { frames := 2, cells := 0, slots := 0, locals := 44 }
set_option maxHeartbeats 4000000 in
set_option maxRecDepth 100000 in
theorem c_X5_alterRow (τ : SX) (a : Nat → Nat) (rws : Nat → Int32) (isv : Int32) (rc : Int32) (x1 : Int32) (x2 : Int32) (x3 : Int32) (hrc0 : 0 ≤ rc.toInt) (hrc : rc.toInt ≤ 10) (sz : Nat) : McI τ yX5_alterRow wsX5_alterRow rmX5_alterRow .int [.ref (a 0), .int x1, .int x2, .int x3] (wX τ a rws isv rc) (fun u : (Nat → Int32) => (wX τ a u isv rc)) (f_X5_alterRow rws rc x1 x2 x3) sz := by
  refine mc_I (cc := cX5_alterRow) (own := RX5) [(0, .ref (a 0)), (1, .int x1), (2, .int x2), (3, .int x3)] rfl (by decide) rfl rfl (Nat.le_of_ble_eq_true rfl) (fun κ C hR => ?_)
  have hiX5 : ∀ w ∈ wsX50, w ∈ wsX5_alterRow := fun w h => List.mem_cons_of_mem _ (List.mem_append_right _ h)
  unfold f_X5_alterRow at hR
  refine j_aload_n C dX5_alterRow_0 1 rfl rfl 0 rfl ?_
  refine j_iload_n C dX5_alterRow_1 2 rfl rfl 1 rfl ?_
  refine j_iload_n C dX5_alterRow_2 3 rfl rfl 2 rfl ?_
  refine j_cv0I (na := 2) C dX5_alterRow_3 6 rfl (c_X5_isCell τ a rws isv rc x1 x2 (by first | assumption | exact in_cell (by assumption) hrc0 hrc) (by first | assumption | exact in_cell (by assumption) hrc0 hrc)) gX5_alterRow_X5_isCell rfl rfl rfl qd_X5_isCell rfl ⟨by decide, by decide⟩ ⟨by decide, by decide⟩ rfl (Nat.le_of_ble_eq_true rfl) rfl 5 0 rfl rfl (fun r1 u1 hX1 hn1 => ?_)
  obtain rfl := (Prod.mk.inj hX1).1
  refine j_if_ne C dX5_alterRow_6 12 rfl 9 rfl (fun c2 => ?_) (fun c2 => ?_)
  · rw [if_neg c2] at hR
    refine j_aload_n C dX5_alterRow_12 13 rfl rfl 0 rfl ?_
    refine j_get C dX5_alterRow_13 16 rfl hiX5 0 rfl rfl 5 (by decide) rfl kX5_alterRow_f29 rfl ?_
    refine j_iload_n C dX5_alterRow_16 17 rfl rfl 1 rfl ?_
    refine j_iconst (v := 3) C dX5_alterRow_17 18 rfl (by decide) ?_
    refine j_imul C dX5_alterRow_18 19 rfl ?_
    refine j_iload_n C dX5_alterRow_19 20 rfl rfl 2 rfl ?_
    refine j_iadd C dX5_alterRow_20 21 rfl ?_
    refine j_iald C dX5_alterRow_21 22 rfl 1 rfl (by first | assumption | exact in_cell (by assumption) hrc0 hrc) (((x1 * 3) + x2)).toNatClampNeg rfl ?_
    refine j_istore C dX5_alterRow_22 24 rfl (by decide) [(4, .int (rws (((x1 * 3) + x2)).toNatClampNeg)), (0, .ref (a 0)), (1, .int x1), (2, .int x2), (3, .int x3)] rfl ?_
    refine j_aload_n C dX5_alterRow_24 25 rfl rfl 1 rfl ?_
    refine j_get C dX5_alterRow_25 28 rfl hiX5 0 rfl rfl 5 (by decide) rfl kX5_alterRow_f29 rfl ?_
    refine j_iload_n C dX5_alterRow_28 29 rfl rfl 2 rfl ?_
    refine j_iconst (v := 3) C dX5_alterRow_29 30 rfl (by decide) ?_
    refine j_imul C dX5_alterRow_30 31 rfl ?_
    refine j_iload_n C dX5_alterRow_31 32 rfl rfl 3 rfl ?_
    refine j_iadd C dX5_alterRow_32 33 rfl ?_
    refine j_iload_n C dX5_alterRow_33 34 rfl rfl 4 rfl ?_
    refine j_iast C dX5_alterRow_34 35 rfl 1 rfl (by first | assumption | exact in_cell (by assumption) hrc0 hrc) (((x1 * 3) + x2)).toNatClampNeg rfl (wX τ a (upd rws (((x1 * 3) + x2)).toNatClampNeg x3) isv rc) rfl ?_
    refine j_iload C dX5_alterRow_35 37 rfl 0 rfl ?_
    exact Rt.ret (hR) rfl dX5_alterRow_37
  · rw [if_pos c2] at hR
    refine j_bipush (v := (-9)) C dX5_alterRow_9 11 rfl (by decide) ?_
    exact Rt.ret (hR) rfl dX5_alterRow_11

