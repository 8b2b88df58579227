-- X3_isName
def l_X3_isName__n0_39 (bs : Nat → Int32) (fr : Int32) : Nat → Int32 → (Int32) ⊕ (Int32)
  | 0, x2 => Sum.inl x2
  | N + 1, x2 => if (9 ≤ x2) then (Sum.inl x2) else (if ((bs ((fr + x2)).toNatClampNeg) = (kch 0 (x2).toNatClampNeg)) then (l_X3_isName__n0_39 bs fr N (x2 + 1)) else (Sum.inr (0 : Int32)))
def f_X3_isName__n0 (bs : Nat → Int32) (tz : Int32) (so : Int32) (fr : Int32) (tt : Int32) : Int32 := if (so = 1) then (if ((tt - fr) = 9) then (if (tt ≤ tz) then (sm (l_X3_isName__n0_39 bs fr 300 (0 : Int32)) (fun (z5 : Int32) => pr1 z5 (fun x2_5 => (1 : Int32))) (fun X => X)) else (0 : Int32)) else (0 : Int32)) else (0 : Int32)
theorem kX3_isName__n0_f28 : Cond.fieldLink RX3 28 "TwoMinutes$Tape" "sort" "I" ∈ wsX3_isName := by decide +kernel
theorem kX3_isName__n0_f22 : Cond.fieldLink RX3 22 "TwoMinutes$Tape" "to" "I" ∈ wsX3_isName := by decide +kernel
theorem kX3_isName__n0_f94 : Cond.fieldLink RX3 94 "TwoMinutes$Tape" "from" "I" ∈ wsX3_isName := by decide +kernel
theorem kX3_isName__n0_f15 : Cond.fieldLink RX3 15 "TwoMinutes$Tape" "size" "I" ∈ wsX3_isName := by decide +kernel
theorem kX3_isName__n0_f11 : Cond.fieldLink RX3 11 "TwoMinutes$Tape" "bytes" "[I" ∈ wsX3_isName := by decide +kernel
theorem qd_X3_isName__n0 : yX3_isName.cls = RX3 ∧ yX3_isName.cls ≠ "java/lang/invoke/MethodHandle" ∧ yX3_isName.cls ≠ "java/lang/invoke/VarHandle" ∧ (parseMethodDescriptor yX3_isName.desc).map (fun d => d.parameters.length) = some 1 := by decide +kernel
abbrev rmX3_isName__n0 : Room := { frames := 4, cells := 0, slots := 0, locals := 85 }
set_option maxHeartbeats 4000000 in
set_option maxRecDepth 100000 in
theorem L_X3_isName__n0_39 {τ : SX} {κ : KX} (C : Cx τ κ cX3_isName RX3 wsX3_isName rmX3_isName__n0 3) (a : Nat → Nat) (bs : Nat → Int32) (tz : Int32) (so : Int32) (fr : Int32) (tt : Int32) (ft : Int32) (hf : TN fr) (hb : fr.toInt + 9 ≤ 200) (Φ : (Int32) ⊕ (Int32) → Prop) (hE : ∀ (x2 : Int32), Φ (Sum.inl x2) → J τ κ 0 0 (wP τ a bs tz so fr tt ft) [(0, .ref (a 0)), (1, .ref (τ.2.2.2 (100 + 0))), (2, .int x2)] 74 []) (hRet : ∀ X, Φ (Sum.inr X) → Rt τ κ cX3_isName .boolean (fun _ : Unit => (wP τ a bs tz so fr tt ft)) ((X, ()))) : ∀ (N : Nat) (x2 : Int32), ((9 : Int) - x2.toInt).toNat < N → (0 ≤ x2.toInt) → (x2.toInt ≤ 9) → Φ (l_X3_isName__n0_39 bs fr N x2) → J τ κ 0 0 (wP τ a bs tz so fr tt ft) [(0, .ref (a 0)), (1, .ref (τ.2.2.2 (100 + 0))), (2, .int x2)] 39 [] := by
  have hiX3 : ∀ w ∈ wsX30, w ∈ wsX3_isName := fun w h => List.mem_cons_of_mem _ (List.mem_append_right _ h)
  intro N
  induction N with
  | zero => intro x2 hm; exact absurd hm (Nat.not_lt_zero _)
  | succ N ih =>
    intro x2 hm h0 h1 hR
    rw [l_X3_isName__n0_39] at hR
    refine j_iload_n C dX3_isName_39 40 rfl rfl 2 rfl ?_
    refine j_aload_n C dX3_isName_40 41 rfl rfl 1 rfl ?_
    refine j_cvKI (na := 0) C (i := 0) (by decide) dX3_isName_41 44 rfl (c_J0_length τ 0 (by decide) 9 rfl) rfl gX3_isName_J0_length_8abf5 rfl rfl rfl qdK2 rfl ⟨by decide, by decide⟩ ⟨by decide, by decide⟩ rfl (Nat.le_of_ble_eq_true rfl) (fun r6 u6 hX6 hn6 => ?_)
    obtain rfl := (Prod.mk.inj hX6).1
    refine j_icmp_ge C dX3_isName_44 74 rfl 47 rfl (fun c7 => ?_) (fun c7 => ?_)
    · rw [if_pos c7] at hR
      exact j_lv [0, 1, 2] [(0, .ref (a 0)), (1, .ref (τ.2.2.2 (100 + 0))), (2, .int x2)] rfl (hE _  hR)
    · rw [if_neg c7] at hR
      have hs := cnt_step (B := 9) h0 (by decide) (by decide) c7
      refine j_aload_n C dX3_isName_47 48 rfl rfl 0 rfl ?_
      refine j_get C dX3_isName_48 51 rfl hiX3 0 rfl rfl 0 (by decide) rfl kX3_isName__n0_f11 rfl ?_
      refine j_aload_n C dX3_isName_51 52 rfl rfl 0 rfl ?_
      refine j_get C dX3_isName_52 55 rfl hiX3 0 rfl rfl 3 (by decide) rfl kX3_isName__n0_f94 rfl ?_
      refine j_iload_n C dX3_isName_55 56 rfl rfl 2 rfl ?_
      refine j_iadd C dX3_isName_56 57 rfl ?_
      refine j_iald C dX3_isName_57 58 rfl 1 rfl (nm_in hf hb h0 hs.2.2.2) ((fr + x2)).toNatClampNeg rfl ?_
      refine j_aload_n C dX3_isName_58 59 rfl rfl 1 rfl ?_
      refine j_iload_n C dX3_isName_59 60 rfl rfl 2 rfl ?_
      refine j_cvKI (na := 1) C (i := 0) (by decide) dX3_isName_60 63 rfl (c_J0_charAt τ 0 (by decide) x2 (vpI h0 hs.2.2.2)) rfl gX3_isName_J0_charAt_5068e rfl rfl rfl qdK3 rfl ⟨by decide, by decide⟩ ⟨by decide, by decide⟩ rfl (Nat.le_of_ble_eq_true rfl) (fun r8 u8 hX8 hn8 => ?_)
      obtain rfl := (Prod.mk.inj hX8).1
      refine j_icmp_eq C dX3_isName_63 68 rfl 66 rfl (fun c9 => ?_) (fun c9 => ?_)
      · rw [if_pos c9] at hR
        refine j_iinc (v := (x2 + 1)) C dX3_isName_68 71 rfl 2 rfl rfl (by decide) [(2, .int (x2 + 1)), (0, .ref (a 0)), (1, .ref (τ.2.2.2 (100 + 0)))] rfl ?_
        refine j_goto C dX3_isName_71 39 rfl ?_
        exact j_lv [1, 2, 0] [(0, .ref (a 0)), (1, .ref (τ.2.2.2 (100 + 0))), (2, .int (x2 + 1))] rfl (ih _ (by have := hs.2.2.1; omega) hs.1 hs.2.1 hR)
      · rw [if_neg c9] at hR
        refine j_iconst (v := 0) C dX3_isName_66 67 rfl (by decide) ?_
        exact Rt.ret (hRet _ hR) (show narrow .boolean (.int (0 : Int32)) = .int (0 : Int32) from rfl) dX3_isName_67
set_option maxHeartbeats 4000000 in
set_option maxRecDepth 100000 in
theorem c_X3_isName__n0 (τ : SX) (a : Nat → Nat) (bs : Nat → Int32) (tz : Int32) (so : Int32) (fr : Int32) (tt : Int32) (ft : Int32) (hn : TN tz) (hf : TN fr) (ht : TN tt) (sz : Nat) : McI τ yX3_isName wsX3_isName rmX3_isName__n0 .boolean [.ref (a 0), .ref (τ.2.2.2 (100 + 0))] (wP τ a bs tz so fr tt ft) (fun _ : Unit => (wP τ a bs tz so fr tt ft)) (f_X3_isName__n0 bs tz so fr tt, ()) sz := by
  refine mc_I (cc := cX3_isName) (own := RX3) [(0, .ref (a 0)), (1, .ref (τ.2.2.2 (100 + 0)))] rfl (by decide) rfl rfl (Nat.le_of_ble_eq_true rfl) (fun κ C hR => ?_)
  have hiX3 : ∀ w ∈ wsX30, w ∈ wsX3_isName := fun w h => List.mem_cons_of_mem _ (List.mem_append_right _ h)
  unfold f_X3_isName__n0 at hR
  refine j_aload_n C dX3_isName_0 1 rfl rfl 0 rfl ?_
  refine j_get C dX3_isName_1 4 rfl hiX3 0 rfl rfl 2 (by decide) rfl kX3_isName__n0_f28 rfl ?_
  refine j_iconst (v := 1) C dX3_isName_4 5 rfl (by decide) ?_
  refine j_icmp_ne C dX3_isName_5 35 rfl 8 rfl (fun c1 => ?_) (fun c1 => ?_)
  · rw [if_neg c1] at hR
    refine j_iconst (v := 0) C dX3_isName_35 36 rfl (by decide) ?_
    exact Rt.ret (hR) (show narrow .boolean (.int (0 : Int32)) = .int (0 : Int32) from rfl) dX3_isName_36
  · rw [if_pos c1] at hR
    refine j_aload_n C dX3_isName_8 9 rfl rfl 0 rfl ?_
    refine j_get C dX3_isName_9 12 rfl hiX3 0 rfl rfl 4 (by decide) rfl kX3_isName__n0_f22 rfl ?_
    refine j_aload_n C dX3_isName_12 13 rfl rfl 0 rfl ?_
    refine j_get C dX3_isName_13 16 rfl hiX3 0 rfl rfl 3 (by decide) rfl kX3_isName__n0_f94 rfl ?_
    refine j_isub C dX3_isName_16 17 rfl ?_
    refine j_aload_n C dX3_isName_17 18 rfl rfl 1 rfl ?_
    refine j_cvKI (na := 0) C (i := 0) (by decide) dX3_isName_18 21 rfl (c_J0_length τ 0 (by decide) 9 rfl) rfl gX3_isName_J0_length_8abf5 rfl rfl rfl qdK2 rfl ⟨by decide, by decide⟩ ⟨by decide, by decide⟩ rfl (Nat.le_of_ble_eq_true rfl) (fun r2 u2 hX2 hn2 => ?_)
    obtain rfl := (Prod.mk.inj hX2).1
    refine j_icmp_ne C dX3_isName_21 35 rfl 24 rfl (fun c3 => ?_) (fun c3 => ?_)
    · rw [if_neg c3] at hR
      refine j_iconst (v := 0) C dX3_isName_35 36 rfl (by decide) ?_
      exact Rt.ret (hR) (show narrow .boolean (.int (0 : Int32)) = .int (0 : Int32) from rfl) dX3_isName_36
    · rw [if_pos c3] at hR
      refine j_aload_n C dX3_isName_24 25 rfl rfl 0 rfl ?_
      refine j_get C dX3_isName_25 28 rfl hiX3 0 rfl rfl 4 (by decide) rfl kX3_isName__n0_f22 rfl ?_
      refine j_aload_n C dX3_isName_28 29 rfl rfl 0 rfl ?_
      refine j_get C dX3_isName_29 32 rfl hiX3 0 rfl rfl 1 (by decide) rfl kX3_isName__n0_f15 rfl ?_
      refine j_icmp_le C dX3_isName_32 37 rfl 35 rfl (fun c4 => ?_) (fun c4 => ?_)
      · rw [if_pos c4] at hR
        refine j_iconst (v := 0) C dX3_isName_37 38 rfl (by decide) ?_
        refine j_istore_n C dX3_isName_38 39 rfl rfl (by decide) [(2, .int 0), (0, .ref (a 0)), (1, .ref (τ.2.2.2 (100 + 0)))] rfl ?_
        refine j_lv [1, 2, 0] [(0, .ref (a 0)), (1, .ref (τ.2.2.2 (100 + 0))), (2, .int 0)] rfl (L_X3_isName__n0_39 C a bs tz so fr tt ft  hf (nm_b (L := 9) hn hf ht c3 c4) (fun (o : (Int32) ⊕ (Int32)) => Rt τ κ cX3_isName .boolean (fun _ : Unit => (wP τ a bs tz so fr tt ft)) ((sm o (fun (z : Int32) => pr1 z (fun x2_5 => (1 : Int32))) (fun X => X), ()))) (fun x2_5  hR => ?_) (fun X hR => by rw [sm_inr] at hR; exact hR) 300 (0 : Int32) (by decide) (by decide) (by decide) hR)
        rw [sm_inl, pr1_mk x2_5] at hR
        refine j_iconst (v := 1) C dX3_isName_74 75 rfl (by decide) ?_
        exact Rt.ret (hR) (show narrow .boolean (.int (1 : Int32)) = .int (1 : Int32) from rfl) dX3_isName_75
      · rw [if_neg c4] at hR
        refine j_iconst (v := 0) C dX3_isName_35 36 rfl (by decide) ?_
        exact Rt.ret (hR) (show narrow .boolean (.int (0 : Int32)) = .int (0 : Int32) from rfl) dX3_isName_36

-- X3_isName
def l_X3_isName__n1_39 (bs : Nat → Int32) (fr : Int32) : Nat → Int32 → (Int32) ⊕ (Int32)
  | 0, x2 => Sum.inl x2
  | N + 1, x2 => if (4 ≤ x2) then (Sum.inl x2) else (if ((bs ((fr + x2)).toNatClampNeg) = (kch 1 (x2).toNatClampNeg)) then (l_X3_isName__n1_39 bs fr N (x2 + 1)) else (Sum.inr (0 : Int32)))
def f_X3_isName__n1 (bs : Nat → Int32) (tz : Int32) (so : Int32) (fr : Int32) (tt : Int32) : Int32 := if (so = 1) then (if ((tt - fr) = 4) then (if (tt ≤ tz) then (sm (l_X3_isName__n1_39 bs fr 300 (0 : Int32)) (fun (z5 : Int32) => pr1 z5 (fun x2_5 => (1 : Int32))) (fun X => X)) else (0 : Int32)) else (0 : Int32)) else (0 : Int32)
theorem kX3_isName__n1_f28 : Cond.fieldLink RX3 28 "TwoMinutes$Tape" "sort" "I" ∈ wsX3_isName := by decide +kernel
theorem kX3_isName__n1_f22 : Cond.fieldLink RX3 22 "TwoMinutes$Tape" "to" "I" ∈ wsX3_isName := by decide +kernel
theorem kX3_isName__n1_f94 : Cond.fieldLink RX3 94 "TwoMinutes$Tape" "from" "I" ∈ wsX3_isName := by decide +kernel
theorem kX3_isName__n1_f15 : Cond.fieldLink RX3 15 "TwoMinutes$Tape" "size" "I" ∈ wsX3_isName := by decide +kernel
theorem kX3_isName__n1_f11 : Cond.fieldLink RX3 11 "TwoMinutes$Tape" "bytes" "[I" ∈ wsX3_isName := by decide +kernel
theorem qd_X3_isName__n1 : yX3_isName.cls = RX3 ∧ yX3_isName.cls ≠ "java/lang/invoke/MethodHandle" ∧ yX3_isName.cls ≠ "java/lang/invoke/VarHandle" ∧ (parseMethodDescriptor yX3_isName.desc).map (fun d => d.parameters.length) = some 1 := by decide +kernel
abbrev rmX3_isName__n1 : Room := { frames := 4, cells := 0, slots := 0, locals := 85 }
set_option maxHeartbeats 4000000 in
set_option maxRecDepth 100000 in
theorem L_X3_isName__n1_39 {τ : SX} {κ : KX} (C : Cx τ κ cX3_isName RX3 wsX3_isName rmX3_isName__n1 3) (a : Nat → Nat) (bs : Nat → Int32) (tz : Int32) (so : Int32) (fr : Int32) (tt : Int32) (ft : Int32) (hf : TN fr) (hb : fr.toInt + 4 ≤ 200) (Φ : (Int32) ⊕ (Int32) → Prop) (hE : ∀ (x2 : Int32), Φ (Sum.inl x2) → J τ κ 0 0 (wP τ a bs tz so fr tt ft) [(0, .ref (a 0)), (1, .ref (τ.2.2.2 (100 + 1))), (2, .int x2)] 74 []) (hRet : ∀ X, Φ (Sum.inr X) → Rt τ κ cX3_isName .boolean (fun _ : Unit => (wP τ a bs tz so fr tt ft)) ((X, ()))) : ∀ (N : Nat) (x2 : Int32), ((4 : Int) - x2.toInt).toNat < N → (0 ≤ x2.toInt) → (x2.toInt ≤ 4) → Φ (l_X3_isName__n1_39 bs fr N x2) → J τ κ 0 0 (wP τ a bs tz so fr tt ft) [(0, .ref (a 0)), (1, .ref (τ.2.2.2 (100 + 1))), (2, .int x2)] 39 [] := by
  have hiX3 : ∀ w ∈ wsX30, w ∈ wsX3_isName := fun w h => List.mem_cons_of_mem _ (List.mem_append_right _ h)
  intro N
  induction N with
  | zero => intro x2 hm; exact absurd hm (Nat.not_lt_zero _)
  | succ N ih =>
    intro x2 hm h0 h1 hR
    rw [l_X3_isName__n1_39] at hR
    refine j_iload_n C dX3_isName_39 40 rfl rfl 2 rfl ?_
    refine j_aload_n C dX3_isName_40 41 rfl rfl 1 rfl ?_
    refine j_cvKI (na := 0) C (i := 1) (by decide) dX3_isName_41 44 rfl (c_J0_length τ 1 (by decide) 4 rfl) rfl gX3_isName_J0_length_8abf5 rfl rfl rfl qdK2 rfl ⟨by decide, by decide⟩ ⟨by decide, by decide⟩ rfl (Nat.le_of_ble_eq_true rfl) (fun r6 u6 hX6 hn6 => ?_)
    obtain rfl := (Prod.mk.inj hX6).1
    refine j_icmp_ge C dX3_isName_44 74 rfl 47 rfl (fun c7 => ?_) (fun c7 => ?_)
    · rw [if_pos c7] at hR
      exact j_lv [0, 1, 2] [(0, .ref (a 0)), (1, .ref (τ.2.2.2 (100 + 1))), (2, .int x2)] rfl (hE _  hR)
    · rw [if_neg c7] at hR
      have hs := cnt_step (B := 4) h0 (by decide) (by decide) c7
      refine j_aload_n C dX3_isName_47 48 rfl rfl 0 rfl ?_
      refine j_get C dX3_isName_48 51 rfl hiX3 0 rfl rfl 0 (by decide) rfl kX3_isName__n1_f11 rfl ?_
      refine j_aload_n C dX3_isName_51 52 rfl rfl 0 rfl ?_
      refine j_get C dX3_isName_52 55 rfl hiX3 0 rfl rfl 3 (by decide) rfl kX3_isName__n1_f94 rfl ?_
      refine j_iload_n C dX3_isName_55 56 rfl rfl 2 rfl ?_
      refine j_iadd C dX3_isName_56 57 rfl ?_
      refine j_iald C dX3_isName_57 58 rfl 1 rfl (nm_in hf hb h0 hs.2.2.2) ((fr + x2)).toNatClampNeg rfl ?_
      refine j_aload_n C dX3_isName_58 59 rfl rfl 1 rfl ?_
      refine j_iload_n C dX3_isName_59 60 rfl rfl 2 rfl ?_
      refine j_cvKI (na := 1) C (i := 1) (by decide) dX3_isName_60 63 rfl (c_J0_charAt τ 1 (by decide) x2 (vpI h0 hs.2.2.2)) rfl gX3_isName_J0_charAt_5068e rfl rfl rfl qdK3 rfl ⟨by decide, by decide⟩ ⟨by decide, by decide⟩ rfl (Nat.le_of_ble_eq_true rfl) (fun r8 u8 hX8 hn8 => ?_)
      obtain rfl := (Prod.mk.inj hX8).1
      refine j_icmp_eq C dX3_isName_63 68 rfl 66 rfl (fun c9 => ?_) (fun c9 => ?_)
      · rw [if_pos c9] at hR
        refine j_iinc (v := (x2 + 1)) C dX3_isName_68 71 rfl 2 rfl rfl (by decide) [(2, .int (x2 + 1)), (0, .ref (a 0)), (1, .ref (τ.2.2.2 (100 + 1)))] rfl ?_
        refine j_goto C dX3_isName_71 39 rfl ?_
        exact j_lv [1, 2, 0] [(0, .ref (a 0)), (1, .ref (τ.2.2.2 (100 + 1))), (2, .int (x2 + 1))] rfl (ih _ (by have := hs.2.2.1; omega) hs.1 hs.2.1 hR)
      · rw [if_neg c9] at hR
        refine j_iconst (v := 0) C dX3_isName_66 67 rfl (by decide) ?_
        exact Rt.ret (hRet _ hR) (show narrow .boolean (.int (0 : Int32)) = .int (0 : Int32) from rfl) dX3_isName_67
set_option maxHeartbeats 4000000 in
set_option maxRecDepth 100000 in
theorem c_X3_isName__n1 (τ : SX) (a : Nat → Nat) (bs : Nat → Int32) (tz : Int32) (so : Int32) (fr : Int32) (tt : Int32) (ft : Int32) (hn : TN tz) (hf : TN fr) (ht : TN tt) (sz : Nat) : McI τ yX3_isName wsX3_isName rmX3_isName__n1 .boolean [.ref (a 0), .ref (τ.2.2.2 (100 + 1))] (wP τ a bs tz so fr tt ft) (fun _ : Unit => (wP τ a bs tz so fr tt ft)) (f_X3_isName__n1 bs tz so fr tt, ()) sz := by
  refine mc_I (cc := cX3_isName) (own := RX3) [(0, .ref (a 0)), (1, .ref (τ.2.2.2 (100 + 1)))] rfl (by decide) rfl rfl (Nat.le_of_ble_eq_true rfl) (fun κ C hR => ?_)
  have hiX3 : ∀ w ∈ wsX30, w ∈ wsX3_isName := fun w h => List.mem_cons_of_mem _ (List.mem_append_right _ h)
  unfold f_X3_isName__n1 at hR
  refine j_aload_n C dX3_isName_0 1 rfl rfl 0 rfl ?_
  refine j_get C dX3_isName_1 4 rfl hiX3 0 rfl rfl 2 (by decide) rfl kX3_isName__n1_f28 rfl ?_
  refine j_iconst (v := 1) C dX3_isName_4 5 rfl (by decide) ?_
  refine j_icmp_ne C dX3_isName_5 35 rfl 8 rfl (fun c1 => ?_) (fun c1 => ?_)
  · rw [if_neg c1] at hR
    refine j_iconst (v := 0) C dX3_isName_35 36 rfl (by decide) ?_
    exact Rt.ret (hR) (show narrow .boolean (.int (0 : Int32)) = .int (0 : Int32) from rfl) dX3_isName_36
  · rw [if_pos c1] at hR
    refine j_aload_n C dX3_isName_8 9 rfl rfl 0 rfl ?_
    refine j_get C dX3_isName_9 12 rfl hiX3 0 rfl rfl 4 (by decide) rfl kX3_isName__n1_f22 rfl ?_
    refine j_aload_n C dX3_isName_12 13 rfl rfl 0 rfl ?_
    refine j_get C dX3_isName_13 16 rfl hiX3 0 rfl rfl 3 (by decide) rfl kX3_isName__n1_f94 rfl ?_
    refine j_isub C dX3_isName_16 17 rfl ?_
    refine j_aload_n C dX3_isName_17 18 rfl rfl 1 rfl ?_
    refine j_cvKI (na := 0) C (i := 1) (by decide) dX3_isName_18 21 rfl (c_J0_length τ 1 (by decide) 4 rfl) rfl gX3_isName_J0_length_8abf5 rfl rfl rfl qdK2 rfl ⟨by decide, by decide⟩ ⟨by decide, by decide⟩ rfl (Nat.le_of_ble_eq_true rfl) (fun r2 u2 hX2 hn2 => ?_)
    obtain rfl := (Prod.mk.inj hX2).1
    refine j_icmp_ne C dX3_isName_21 35 rfl 24 rfl (fun c3 => ?_) (fun c3 => ?_)
    · rw [if_neg c3] at hR
      refine j_iconst (v := 0) C dX3_isName_35 36 rfl (by decide) ?_
      exact Rt.ret (hR) (show narrow .boolean (.int (0 : Int32)) = .int (0 : Int32) from rfl) dX3_isName_36
    · rw [if_pos c3] at hR
      refine j_aload_n C dX3_isName_24 25 rfl rfl 0 rfl ?_
      refine j_get C dX3_isName_25 28 rfl hiX3 0 rfl rfl 4 (by decide) rfl kX3_isName__n1_f22 rfl ?_
      refine j_aload_n C dX3_isName_28 29 rfl rfl 0 rfl ?_
      refine j_get C dX3_isName_29 32 rfl hiX3 0 rfl rfl 1 (by decide) rfl kX3_isName__n1_f15 rfl ?_
      refine j_icmp_le C dX3_isName_32 37 rfl 35 rfl (fun c4 => ?_) (fun c4 => ?_)
      · rw [if_pos c4] at hR
        refine j_iconst (v := 0) C dX3_isName_37 38 rfl (by decide) ?_
        refine j_istore_n C dX3_isName_38 39 rfl rfl (by decide) [(2, .int 0), (0, .ref (a 0)), (1, .ref (τ.2.2.2 (100 + 1)))] rfl ?_
        refine j_lv [1, 2, 0] [(0, .ref (a 0)), (1, .ref (τ.2.2.2 (100 + 1))), (2, .int 0)] rfl (L_X3_isName__n1_39 C a bs tz so fr tt ft  hf (nm_b (L := 4) hn hf ht c3 c4) (fun (o : (Int32) ⊕ (Int32)) => Rt τ κ cX3_isName .boolean (fun _ : Unit => (wP τ a bs tz so fr tt ft)) ((sm o (fun (z : Int32) => pr1 z (fun x2_5 => (1 : Int32))) (fun X => X), ()))) (fun x2_5  hR => ?_) (fun X hR => by rw [sm_inr] at hR; exact hR) 300 (0 : Int32) (by decide) (by decide) (by decide) hR)
        rw [sm_inl, pr1_mk x2_5] at hR
        refine j_iconst (v := 1) C dX3_isName_74 75 rfl (by decide) ?_
        exact Rt.ret (hR) (show narrow .boolean (.int (1 : Int32)) = .int (1 : Int32) from rfl) dX3_isName_75
      · rw [if_neg c4] at hR
        refine j_iconst (v := 0) C dX3_isName_35 36 rfl (by decide) ?_
        exact Rt.ret (hR) (show narrow .boolean (.int (0 : Int32)) = .int (0 : Int32) from rfl) dX3_isName_36

-- X3_isName
def l_X3_isName__n2_39 (bs : Nat → Int32) (fr : Int32) : Nat → Int32 → (Int32) ⊕ (Int32)
  | 0, x2 => Sum.inl x2
  | N + 1, x2 => if (7 ≤ x2) then (Sum.inl x2) else (if ((bs ((fr + x2)).toNatClampNeg) = (kch 2 (x2).toNatClampNeg)) then (l_X3_isName__n2_39 bs fr N (x2 + 1)) else (Sum.inr (0 : Int32)))
def f_X3_isName__n2 (bs : Nat → Int32) (tz : Int32) (so : Int32) (fr : Int32) (tt : Int32) : Int32 := if (so = 1) then (if ((tt - fr) = 7) then (if (tt ≤ tz) then (sm (l_X3_isName__n2_39 bs fr 300 (0 : Int32)) (fun (z5 : Int32) => pr1 z5 (fun x2_5 => (1 : Int32))) (fun X => X)) else (0 : Int32)) else (0 : Int32)) else (0 : Int32)
theorem kX3_isName__n2_f28 : Cond.fieldLink RX3 28 "TwoMinutes$Tape" "sort" "I" ∈ wsX3_isName := by decide +kernel
theorem kX3_isName__n2_f22 : Cond.fieldLink RX3 22 "TwoMinutes$Tape" "to" "I" ∈ wsX3_isName := by decide +kernel
theorem kX3_isName__n2_f94 : Cond.fieldLink RX3 94 "TwoMinutes$Tape" "from" "I" ∈ wsX3_isName := by decide +kernel
theorem kX3_isName__n2_f15 : Cond.fieldLink RX3 15 "TwoMinutes$Tape" "size" "I" ∈ wsX3_isName := by decide +kernel
theorem kX3_isName__n2_f11 : Cond.fieldLink RX3 11 "TwoMinutes$Tape" "bytes" "[I" ∈ wsX3_isName := by decide +kernel
theorem qd_X3_isName__n2 : yX3_isName.cls = RX3 ∧ yX3_isName.cls ≠ "java/lang/invoke/MethodHandle" ∧ yX3_isName.cls ≠ "java/lang/invoke/VarHandle" ∧ (parseMethodDescriptor yX3_isName.desc).map (fun d => d.parameters.length) = some 1 := by decide +kernel
abbrev rmX3_isName__n2 : Room := { frames := 4, cells := 0, slots := 0, locals := 85 }
set_option maxHeartbeats 4000000 in
set_option maxRecDepth 100000 in
theorem L_X3_isName__n2_39 {τ : SX} {κ : KX} (C : Cx τ κ cX3_isName RX3 wsX3_isName rmX3_isName__n2 3) (a : Nat → Nat) (bs : Nat → Int32) (tz : Int32) (so : Int32) (fr : Int32) (tt : Int32) (ft : Int32) (hf : TN fr) (hb : fr.toInt + 7 ≤ 200) (Φ : (Int32) ⊕ (Int32) → Prop) (hE : ∀ (x2 : Int32), Φ (Sum.inl x2) → J τ κ 0 0 (wP τ a bs tz so fr tt ft) [(0, .ref (a 0)), (1, .ref (τ.2.2.2 (100 + 2))), (2, .int x2)] 74 []) (hRet : ∀ X, Φ (Sum.inr X) → Rt τ κ cX3_isName .boolean (fun _ : Unit => (wP τ a bs tz so fr tt ft)) ((X, ()))) : ∀ (N : Nat) (x2 : Int32), ((7 : Int) - x2.toInt).toNat < N → (0 ≤ x2.toInt) → (x2.toInt ≤ 7) → Φ (l_X3_isName__n2_39 bs fr N x2) → J τ κ 0 0 (wP τ a bs tz so fr tt ft) [(0, .ref (a 0)), (1, .ref (τ.2.2.2 (100 + 2))), (2, .int x2)] 39 [] := by
  have hiX3 : ∀ w ∈ wsX30, w ∈ wsX3_isName := fun w h => List.mem_cons_of_mem _ (List.mem_append_right _ h)
  intro N
  induction N with
  | zero => intro x2 hm; exact absurd hm (Nat.not_lt_zero _)
  | succ N ih =>
    intro x2 hm h0 h1 hR
    rw [l_X3_isName__n2_39] at hR
    refine j_iload_n C dX3_isName_39 40 rfl rfl 2 rfl ?_
    refine j_aload_n C dX3_isName_40 41 rfl rfl 1 rfl ?_
    refine j_cvKI (na := 0) C (i := 2) (by decide) dX3_isName_41 44 rfl (c_J0_length τ 2 (by decide) 7 rfl) rfl gX3_isName_J0_length_8abf5 rfl rfl rfl qdK2 rfl ⟨by decide, by decide⟩ ⟨by decide, by decide⟩ rfl (Nat.le_of_ble_eq_true rfl) (fun r6 u6 hX6 hn6 => ?_)
    obtain rfl := (Prod.mk.inj hX6).1
    refine j_icmp_ge C dX3_isName_44 74 rfl 47 rfl (fun c7 => ?_) (fun c7 => ?_)
    · rw [if_pos c7] at hR
      exact j_lv [0, 1, 2] [(0, .ref (a 0)), (1, .ref (τ.2.2.2 (100 + 2))), (2, .int x2)] rfl (hE _  hR)
    · rw [if_neg c7] at hR
      have hs := cnt_step (B := 7) h0 (by decide) (by decide) c7
      refine j_aload_n C dX3_isName_47 48 rfl rfl 0 rfl ?_
      refine j_get C dX3_isName_48 51 rfl hiX3 0 rfl rfl 0 (by decide) rfl kX3_isName__n2_f11 rfl ?_
      refine j_aload_n C dX3_isName_51 52 rfl rfl 0 rfl ?_
      refine j_get C dX3_isName_52 55 rfl hiX3 0 rfl rfl 3 (by decide) rfl kX3_isName__n2_f94 rfl ?_
      refine j_iload_n C dX3_isName_55 56 rfl rfl 2 rfl ?_
      refine j_iadd C dX3_isName_56 57 rfl ?_
      refine j_iald C dX3_isName_57 58 rfl 1 rfl (nm_in hf hb h0 hs.2.2.2) ((fr + x2)).toNatClampNeg rfl ?_
      refine j_aload_n C dX3_isName_58 59 rfl rfl 1 rfl ?_
      refine j_iload_n C dX3_isName_59 60 rfl rfl 2 rfl ?_
      refine j_cvKI (na := 1) C (i := 2) (by decide) dX3_isName_60 63 rfl (c_J0_charAt τ 2 (by decide) x2 (vpI h0 hs.2.2.2)) rfl gX3_isName_J0_charAt_5068e rfl rfl rfl qdK3 rfl ⟨by decide, by decide⟩ ⟨by decide, by decide⟩ rfl (Nat.le_of_ble_eq_true rfl) (fun r8 u8 hX8 hn8 => ?_)
      obtain rfl := (Prod.mk.inj hX8).1
      refine j_icmp_eq C dX3_isName_63 68 rfl 66 rfl (fun c9 => ?_) (fun c9 => ?_)
      · rw [if_pos c9] at hR
        refine j_iinc (v := (x2 + 1)) C dX3_isName_68 71 rfl 2 rfl rfl (by decide) [(2, .int (x2 + 1)), (0, .ref (a 0)), (1, .ref (τ.2.2.2 (100 + 2)))] rfl ?_
        refine j_goto C dX3_isName_71 39 rfl ?_
        exact j_lv [1, 2, 0] [(0, .ref (a 0)), (1, .ref (τ.2.2.2 (100 + 2))), (2, .int (x2 + 1))] rfl (ih _ (by have := hs.2.2.1; omega) hs.1 hs.2.1 hR)
      · rw [if_neg c9] at hR
        refine j_iconst (v := 0) C dX3_isName_66 67 rfl (by decide) ?_
        exact Rt.ret (hRet _ hR) (show narrow .boolean (.int (0 : Int32)) = .int (0 : Int32) from rfl) dX3_isName_67
set_option maxHeartbeats 4000000 in
set_option maxRecDepth 100000 in
theorem c_X3_isName__n2 (τ : SX) (a : Nat → Nat) (bs : Nat → Int32) (tz : Int32) (so : Int32) (fr : Int32) (tt : Int32) (ft : Int32) (hn : TN tz) (hf : TN fr) (ht : TN tt) (sz : Nat) : McI τ yX3_isName wsX3_isName rmX3_isName__n2 .boolean [.ref (a 0), .ref (τ.2.2.2 (100 + 2))] (wP τ a bs tz so fr tt ft) (fun _ : Unit => (wP τ a bs tz so fr tt ft)) (f_X3_isName__n2 bs tz so fr tt, ()) sz := by
  refine mc_I (cc := cX3_isName) (own := RX3) [(0, .ref (a 0)), (1, .ref (τ.2.2.2 (100 + 2)))] rfl (by decide) rfl rfl (Nat.le_of_ble_eq_true rfl) (fun κ C hR => ?_)
  have hiX3 : ∀ w ∈ wsX30, w ∈ wsX3_isName := fun w h => List.mem_cons_of_mem _ (List.mem_append_right _ h)
  unfold f_X3_isName__n2 at hR
  refine j_aload_n C dX3_isName_0 1 rfl rfl 0 rfl ?_
  refine j_get C dX3_isName_1 4 rfl hiX3 0 rfl rfl 2 (by decide) rfl kX3_isName__n2_f28 rfl ?_
  refine j_iconst (v := 1) C dX3_isName_4 5 rfl (by decide) ?_
  refine j_icmp_ne C dX3_isName_5 35 rfl 8 rfl (fun c1 => ?_) (fun c1 => ?_)
  · rw [if_neg c1] at hR
    refine j_iconst (v := 0) C dX3_isName_35 36 rfl (by decide) ?_
    exact Rt.ret (hR) (show narrow .boolean (.int (0 : Int32)) = .int (0 : Int32) from rfl) dX3_isName_36
  · rw [if_pos c1] at hR
    refine j_aload_n C dX3_isName_8 9 rfl rfl 0 rfl ?_
    refine j_get C dX3_isName_9 12 rfl hiX3 0 rfl rfl 4 (by decide) rfl kX3_isName__n2_f22 rfl ?_
    refine j_aload_n C dX3_isName_12 13 rfl rfl 0 rfl ?_
    refine j_get C dX3_isName_13 16 rfl hiX3 0 rfl rfl 3 (by decide) rfl kX3_isName__n2_f94 rfl ?_
    refine j_isub C dX3_isName_16 17 rfl ?_
    refine j_aload_n C dX3_isName_17 18 rfl rfl 1 rfl ?_
    refine j_cvKI (na := 0) C (i := 2) (by decide) dX3_isName_18 21 rfl (c_J0_length τ 2 (by decide) 7 rfl) rfl gX3_isName_J0_length_8abf5 rfl rfl rfl qdK2 rfl ⟨by decide, by decide⟩ ⟨by decide, by decide⟩ rfl (Nat.le_of_ble_eq_true rfl) (fun r2 u2 hX2 hn2 => ?_)
    obtain rfl := (Prod.mk.inj hX2).1
    refine j_icmp_ne C dX3_isName_21 35 rfl 24 rfl (fun c3 => ?_) (fun c3 => ?_)
    · rw [if_neg c3] at hR
      refine j_iconst (v := 0) C dX3_isName_35 36 rfl (by decide) ?_
      exact Rt.ret (hR) (show narrow .boolean (.int (0 : Int32)) = .int (0 : Int32) from rfl) dX3_isName_36
    · rw [if_pos c3] at hR
      refine j_aload_n C dX3_isName_24 25 rfl rfl 0 rfl ?_
      refine j_get C dX3_isName_25 28 rfl hiX3 0 rfl rfl 4 (by decide) rfl kX3_isName__n2_f22 rfl ?_
      refine j_aload_n C dX3_isName_28 29 rfl rfl 0 rfl ?_
      refine j_get C dX3_isName_29 32 rfl hiX3 0 rfl rfl 1 (by decide) rfl kX3_isName__n2_f15 rfl ?_
      refine j_icmp_le C dX3_isName_32 37 rfl 35 rfl (fun c4 => ?_) (fun c4 => ?_)
      · rw [if_pos c4] at hR
        refine j_iconst (v := 0) C dX3_isName_37 38 rfl (by decide) ?_
        refine j_istore_n C dX3_isName_38 39 rfl rfl (by decide) [(2, .int 0), (0, .ref (a 0)), (1, .ref (τ.2.2.2 (100 + 2)))] rfl ?_
        refine j_lv [1, 2, 0] [(0, .ref (a 0)), (1, .ref (τ.2.2.2 (100 + 2))), (2, .int 0)] rfl (L_X3_isName__n2_39 C a bs tz so fr tt ft  hf (nm_b (L := 7) hn hf ht c3 c4) (fun (o : (Int32) ⊕ (Int32)) => Rt τ κ cX3_isName .boolean (fun _ : Unit => (wP τ a bs tz so fr tt ft)) ((sm o (fun (z : Int32) => pr1 z (fun x2_5 => (1 : Int32))) (fun X => X), ()))) (fun x2_5  hR => ?_) (fun X hR => by rw [sm_inr] at hR; exact hR) 300 (0 : Int32) (by decide) (by decide) (by decide) hR)
        rw [sm_inl, pr1_mk x2_5] at hR
        refine j_iconst (v := 1) C dX3_isName_74 75 rfl (by decide) ?_
        exact Rt.ret (hR) (show narrow .boolean (.int (1 : Int32)) = .int (1 : Int32) from rfl) dX3_isName_75
      · rw [if_neg c4] at hR
        refine j_iconst (v := 0) C dX3_isName_35 36 rfl (by decide) ?_
        exact Rt.ret (hR) (show narrow .boolean (.int (0 : Int32)) = .int (0 : Int32) from rfl) dX3_isName_36

-- X3_isName
def l_X3_isName__n3_39 (bs : Nat → Int32) (fr : Int32) : Nat → Int32 → (Int32) ⊕ (Int32)
  | 0, x2 => Sum.inl x2
  | N + 1, x2 => if (5 ≤ x2) then (Sum.inl x2) else (if ((bs ((fr + x2)).toNatClampNeg) = (kch 3 (x2).toNatClampNeg)) then (l_X3_isName__n3_39 bs fr N (x2 + 1)) else (Sum.inr (0 : Int32)))
def f_X3_isName__n3 (bs : Nat → Int32) (tz : Int32) (so : Int32) (fr : Int32) (tt : Int32) : Int32 := if (so = 1) then (if ((tt - fr) = 5) then (if (tt ≤ tz) then (sm (l_X3_isName__n3_39 bs fr 300 (0 : Int32)) (fun (z5 : Int32) => pr1 z5 (fun x2_5 => (1 : Int32))) (fun X => X)) else (0 : Int32)) else (0 : Int32)) else (0 : Int32)
theorem kX3_isName__n3_f28 : Cond.fieldLink RX3 28 "TwoMinutes$Tape" "sort" "I" ∈ wsX3_isName := by decide +kernel
theorem kX3_isName__n3_f22 : Cond.fieldLink RX3 22 "TwoMinutes$Tape" "to" "I" ∈ wsX3_isName := by decide +kernel
theorem kX3_isName__n3_f94 : Cond.fieldLink RX3 94 "TwoMinutes$Tape" "from" "I" ∈ wsX3_isName := by decide +kernel
theorem kX3_isName__n3_f15 : Cond.fieldLink RX3 15 "TwoMinutes$Tape" "size" "I" ∈ wsX3_isName := by decide +kernel
theorem kX3_isName__n3_f11 : Cond.fieldLink RX3 11 "TwoMinutes$Tape" "bytes" "[I" ∈ wsX3_isName := by decide +kernel
theorem qd_X3_isName__n3 : yX3_isName.cls = RX3 ∧ yX3_isName.cls ≠ "java/lang/invoke/MethodHandle" ∧ yX3_isName.cls ≠ "java/lang/invoke/VarHandle" ∧ (parseMethodDescriptor yX3_isName.desc).map (fun d => d.parameters.length) = some 1 := by decide +kernel
abbrev rmX3_isName__n3 : Room := { frames := 4, cells := 0, slots := 0, locals := 85 }
set_option maxHeartbeats 4000000 in
set_option maxRecDepth 100000 in
theorem L_X3_isName__n3_39 {τ : SX} {κ : KX} (C : Cx τ κ cX3_isName RX3 wsX3_isName rmX3_isName__n3 3) (a : Nat → Nat) (bs : Nat → Int32) (tz : Int32) (so : Int32) (fr : Int32) (tt : Int32) (ft : Int32) (hf : TN fr) (hb : fr.toInt + 5 ≤ 200) (Φ : (Int32) ⊕ (Int32) → Prop) (hE : ∀ (x2 : Int32), Φ (Sum.inl x2) → J τ κ 0 0 (wP τ a bs tz so fr tt ft) [(0, .ref (a 0)), (1, .ref (τ.2.2.2 (100 + 3))), (2, .int x2)] 74 []) (hRet : ∀ X, Φ (Sum.inr X) → Rt τ κ cX3_isName .boolean (fun _ : Unit => (wP τ a bs tz so fr tt ft)) ((X, ()))) : ∀ (N : Nat) (x2 : Int32), ((5 : Int) - x2.toInt).toNat < N → (0 ≤ x2.toInt) → (x2.toInt ≤ 5) → Φ (l_X3_isName__n3_39 bs fr N x2) → J τ κ 0 0 (wP τ a bs tz so fr tt ft) [(0, .ref (a 0)), (1, .ref (τ.2.2.2 (100 + 3))), (2, .int x2)] 39 [] := by
  have hiX3 : ∀ w ∈ wsX30, w ∈ wsX3_isName := fun w h => List.mem_cons_of_mem _ (List.mem_append_right _ h)
  intro N
  induction N with
  | zero => intro x2 hm; exact absurd hm (Nat.not_lt_zero _)
  | succ N ih =>
    intro x2 hm h0 h1 hR
    rw [l_X3_isName__n3_39] at hR
    refine j_iload_n C dX3_isName_39 40 rfl rfl 2 rfl ?_
    refine j_aload_n C dX3_isName_40 41 rfl rfl 1 rfl ?_
    refine j_cvKI (na := 0) C (i := 3) (by decide) dX3_isName_41 44 rfl (c_J0_length τ 3 (by decide) 5 rfl) rfl gX3_isName_J0_length_8abf5 rfl rfl rfl qdK2 rfl ⟨by decide, by decide⟩ ⟨by decide, by decide⟩ rfl (Nat.le_of_ble_eq_true rfl) (fun r6 u6 hX6 hn6 => ?_)
    obtain rfl := (Prod.mk.inj hX6).1
    refine j_icmp_ge C dX3_isName_44 74 rfl 47 rfl (fun c7 => ?_) (fun c7 => ?_)
    · rw [if_pos c7] at hR
      exact j_lv [0, 1, 2] [(0, .ref (a 0)), (1, .ref (τ.2.2.2 (100 + 3))), (2, .int x2)] rfl (hE _  hR)
    · rw [if_neg c7] at hR
      have hs := cnt_step (B := 5) h0 (by decide) (by decide) c7
      refine j_aload_n C dX3_isName_47 48 rfl rfl 0 rfl ?_
      refine j_get C dX3_isName_48 51 rfl hiX3 0 rfl rfl 0 (by decide) rfl kX3_isName__n3_f11 rfl ?_
      refine j_aload_n C dX3_isName_51 52 rfl rfl 0 rfl ?_
      refine j_get C dX3_isName_52 55 rfl hiX3 0 rfl rfl 3 (by decide) rfl kX3_isName__n3_f94 rfl ?_
      refine j_iload_n C dX3_isName_55 56 rfl rfl 2 rfl ?_
      refine j_iadd C dX3_isName_56 57 rfl ?_
      refine j_iald C dX3_isName_57 58 rfl 1 rfl (nm_in hf hb h0 hs.2.2.2) ((fr + x2)).toNatClampNeg rfl ?_
      refine j_aload_n C dX3_isName_58 59 rfl rfl 1 rfl ?_
      refine j_iload_n C dX3_isName_59 60 rfl rfl 2 rfl ?_
      refine j_cvKI (na := 1) C (i := 3) (by decide) dX3_isName_60 63 rfl (c_J0_charAt τ 3 (by decide) x2 (vpI h0 hs.2.2.2)) rfl gX3_isName_J0_charAt_5068e rfl rfl rfl qdK3 rfl ⟨by decide, by decide⟩ ⟨by decide, by decide⟩ rfl (Nat.le_of_ble_eq_true rfl) (fun r8 u8 hX8 hn8 => ?_)
      obtain rfl := (Prod.mk.inj hX8).1
      refine j_icmp_eq C dX3_isName_63 68 rfl 66 rfl (fun c9 => ?_) (fun c9 => ?_)
      · rw [if_pos c9] at hR
        refine j_iinc (v := (x2 + 1)) C dX3_isName_68 71 rfl 2 rfl rfl (by decide) [(2, .int (x2 + 1)), (0, .ref (a 0)), (1, .ref (τ.2.2.2 (100 + 3)))] rfl ?_
        refine j_goto C dX3_isName_71 39 rfl ?_
        exact j_lv [1, 2, 0] [(0, .ref (a 0)), (1, .ref (τ.2.2.2 (100 + 3))), (2, .int (x2 + 1))] rfl (ih _ (by have := hs.2.2.1; omega) hs.1 hs.2.1 hR)
      · rw [if_neg c9] at hR
        refine j_iconst (v := 0) C dX3_isName_66 67 rfl (by decide) ?_
        exact Rt.ret (hRet _ hR) (show narrow .boolean (.int (0 : Int32)) = .int (0 : Int32) from rfl) dX3_isName_67
set_option maxHeartbeats 4000000 in
set_option maxRecDepth 100000 in
theorem c_X3_isName__n3 (τ : SX) (a : Nat → Nat) (bs : Nat → Int32) (tz : Int32) (so : Int32) (fr : Int32) (tt : Int32) (ft : Int32) (hn : TN tz) (hf : TN fr) (ht : TN tt) (sz : Nat) : McI τ yX3_isName wsX3_isName rmX3_isName__n3 .boolean [.ref (a 0), .ref (τ.2.2.2 (100 + 3))] (wP τ a bs tz so fr tt ft) (fun _ : Unit => (wP τ a bs tz so fr tt ft)) (f_X3_isName__n3 bs tz so fr tt, ()) sz := by
  refine mc_I (cc := cX3_isName) (own := RX3) [(0, .ref (a 0)), (1, .ref (τ.2.2.2 (100 + 3)))] rfl (by decide) rfl rfl (Nat.le_of_ble_eq_true rfl) (fun κ C hR => ?_)
  have hiX3 : ∀ w ∈ wsX30, w ∈ wsX3_isName := fun w h => List.mem_cons_of_mem _ (List.mem_append_right _ h)
  unfold f_X3_isName__n3 at hR
  refine j_aload_n C dX3_isName_0 1 rfl rfl 0 rfl ?_
  refine j_get C dX3_isName_1 4 rfl hiX3 0 rfl rfl 2 (by decide) rfl kX3_isName__n3_f28 rfl ?_
  refine j_iconst (v := 1) C dX3_isName_4 5 rfl (by decide) ?_
  refine j_icmp_ne C dX3_isName_5 35 rfl 8 rfl (fun c1 => ?_) (fun c1 => ?_)
  · rw [if_neg c1] at hR
    refine j_iconst (v := 0) C dX3_isName_35 36 rfl (by decide) ?_
    exact Rt.ret (hR) (show narrow .boolean (.int (0 : Int32)) = .int (0 : Int32) from rfl) dX3_isName_36
  · rw [if_pos c1] at hR
    refine j_aload_n C dX3_isName_8 9 rfl rfl 0 rfl ?_
    refine j_get C dX3_isName_9 12 rfl hiX3 0 rfl rfl 4 (by decide) rfl kX3_isName__n3_f22 rfl ?_
    refine j_aload_n C dX3_isName_12 13 rfl rfl 0 rfl ?_
    refine j_get C dX3_isName_13 16 rfl hiX3 0 rfl rfl 3 (by decide) rfl kX3_isName__n3_f94 rfl ?_
    refine j_isub C dX3_isName_16 17 rfl ?_
    refine j_aload_n C dX3_isName_17 18 rfl rfl 1 rfl ?_
    refine j_cvKI (na := 0) C (i := 3) (by decide) dX3_isName_18 21 rfl (c_J0_length τ 3 (by decide) 5 rfl) rfl gX3_isName_J0_length_8abf5 rfl rfl rfl qdK2 rfl ⟨by decide, by decide⟩ ⟨by decide, by decide⟩ rfl (Nat.le_of_ble_eq_true rfl) (fun r2 u2 hX2 hn2 => ?_)
    obtain rfl := (Prod.mk.inj hX2).1
    refine j_icmp_ne C dX3_isName_21 35 rfl 24 rfl (fun c3 => ?_) (fun c3 => ?_)
    · rw [if_neg c3] at hR
      refine j_iconst (v := 0) C dX3_isName_35 36 rfl (by decide) ?_
      exact Rt.ret (hR) (show narrow .boolean (.int (0 : Int32)) = .int (0 : Int32) from rfl) dX3_isName_36
    · rw [if_pos c3] at hR
      refine j_aload_n C dX3_isName_24 25 rfl rfl 0 rfl ?_
      refine j_get C dX3_isName_25 28 rfl hiX3 0 rfl rfl 4 (by decide) rfl kX3_isName__n3_f22 rfl ?_
      refine j_aload_n C dX3_isName_28 29 rfl rfl 0 rfl ?_
      refine j_get C dX3_isName_29 32 rfl hiX3 0 rfl rfl 1 (by decide) rfl kX3_isName__n3_f15 rfl ?_
      refine j_icmp_le C dX3_isName_32 37 rfl 35 rfl (fun c4 => ?_) (fun c4 => ?_)
      · rw [if_pos c4] at hR
        refine j_iconst (v := 0) C dX3_isName_37 38 rfl (by decide) ?_
        refine j_istore_n C dX3_isName_38 39 rfl rfl (by decide) [(2, .int 0), (0, .ref (a 0)), (1, .ref (τ.2.2.2 (100 + 3)))] rfl ?_
        refine j_lv [1, 2, 0] [(0, .ref (a 0)), (1, .ref (τ.2.2.2 (100 + 3))), (2, .int 0)] rfl (L_X3_isName__n3_39 C a bs tz so fr tt ft  hf (nm_b (L := 5) hn hf ht c3 c4) (fun (o : (Int32) ⊕ (Int32)) => Rt τ κ cX3_isName .boolean (fun _ : Unit => (wP τ a bs tz so fr tt ft)) ((sm o (fun (z : Int32) => pr1 z (fun x2_5 => (1 : Int32))) (fun X => X), ()))) (fun x2_5  hR => ?_) (fun X hR => by rw [sm_inr] at hR; exact hR) 300 (0 : Int32) (by decide) (by decide) (by decide) hR)
        rw [sm_inl, pr1_mk x2_5] at hR
        refine j_iconst (v := 1) C dX3_isName_74 75 rfl (by decide) ?_
        exact Rt.ret (hR) (show narrow .boolean (.int (1 : Int32)) = .int (1 : Int32) from rfl) dX3_isName_75
      · rw [if_neg c4] at hR
        refine j_iconst (v := 0) C dX3_isName_35 36 rfl (by decide) ?_
        exact Rt.ret (hR) (show narrow .boolean (.int (0 : Int32)) = .int (0 : Int32) from rfl) dX3_isName_36

-- X3_isName
def l_X3_isName__n4_39 (bs : Nat → Int32) (fr : Int32) : Nat → Int32 → (Int32) ⊕ (Int32)
  | 0, x2 => Sum.inl x2
  | N + 1, x2 => if (7 ≤ x2) then (Sum.inl x2) else (if ((bs ((fr + x2)).toNatClampNeg) = (kch 4 (x2).toNatClampNeg)) then (l_X3_isName__n4_39 bs fr N (x2 + 1)) else (Sum.inr (0 : Int32)))
def f_X3_isName__n4 (bs : Nat → Int32) (tz : Int32) (so : Int32) (fr : Int32) (tt : Int32) : Int32 := if (so = 1) then (if ((tt - fr) = 7) then (if (tt ≤ tz) then (sm (l_X3_isName__n4_39 bs fr 300 (0 : Int32)) (fun (z5 : Int32) => pr1 z5 (fun x2_5 => (1 : Int32))) (fun X => X)) else (0 : Int32)) else (0 : Int32)) else (0 : Int32)
theorem kX3_isName__n4_f28 : Cond.fieldLink RX3 28 "TwoMinutes$Tape" "sort" "I" ∈ wsX3_isName := by decide +kernel
theorem kX3_isName__n4_f22 : Cond.fieldLink RX3 22 "TwoMinutes$Tape" "to" "I" ∈ wsX3_isName := by decide +kernel
theorem kX3_isName__n4_f94 : Cond.fieldLink RX3 94 "TwoMinutes$Tape" "from" "I" ∈ wsX3_isName := by decide +kernel
theorem kX3_isName__n4_f15 : Cond.fieldLink RX3 15 "TwoMinutes$Tape" "size" "I" ∈ wsX3_isName := by decide +kernel
theorem kX3_isName__n4_f11 : Cond.fieldLink RX3 11 "TwoMinutes$Tape" "bytes" "[I" ∈ wsX3_isName := by decide +kernel
theorem qd_X3_isName__n4 : yX3_isName.cls = RX3 ∧ yX3_isName.cls ≠ "java/lang/invoke/MethodHandle" ∧ yX3_isName.cls ≠ "java/lang/invoke/VarHandle" ∧ (parseMethodDescriptor yX3_isName.desc).map (fun d => d.parameters.length) = some 1 := by decide +kernel
abbrev rmX3_isName__n4 : Room := { frames := 4, cells := 0, slots := 0, locals := 85 }
set_option maxHeartbeats 4000000 in
set_option maxRecDepth 100000 in
theorem L_X3_isName__n4_39 {τ : SX} {κ : KX} (C : Cx τ κ cX3_isName RX3 wsX3_isName rmX3_isName__n4 3) (a : Nat → Nat) (bs : Nat → Int32) (tz : Int32) (so : Int32) (fr : Int32) (tt : Int32) (ft : Int32) (hf : TN fr) (hb : fr.toInt + 7 ≤ 200) (Φ : (Int32) ⊕ (Int32) → Prop) (hE : ∀ (x2 : Int32), Φ (Sum.inl x2) → J τ κ 0 0 (wP τ a bs tz so fr tt ft) [(0, .ref (a 0)), (1, .ref (τ.2.2.2 (100 + 4))), (2, .int x2)] 74 []) (hRet : ∀ X, Φ (Sum.inr X) → Rt τ κ cX3_isName .boolean (fun _ : Unit => (wP τ a bs tz so fr tt ft)) ((X, ()))) : ∀ (N : Nat) (x2 : Int32), ((7 : Int) - x2.toInt).toNat < N → (0 ≤ x2.toInt) → (x2.toInt ≤ 7) → Φ (l_X3_isName__n4_39 bs fr N x2) → J τ κ 0 0 (wP τ a bs tz so fr tt ft) [(0, .ref (a 0)), (1, .ref (τ.2.2.2 (100 + 4))), (2, .int x2)] 39 [] := by
  have hiX3 : ∀ w ∈ wsX30, w ∈ wsX3_isName := fun w h => List.mem_cons_of_mem _ (List.mem_append_right _ h)
  intro N
  induction N with
  | zero => intro x2 hm; exact absurd hm (Nat.not_lt_zero _)
  | succ N ih =>
    intro x2 hm h0 h1 hR
    rw [l_X3_isName__n4_39] at hR
    refine j_iload_n C dX3_isName_39 40 rfl rfl 2 rfl ?_
    refine j_aload_n C dX3_isName_40 41 rfl rfl 1 rfl ?_
    refine j_cvKI (na := 0) C (i := 4) (by decide) dX3_isName_41 44 rfl (c_J0_length τ 4 (by decide) 7 rfl) rfl gX3_isName_J0_length_8abf5 rfl rfl rfl qdK2 rfl ⟨by decide, by decide⟩ ⟨by decide, by decide⟩ rfl (Nat.le_of_ble_eq_true rfl) (fun r6 u6 hX6 hn6 => ?_)
    obtain rfl := (Prod.mk.inj hX6).1
    refine j_icmp_ge C dX3_isName_44 74 rfl 47 rfl (fun c7 => ?_) (fun c7 => ?_)
    · rw [if_pos c7] at hR
      exact j_lv [0, 1, 2] [(0, .ref (a 0)), (1, .ref (τ.2.2.2 (100 + 4))), (2, .int x2)] rfl (hE _  hR)
    · rw [if_neg c7] at hR
      have hs := cnt_step (B := 7) h0 (by decide) (by decide) c7
      refine j_aload_n C dX3_isName_47 48 rfl rfl 0 rfl ?_
      refine j_get C dX3_isName_48 51 rfl hiX3 0 rfl rfl 0 (by decide) rfl kX3_isName__n4_f11 rfl ?_
      refine j_aload_n C dX3_isName_51 52 rfl rfl 0 rfl ?_
      refine j_get C dX3_isName_52 55 rfl hiX3 0 rfl rfl 3 (by decide) rfl kX3_isName__n4_f94 rfl ?_
      refine j_iload_n C dX3_isName_55 56 rfl rfl 2 rfl ?_
      refine j_iadd C dX3_isName_56 57 rfl ?_
      refine j_iald C dX3_isName_57 58 rfl 1 rfl (nm_in hf hb h0 hs.2.2.2) ((fr + x2)).toNatClampNeg rfl ?_
      refine j_aload_n C dX3_isName_58 59 rfl rfl 1 rfl ?_
      refine j_iload_n C dX3_isName_59 60 rfl rfl 2 rfl ?_
      refine j_cvKI (na := 1) C (i := 4) (by decide) dX3_isName_60 63 rfl (c_J0_charAt τ 4 (by decide) x2 (vpI h0 hs.2.2.2)) rfl gX3_isName_J0_charAt_5068e rfl rfl rfl qdK3 rfl ⟨by decide, by decide⟩ ⟨by decide, by decide⟩ rfl (Nat.le_of_ble_eq_true rfl) (fun r8 u8 hX8 hn8 => ?_)
      obtain rfl := (Prod.mk.inj hX8).1
      refine j_icmp_eq C dX3_isName_63 68 rfl 66 rfl (fun c9 => ?_) (fun c9 => ?_)
      · rw [if_pos c9] at hR
        refine j_iinc (v := (x2 + 1)) C dX3_isName_68 71 rfl 2 rfl rfl (by decide) [(2, .int (x2 + 1)), (0, .ref (a 0)), (1, .ref (τ.2.2.2 (100 + 4)))] rfl ?_
        refine j_goto C dX3_isName_71 39 rfl ?_
        exact j_lv [1, 2, 0] [(0, .ref (a 0)), (1, .ref (τ.2.2.2 (100 + 4))), (2, .int (x2 + 1))] rfl (ih _ (by have := hs.2.2.1; omega) hs.1 hs.2.1 hR)
      · rw [if_neg c9] at hR
        refine j_iconst (v := 0) C dX3_isName_66 67 rfl (by decide) ?_
        exact Rt.ret (hRet _ hR) (show narrow .boolean (.int (0 : Int32)) = .int (0 : Int32) from rfl) dX3_isName_67
set_option maxHeartbeats 4000000 in
set_option maxRecDepth 100000 in
theorem c_X3_isName__n4 (τ : SX) (a : Nat → Nat) (bs : Nat → Int32) (tz : Int32) (so : Int32) (fr : Int32) (tt : Int32) (ft : Int32) (hn : TN tz) (hf : TN fr) (ht : TN tt) (sz : Nat) : McI τ yX3_isName wsX3_isName rmX3_isName__n4 .boolean [.ref (a 0), .ref (τ.2.2.2 (100 + 4))] (wP τ a bs tz so fr tt ft) (fun _ : Unit => (wP τ a bs tz so fr tt ft)) (f_X3_isName__n4 bs tz so fr tt, ()) sz := by
  refine mc_I (cc := cX3_isName) (own := RX3) [(0, .ref (a 0)), (1, .ref (τ.2.2.2 (100 + 4)))] rfl (by decide) rfl rfl (Nat.le_of_ble_eq_true rfl) (fun κ C hR => ?_)
  have hiX3 : ∀ w ∈ wsX30, w ∈ wsX3_isName := fun w h => List.mem_cons_of_mem _ (List.mem_append_right _ h)
  unfold f_X3_isName__n4 at hR
  refine j_aload_n C dX3_isName_0 1 rfl rfl 0 rfl ?_
  refine j_get C dX3_isName_1 4 rfl hiX3 0 rfl rfl 2 (by decide) rfl kX3_isName__n4_f28 rfl ?_
  refine j_iconst (v := 1) C dX3_isName_4 5 rfl (by decide) ?_
  refine j_icmp_ne C dX3_isName_5 35 rfl 8 rfl (fun c1 => ?_) (fun c1 => ?_)
  · rw [if_neg c1] at hR
    refine j_iconst (v := 0) C dX3_isName_35 36 rfl (by decide) ?_
    exact Rt.ret (hR) (show narrow .boolean (.int (0 : Int32)) = .int (0 : Int32) from rfl) dX3_isName_36
  · rw [if_pos c1] at hR
    refine j_aload_n C dX3_isName_8 9 rfl rfl 0 rfl ?_
    refine j_get C dX3_isName_9 12 rfl hiX3 0 rfl rfl 4 (by decide) rfl kX3_isName__n4_f22 rfl ?_
    refine j_aload_n C dX3_isName_12 13 rfl rfl 0 rfl ?_
    refine j_get C dX3_isName_13 16 rfl hiX3 0 rfl rfl 3 (by decide) rfl kX3_isName__n4_f94 rfl ?_
    refine j_isub C dX3_isName_16 17 rfl ?_
    refine j_aload_n C dX3_isName_17 18 rfl rfl 1 rfl ?_
    refine j_cvKI (na := 0) C (i := 4) (by decide) dX3_isName_18 21 rfl (c_J0_length τ 4 (by decide) 7 rfl) rfl gX3_isName_J0_length_8abf5 rfl rfl rfl qdK2 rfl ⟨by decide, by decide⟩ ⟨by decide, by decide⟩ rfl (Nat.le_of_ble_eq_true rfl) (fun r2 u2 hX2 hn2 => ?_)
    obtain rfl := (Prod.mk.inj hX2).1
    refine j_icmp_ne C dX3_isName_21 35 rfl 24 rfl (fun c3 => ?_) (fun c3 => ?_)
    · rw [if_neg c3] at hR
      refine j_iconst (v := 0) C dX3_isName_35 36 rfl (by decide) ?_
      exact Rt.ret (hR) (show narrow .boolean (.int (0 : Int32)) = .int (0 : Int32) from rfl) dX3_isName_36
    · rw [if_pos c3] at hR
      refine j_aload_n C dX3_isName_24 25 rfl rfl 0 rfl ?_
      refine j_get C dX3_isName_25 28 rfl hiX3 0 rfl rfl 4 (by decide) rfl kX3_isName__n4_f22 rfl ?_
      refine j_aload_n C dX3_isName_28 29 rfl rfl 0 rfl ?_
      refine j_get C dX3_isName_29 32 rfl hiX3 0 rfl rfl 1 (by decide) rfl kX3_isName__n4_f15 rfl ?_
      refine j_icmp_le C dX3_isName_32 37 rfl 35 rfl (fun c4 => ?_) (fun c4 => ?_)
      · rw [if_pos c4] at hR
        refine j_iconst (v := 0) C dX3_isName_37 38 rfl (by decide) ?_
        refine j_istore_n C dX3_isName_38 39 rfl rfl (by decide) [(2, .int 0), (0, .ref (a 0)), (1, .ref (τ.2.2.2 (100 + 4)))] rfl ?_
        refine j_lv [1, 2, 0] [(0, .ref (a 0)), (1, .ref (τ.2.2.2 (100 + 4))), (2, .int 0)] rfl (L_X3_isName__n4_39 C a bs tz so fr tt ft  hf (nm_b (L := 7) hn hf ht c3 c4) (fun (o : (Int32) ⊕ (Int32)) => Rt τ κ cX3_isName .boolean (fun _ : Unit => (wP τ a bs tz so fr tt ft)) ((sm o (fun (z : Int32) => pr1 z (fun x2_5 => (1 : Int32))) (fun X => X), ()))) (fun x2_5  hR => ?_) (fun X hR => by rw [sm_inr] at hR; exact hR) 300 (0 : Int32) (by decide) (by decide) (by decide) hR)
        rw [sm_inl, pr1_mk x2_5] at hR
        refine j_iconst (v := 1) C dX3_isName_74 75 rfl (by decide) ?_
        exact Rt.ret (hR) (show narrow .boolean (.int (1 : Int32)) = .int (1 : Int32) from rfl) dX3_isName_75
      · rw [if_neg c4] at hR
        refine j_iconst (v := 0) C dX3_isName_35 36 rfl (by decide) ?_
        exact Rt.ret (hR) (show narrow .boolean (.int (0 : Int32)) = .int (0 : Int32) from rfl) dX3_isName_36

-- X3_isName
def l_X3_isName__n5_39 (bs : Nat → Int32) (fr : Int32) : Nat → Int32 → (Int32) ⊕ (Int32)
  | 0, x2 => Sum.inl x2
  | N + 1, x2 => if (6 ≤ x2) then (Sum.inl x2) else (if ((bs ((fr + x2)).toNatClampNeg) = (kch 5 (x2).toNatClampNeg)) then (l_X3_isName__n5_39 bs fr N (x2 + 1)) else (Sum.inr (0 : Int32)))
def f_X3_isName__n5 (bs : Nat → Int32) (tz : Int32) (so : Int32) (fr : Int32) (tt : Int32) : Int32 := if (so = 1) then (if ((tt - fr) = 6) then (if (tt ≤ tz) then (sm (l_X3_isName__n5_39 bs fr 300 (0 : Int32)) (fun (z5 : Int32) => pr1 z5 (fun x2_5 => (1 : Int32))) (fun X => X)) else (0 : Int32)) else (0 : Int32)) else (0 : Int32)
theorem kX3_isName__n5_f28 : Cond.fieldLink RX3 28 "TwoMinutes$Tape" "sort" "I" ∈ wsX3_isName := by decide +kernel
theorem kX3_isName__n5_f22 : Cond.fieldLink RX3 22 "TwoMinutes$Tape" "to" "I" ∈ wsX3_isName := by decide +kernel
theorem kX3_isName__n5_f94 : Cond.fieldLink RX3 94 "TwoMinutes$Tape" "from" "I" ∈ wsX3_isName := by decide +kernel
theorem kX3_isName__n5_f15 : Cond.fieldLink RX3 15 "TwoMinutes$Tape" "size" "I" ∈ wsX3_isName := by decide +kernel
theorem kX3_isName__n5_f11 : Cond.fieldLink RX3 11 "TwoMinutes$Tape" "bytes" "[I" ∈ wsX3_isName := by decide +kernel
theorem qd_X3_isName__n5 : yX3_isName.cls = RX3 ∧ yX3_isName.cls ≠ "java/lang/invoke/MethodHandle" ∧ yX3_isName.cls ≠ "java/lang/invoke/VarHandle" ∧ (parseMethodDescriptor yX3_isName.desc).map (fun d => d.parameters.length) = some 1 := by decide +kernel
abbrev rmX3_isName__n5 : Room := { frames := 4, cells := 0, slots := 0, locals := 85 }
set_option maxHeartbeats 4000000 in
set_option maxRecDepth 100000 in
theorem L_X3_isName__n5_39 {τ : SX} {κ : KX} (C : Cx τ κ cX3_isName RX3 wsX3_isName rmX3_isName__n5 3) (a : Nat → Nat) (bs : Nat → Int32) (tz : Int32) (so : Int32) (fr : Int32) (tt : Int32) (ft : Int32) (hf : TN fr) (hb : fr.toInt + 6 ≤ 200) (Φ : (Int32) ⊕ (Int32) → Prop) (hE : ∀ (x2 : Int32), Φ (Sum.inl x2) → J τ κ 0 0 (wP τ a bs tz so fr tt ft) [(0, .ref (a 0)), (1, .ref (τ.2.2.2 (100 + 5))), (2, .int x2)] 74 []) (hRet : ∀ X, Φ (Sum.inr X) → Rt τ κ cX3_isName .boolean (fun _ : Unit => (wP τ a bs tz so fr tt ft)) ((X, ()))) : ∀ (N : Nat) (x2 : Int32), ((6 : Int) - x2.toInt).toNat < N → (0 ≤ x2.toInt) → (x2.toInt ≤ 6) → Φ (l_X3_isName__n5_39 bs fr N x2) → J τ κ 0 0 (wP τ a bs tz so fr tt ft) [(0, .ref (a 0)), (1, .ref (τ.2.2.2 (100 + 5))), (2, .int x2)] 39 [] := by
  have hiX3 : ∀ w ∈ wsX30, w ∈ wsX3_isName := fun w h => List.mem_cons_of_mem _ (List.mem_append_right _ h)
  intro N
  induction N with
  | zero => intro x2 hm; exact absurd hm (Nat.not_lt_zero _)
  | succ N ih =>
    intro x2 hm h0 h1 hR
    rw [l_X3_isName__n5_39] at hR
    refine j_iload_n C dX3_isName_39 40 rfl rfl 2 rfl ?_
    refine j_aload_n C dX3_isName_40 41 rfl rfl 1 rfl ?_
    refine j_cvKI (na := 0) C (i := 5) (by decide) dX3_isName_41 44 rfl (c_J0_length τ 5 (by decide) 6 rfl) rfl gX3_isName_J0_length_8abf5 rfl rfl rfl qdK2 rfl ⟨by decide, by decide⟩ ⟨by decide, by decide⟩ rfl (Nat.le_of_ble_eq_true rfl) (fun r6 u6 hX6 hn6 => ?_)
    obtain rfl := (Prod.mk.inj hX6).1
    refine j_icmp_ge C dX3_isName_44 74 rfl 47 rfl (fun c7 => ?_) (fun c7 => ?_)
    · rw [if_pos c7] at hR
      exact j_lv [0, 1, 2] [(0, .ref (a 0)), (1, .ref (τ.2.2.2 (100 + 5))), (2, .int x2)] rfl (hE _  hR)
    · rw [if_neg c7] at hR
      have hs := cnt_step (B := 6) h0 (by decide) (by decide) c7
      refine j_aload_n C dX3_isName_47 48 rfl rfl 0 rfl ?_
      refine j_get C dX3_isName_48 51 rfl hiX3 0 rfl rfl 0 (by decide) rfl kX3_isName__n5_f11 rfl ?_
      refine j_aload_n C dX3_isName_51 52 rfl rfl 0 rfl ?_
      refine j_get C dX3_isName_52 55 rfl hiX3 0 rfl rfl 3 (by decide) rfl kX3_isName__n5_f94 rfl ?_
      refine j_iload_n C dX3_isName_55 56 rfl rfl 2 rfl ?_
      refine j_iadd C dX3_isName_56 57 rfl ?_
      refine j_iald C dX3_isName_57 58 rfl 1 rfl (nm_in hf hb h0 hs.2.2.2) ((fr + x2)).toNatClampNeg rfl ?_
      refine j_aload_n C dX3_isName_58 59 rfl rfl 1 rfl ?_
      refine j_iload_n C dX3_isName_59 60 rfl rfl 2 rfl ?_
      refine j_cvKI (na := 1) C (i := 5) (by decide) dX3_isName_60 63 rfl (c_J0_charAt τ 5 (by decide) x2 (vpI h0 hs.2.2.2)) rfl gX3_isName_J0_charAt_5068e rfl rfl rfl qdK3 rfl ⟨by decide, by decide⟩ ⟨by decide, by decide⟩ rfl (Nat.le_of_ble_eq_true rfl) (fun r8 u8 hX8 hn8 => ?_)
      obtain rfl := (Prod.mk.inj hX8).1
      refine j_icmp_eq C dX3_isName_63 68 rfl 66 rfl (fun c9 => ?_) (fun c9 => ?_)
      · rw [if_pos c9] at hR
        refine j_iinc (v := (x2 + 1)) C dX3_isName_68 71 rfl 2 rfl rfl (by decide) [(2, .int (x2 + 1)), (0, .ref (a 0)), (1, .ref (τ.2.2.2 (100 + 5)))] rfl ?_
        refine j_goto C dX3_isName_71 39 rfl ?_
        exact j_lv [1, 2, 0] [(0, .ref (a 0)), (1, .ref (τ.2.2.2 (100 + 5))), (2, .int (x2 + 1))] rfl (ih _ (by have := hs.2.2.1; omega) hs.1 hs.2.1 hR)
      · rw [if_neg c9] at hR
        refine j_iconst (v := 0) C dX3_isName_66 67 rfl (by decide) ?_
        exact Rt.ret (hRet _ hR) (show narrow .boolean (.int (0 : Int32)) = .int (0 : Int32) from rfl) dX3_isName_67
set_option maxHeartbeats 4000000 in
set_option maxRecDepth 100000 in
theorem c_X3_isName__n5 (τ : SX) (a : Nat → Nat) (bs : Nat → Int32) (tz : Int32) (so : Int32) (fr : Int32) (tt : Int32) (ft : Int32) (hn : TN tz) (hf : TN fr) (ht : TN tt) (sz : Nat) : McI τ yX3_isName wsX3_isName rmX3_isName__n5 .boolean [.ref (a 0), .ref (τ.2.2.2 (100 + 5))] (wP τ a bs tz so fr tt ft) (fun _ : Unit => (wP τ a bs tz so fr tt ft)) (f_X3_isName__n5 bs tz so fr tt, ()) sz := by
  refine mc_I (cc := cX3_isName) (own := RX3) [(0, .ref (a 0)), (1, .ref (τ.2.2.2 (100 + 5)))] rfl (by decide) rfl rfl (Nat.le_of_ble_eq_true rfl) (fun κ C hR => ?_)
  have hiX3 : ∀ w ∈ wsX30, w ∈ wsX3_isName := fun w h => List.mem_cons_of_mem _ (List.mem_append_right _ h)
  unfold f_X3_isName__n5 at hR
  refine j_aload_n C dX3_isName_0 1 rfl rfl 0 rfl ?_
  refine j_get C dX3_isName_1 4 rfl hiX3 0 rfl rfl 2 (by decide) rfl kX3_isName__n5_f28 rfl ?_
  refine j_iconst (v := 1) C dX3_isName_4 5 rfl (by decide) ?_
  refine j_icmp_ne C dX3_isName_5 35 rfl 8 rfl (fun c1 => ?_) (fun c1 => ?_)
  · rw [if_neg c1] at hR
    refine j_iconst (v := 0) C dX3_isName_35 36 rfl (by decide) ?_
    exact Rt.ret (hR) (show narrow .boolean (.int (0 : Int32)) = .int (0 : Int32) from rfl) dX3_isName_36
  · rw [if_pos c1] at hR
    refine j_aload_n C dX3_isName_8 9 rfl rfl 0 rfl ?_
    refine j_get C dX3_isName_9 12 rfl hiX3 0 rfl rfl 4 (by decide) rfl kX3_isName__n5_f22 rfl ?_
    refine j_aload_n C dX3_isName_12 13 rfl rfl 0 rfl ?_
    refine j_get C dX3_isName_13 16 rfl hiX3 0 rfl rfl 3 (by decide) rfl kX3_isName__n5_f94 rfl ?_
    refine j_isub C dX3_isName_16 17 rfl ?_
    refine j_aload_n C dX3_isName_17 18 rfl rfl 1 rfl ?_
    refine j_cvKI (na := 0) C (i := 5) (by decide) dX3_isName_18 21 rfl (c_J0_length τ 5 (by decide) 6 rfl) rfl gX3_isName_J0_length_8abf5 rfl rfl rfl qdK2 rfl ⟨by decide, by decide⟩ ⟨by decide, by decide⟩ rfl (Nat.le_of_ble_eq_true rfl) (fun r2 u2 hX2 hn2 => ?_)
    obtain rfl := (Prod.mk.inj hX2).1
    refine j_icmp_ne C dX3_isName_21 35 rfl 24 rfl (fun c3 => ?_) (fun c3 => ?_)
    · rw [if_neg c3] at hR
      refine j_iconst (v := 0) C dX3_isName_35 36 rfl (by decide) ?_
      exact Rt.ret (hR) (show narrow .boolean (.int (0 : Int32)) = .int (0 : Int32) from rfl) dX3_isName_36
    · rw [if_pos c3] at hR
      refine j_aload_n C dX3_isName_24 25 rfl rfl 0 rfl ?_
      refine j_get C dX3_isName_25 28 rfl hiX3 0 rfl rfl 4 (by decide) rfl kX3_isName__n5_f22 rfl ?_
      refine j_aload_n C dX3_isName_28 29 rfl rfl 0 rfl ?_
      refine j_get C dX3_isName_29 32 rfl hiX3 0 rfl rfl 1 (by decide) rfl kX3_isName__n5_f15 rfl ?_
      refine j_icmp_le C dX3_isName_32 37 rfl 35 rfl (fun c4 => ?_) (fun c4 => ?_)
      · rw [if_pos c4] at hR
        refine j_iconst (v := 0) C dX3_isName_37 38 rfl (by decide) ?_
        refine j_istore_n C dX3_isName_38 39 rfl rfl (by decide) [(2, .int 0), (0, .ref (a 0)), (1, .ref (τ.2.2.2 (100 + 5)))] rfl ?_
        refine j_lv [1, 2, 0] [(0, .ref (a 0)), (1, .ref (τ.2.2.2 (100 + 5))), (2, .int 0)] rfl (L_X3_isName__n5_39 C a bs tz so fr tt ft  hf (nm_b (L := 6) hn hf ht c3 c4) (fun (o : (Int32) ⊕ (Int32)) => Rt τ κ cX3_isName .boolean (fun _ : Unit => (wP τ a bs tz so fr tt ft)) ((sm o (fun (z : Int32) => pr1 z (fun x2_5 => (1 : Int32))) (fun X => X), ()))) (fun x2_5  hR => ?_) (fun X hR => by rw [sm_inr] at hR; exact hR) 300 (0 : Int32) (by decide) (by decide) (by decide) hR)
        rw [sm_inl, pr1_mk x2_5] at hR
        refine j_iconst (v := 1) C dX3_isName_74 75 rfl (by decide) ?_
        exact Rt.ret (hR) (show narrow .boolean (.int (1 : Int32)) = .int (1 : Int32) from rfl) dX3_isName_75
      · rw [if_neg c4] at hR
        refine j_iconst (v := 0) C dX3_isName_35 36 rfl (by decide) ?_
        exact Rt.ret (hR) (show narrow .boolean (.int (0 : Int32)) = .int (0 : Int32) from rfl) dX3_isName_36

-- X3_isName
def l_X3_isName__n6_39 (bs : Nat → Int32) (fr : Int32) : Nat → Int32 → (Int32) ⊕ (Int32)
  | 0, x2 => Sum.inl x2
  | N + 1, x2 => if (4 ≤ x2) then (Sum.inl x2) else (if ((bs ((fr + x2)).toNatClampNeg) = (kch 6 (x2).toNatClampNeg)) then (l_X3_isName__n6_39 bs fr N (x2 + 1)) else (Sum.inr (0 : Int32)))
def f_X3_isName__n6 (bs : Nat → Int32) (tz : Int32) (so : Int32) (fr : Int32) (tt : Int32) : Int32 := if (so = 1) then (if ((tt - fr) = 4) then (if (tt ≤ tz) then (sm (l_X3_isName__n6_39 bs fr 300 (0 : Int32)) (fun (z5 : Int32) => pr1 z5 (fun x2_5 => (1 : Int32))) (fun X => X)) else (0 : Int32)) else (0 : Int32)) else (0 : Int32)
theorem kX3_isName__n6_f28 : Cond.fieldLink RX3 28 "TwoMinutes$Tape" "sort" "I" ∈ wsX3_isName := by decide +kernel
theorem kX3_isName__n6_f22 : Cond.fieldLink RX3 22 "TwoMinutes$Tape" "to" "I" ∈ wsX3_isName := by decide +kernel
theorem kX3_isName__n6_f94 : Cond.fieldLink RX3 94 "TwoMinutes$Tape" "from" "I" ∈ wsX3_isName := by decide +kernel
theorem kX3_isName__n6_f15 : Cond.fieldLink RX3 15 "TwoMinutes$Tape" "size" "I" ∈ wsX3_isName := by decide +kernel
theorem kX3_isName__n6_f11 : Cond.fieldLink RX3 11 "TwoMinutes$Tape" "bytes" "[I" ∈ wsX3_isName := by decide +kernel
theorem qd_X3_isName__n6 : yX3_isName.cls = RX3 ∧ yX3_isName.cls ≠ "java/lang/invoke/MethodHandle" ∧ yX3_isName.cls ≠ "java/lang/invoke/VarHandle" ∧ (parseMethodDescriptor yX3_isName.desc).map (fun d => d.parameters.length) = some 1 := by decide +kernel
abbrev rmX3_isName__n6 : Room := { frames := 4, cells := 0, slots := 0, locals := 85 }
set_option maxHeartbeats 4000000 in
set_option maxRecDepth 100000 in
theorem L_X3_isName__n6_39 {τ : SX} {κ : KX} (C : Cx τ κ cX3_isName RX3 wsX3_isName rmX3_isName__n6 3) (a : Nat → Nat) (bs : Nat → Int32) (tz : Int32) (so : Int32) (fr : Int32) (tt : Int32) (ft : Int32) (hf : TN fr) (hb : fr.toInt + 4 ≤ 200) (Φ : (Int32) ⊕ (Int32) → Prop) (hE : ∀ (x2 : Int32), Φ (Sum.inl x2) → J τ κ 0 0 (wP τ a bs tz so fr tt ft) [(0, .ref (a 0)), (1, .ref (τ.2.2.2 (100 + 6))), (2, .int x2)] 74 []) (hRet : ∀ X, Φ (Sum.inr X) → Rt τ κ cX3_isName .boolean (fun _ : Unit => (wP τ a bs tz so fr tt ft)) ((X, ()))) : ∀ (N : Nat) (x2 : Int32), ((4 : Int) - x2.toInt).toNat < N → (0 ≤ x2.toInt) → (x2.toInt ≤ 4) → Φ (l_X3_isName__n6_39 bs fr N x2) → J τ κ 0 0 (wP τ a bs tz so fr tt ft) [(0, .ref (a 0)), (1, .ref (τ.2.2.2 (100 + 6))), (2, .int x2)] 39 [] := by
  have hiX3 : ∀ w ∈ wsX30, w ∈ wsX3_isName := fun w h => List.mem_cons_of_mem _ (List.mem_append_right _ h)
  intro N
  induction N with
  | zero => intro x2 hm; exact absurd hm (Nat.not_lt_zero _)
  | succ N ih =>
    intro x2 hm h0 h1 hR
    rw [l_X3_isName__n6_39] at hR
    refine j_iload_n C dX3_isName_39 40 rfl rfl 2 rfl ?_
    refine j_aload_n C dX3_isName_40 41 rfl rfl 1 rfl ?_
    refine j_cvKI (na := 0) C (i := 6) (by decide) dX3_isName_41 44 rfl (c_J0_length τ 6 (by decide) 4 rfl) rfl gX3_isName_J0_length_8abf5 rfl rfl rfl qdK2 rfl ⟨by decide, by decide⟩ ⟨by decide, by decide⟩ rfl (Nat.le_of_ble_eq_true rfl) (fun r6 u6 hX6 hn6 => ?_)
    obtain rfl := (Prod.mk.inj hX6).1
    refine j_icmp_ge C dX3_isName_44 74 rfl 47 rfl (fun c7 => ?_) (fun c7 => ?_)
    · rw [if_pos c7] at hR
      exact j_lv [0, 1, 2] [(0, .ref (a 0)), (1, .ref (τ.2.2.2 (100 + 6))), (2, .int x2)] rfl (hE _  hR)
    · rw [if_neg c7] at hR
      have hs := cnt_step (B := 4) h0 (by decide) (by decide) c7
      refine j_aload_n C dX3_isName_47 48 rfl rfl 0 rfl ?_
      refine j_get C dX3_isName_48 51 rfl hiX3 0 rfl rfl 0 (by decide) rfl kX3_isName__n6_f11 rfl ?_
      refine j_aload_n C dX3_isName_51 52 rfl rfl 0 rfl ?_
      refine j_get C dX3_isName_52 55 rfl hiX3 0 rfl rfl 3 (by decide) rfl kX3_isName__n6_f94 rfl ?_
      refine j_iload_n C dX3_isName_55 56 rfl rfl 2 rfl ?_
      refine j_iadd C dX3_isName_56 57 rfl ?_
      refine j_iald C dX3_isName_57 58 rfl 1 rfl (nm_in hf hb h0 hs.2.2.2) ((fr + x2)).toNatClampNeg rfl ?_
      refine j_aload_n C dX3_isName_58 59 rfl rfl 1 rfl ?_
      refine j_iload_n C dX3_isName_59 60 rfl rfl 2 rfl ?_
      refine j_cvKI (na := 1) C (i := 6) (by decide) dX3_isName_60 63 rfl (c_J0_charAt τ 6 (by decide) x2 (vpI h0 hs.2.2.2)) rfl gX3_isName_J0_charAt_5068e rfl rfl rfl qdK3 rfl ⟨by decide, by decide⟩ ⟨by decide, by decide⟩ rfl (Nat.le_of_ble_eq_true rfl) (fun r8 u8 hX8 hn8 => ?_)
      obtain rfl := (Prod.mk.inj hX8).1
      refine j_icmp_eq C dX3_isName_63 68 rfl 66 rfl (fun c9 => ?_) (fun c9 => ?_)
      · rw [if_pos c9] at hR
        refine j_iinc (v := (x2 + 1)) C dX3_isName_68 71 rfl 2 rfl rfl (by decide) [(2, .int (x2 + 1)), (0, .ref (a 0)), (1, .ref (τ.2.2.2 (100 + 6)))] rfl ?_
        refine j_goto C dX3_isName_71 39 rfl ?_
        exact j_lv [1, 2, 0] [(0, .ref (a 0)), (1, .ref (τ.2.2.2 (100 + 6))), (2, .int (x2 + 1))] rfl (ih _ (by have := hs.2.2.1; omega) hs.1 hs.2.1 hR)
      · rw [if_neg c9] at hR
        refine j_iconst (v := 0) C dX3_isName_66 67 rfl (by decide) ?_
        exact Rt.ret (hRet _ hR) (show narrow .boolean (.int (0 : Int32)) = .int (0 : Int32) from rfl) dX3_isName_67
set_option maxHeartbeats 4000000 in
set_option maxRecDepth 100000 in
theorem c_X3_isName__n6 (τ : SX) (a : Nat → Nat) (bs : Nat → Int32) (tz : Int32) (so : Int32) (fr : Int32) (tt : Int32) (ft : Int32) (hn : TN tz) (hf : TN fr) (ht : TN tt) (sz : Nat) : McI τ yX3_isName wsX3_isName rmX3_isName__n6 .boolean [.ref (a 0), .ref (τ.2.2.2 (100 + 6))] (wP τ a bs tz so fr tt ft) (fun _ : Unit => (wP τ a bs tz so fr tt ft)) (f_X3_isName__n6 bs tz so fr tt, ()) sz := by
  refine mc_I (cc := cX3_isName) (own := RX3) [(0, .ref (a 0)), (1, .ref (τ.2.2.2 (100 + 6)))] rfl (by decide) rfl rfl (Nat.le_of_ble_eq_true rfl) (fun κ C hR => ?_)
  have hiX3 : ∀ w ∈ wsX30, w ∈ wsX3_isName := fun w h => List.mem_cons_of_mem _ (List.mem_append_right _ h)
  unfold f_X3_isName__n6 at hR
  refine j_aload_n C dX3_isName_0 1 rfl rfl 0 rfl ?_
  refine j_get C dX3_isName_1 4 rfl hiX3 0 rfl rfl 2 (by decide) rfl kX3_isName__n6_f28 rfl ?_
  refine j_iconst (v := 1) C dX3_isName_4 5 rfl (by decide) ?_
  refine j_icmp_ne C dX3_isName_5 35 rfl 8 rfl (fun c1 => ?_) (fun c1 => ?_)
  · rw [if_neg c1] at hR
    refine j_iconst (v := 0) C dX3_isName_35 36 rfl (by decide) ?_
    exact Rt.ret (hR) (show narrow .boolean (.int (0 : Int32)) = .int (0 : Int32) from rfl) dX3_isName_36
  · rw [if_pos c1] at hR
    refine j_aload_n C dX3_isName_8 9 rfl rfl 0 rfl ?_
    refine j_get C dX3_isName_9 12 rfl hiX3 0 rfl rfl 4 (by decide) rfl kX3_isName__n6_f22 rfl ?_
    refine j_aload_n C dX3_isName_12 13 rfl rfl 0 rfl ?_
    refine j_get C dX3_isName_13 16 rfl hiX3 0 rfl rfl 3 (by decide) rfl kX3_isName__n6_f94 rfl ?_
    refine j_isub C dX3_isName_16 17 rfl ?_
    refine j_aload_n C dX3_isName_17 18 rfl rfl 1 rfl ?_
    refine j_cvKI (na := 0) C (i := 6) (by decide) dX3_isName_18 21 rfl (c_J0_length τ 6 (by decide) 4 rfl) rfl gX3_isName_J0_length_8abf5 rfl rfl rfl qdK2 rfl ⟨by decide, by decide⟩ ⟨by decide, by decide⟩ rfl (Nat.le_of_ble_eq_true rfl) (fun r2 u2 hX2 hn2 => ?_)
    obtain rfl := (Prod.mk.inj hX2).1
    refine j_icmp_ne C dX3_isName_21 35 rfl 24 rfl (fun c3 => ?_) (fun c3 => ?_)
    · rw [if_neg c3] at hR
      refine j_iconst (v := 0) C dX3_isName_35 36 rfl (by decide) ?_
      exact Rt.ret (hR) (show narrow .boolean (.int (0 : Int32)) = .int (0 : Int32) from rfl) dX3_isName_36
    · rw [if_pos c3] at hR
      refine j_aload_n C dX3_isName_24 25 rfl rfl 0 rfl ?_
      refine j_get C dX3_isName_25 28 rfl hiX3 0 rfl rfl 4 (by decide) rfl kX3_isName__n6_f22 rfl ?_
      refine j_aload_n C dX3_isName_28 29 rfl rfl 0 rfl ?_
      refine j_get C dX3_isName_29 32 rfl hiX3 0 rfl rfl 1 (by decide) rfl kX3_isName__n6_f15 rfl ?_
      refine j_icmp_le C dX3_isName_32 37 rfl 35 rfl (fun c4 => ?_) (fun c4 => ?_)
      · rw [if_pos c4] at hR
        refine j_iconst (v := 0) C dX3_isName_37 38 rfl (by decide) ?_
        refine j_istore_n C dX3_isName_38 39 rfl rfl (by decide) [(2, .int 0), (0, .ref (a 0)), (1, .ref (τ.2.2.2 (100 + 6)))] rfl ?_
        refine j_lv [1, 2, 0] [(0, .ref (a 0)), (1, .ref (τ.2.2.2 (100 + 6))), (2, .int 0)] rfl (L_X3_isName__n6_39 C a bs tz so fr tt ft  hf (nm_b (L := 4) hn hf ht c3 c4) (fun (o : (Int32) ⊕ (Int32)) => Rt τ κ cX3_isName .boolean (fun _ : Unit => (wP τ a bs tz so fr tt ft)) ((sm o (fun (z : Int32) => pr1 z (fun x2_5 => (1 : Int32))) (fun X => X), ()))) (fun x2_5  hR => ?_) (fun X hR => by rw [sm_inr] at hR; exact hR) 300 (0 : Int32) (by decide) (by decide) (by decide) hR)
        rw [sm_inl, pr1_mk x2_5] at hR
        refine j_iconst (v := 1) C dX3_isName_74 75 rfl (by decide) ?_
        exact Rt.ret (hR) (show narrow .boolean (.int (1 : Int32)) = .int (1 : Int32) from rfl) dX3_isName_75
      · rw [if_neg c4] at hR
        refine j_iconst (v := 0) C dX3_isName_35 36 rfl (by decide) ?_
        exact Rt.ret (hR) (show narrow .boolean (.int (0 : Int32)) = .int (0 : Int32) from rfl) dX3_isName_36

-- X3_isName
def l_X3_isName__n7_39 (bs : Nat → Int32) (fr : Int32) : Nat → Int32 → (Int32) ⊕ (Int32)
  | 0, x2 => Sum.inl x2
  | N + 1, x2 => if (4 ≤ x2) then (Sum.inl x2) else (if ((bs ((fr + x2)).toNatClampNeg) = (kch 7 (x2).toNatClampNeg)) then (l_X3_isName__n7_39 bs fr N (x2 + 1)) else (Sum.inr (0 : Int32)))
def f_X3_isName__n7 (bs : Nat → Int32) (tz : Int32) (so : Int32) (fr : Int32) (tt : Int32) : Int32 := if (so = 1) then (if ((tt - fr) = 4) then (if (tt ≤ tz) then (sm (l_X3_isName__n7_39 bs fr 300 (0 : Int32)) (fun (z5 : Int32) => pr1 z5 (fun x2_5 => (1 : Int32))) (fun X => X)) else (0 : Int32)) else (0 : Int32)) else (0 : Int32)
theorem kX3_isName__n7_f28 : Cond.fieldLink RX3 28 "TwoMinutes$Tape" "sort" "I" ∈ wsX3_isName := by decide +kernel
theorem kX3_isName__n7_f22 : Cond.fieldLink RX3 22 "TwoMinutes$Tape" "to" "I" ∈ wsX3_isName := by decide +kernel
theorem kX3_isName__n7_f94 : Cond.fieldLink RX3 94 "TwoMinutes$Tape" "from" "I" ∈ wsX3_isName := by decide +kernel
theorem kX3_isName__n7_f15 : Cond.fieldLink RX3 15 "TwoMinutes$Tape" "size" "I" ∈ wsX3_isName := by decide +kernel
theorem kX3_isName__n7_f11 : Cond.fieldLink RX3 11 "TwoMinutes$Tape" "bytes" "[I" ∈ wsX3_isName := by decide +kernel
theorem qd_X3_isName__n7 : yX3_isName.cls = RX3 ∧ yX3_isName.cls ≠ "java/lang/invoke/MethodHandle" ∧ yX3_isName.cls ≠ "java/lang/invoke/VarHandle" ∧ (parseMethodDescriptor yX3_isName.desc).map (fun d => d.parameters.length) = some 1 := by decide +kernel
abbrev rmX3_isName__n7 : Room := { frames := 4, cells := 0, slots := 0, locals := 85 }
set_option maxHeartbeats 4000000 in
set_option maxRecDepth 100000 in
theorem L_X3_isName__n7_39 {τ : SX} {κ : KX} (C : Cx τ κ cX3_isName RX3 wsX3_isName rmX3_isName__n7 3) (a : Nat → Nat) (bs : Nat → Int32) (tz : Int32) (so : Int32) (fr : Int32) (tt : Int32) (ft : Int32) (hf : TN fr) (hb : fr.toInt + 4 ≤ 200) (Φ : (Int32) ⊕ (Int32) → Prop) (hE : ∀ (x2 : Int32), Φ (Sum.inl x2) → J τ κ 0 0 (wP τ a bs tz so fr tt ft) [(0, .ref (a 0)), (1, .ref (τ.2.2.2 (100 + 7))), (2, .int x2)] 74 []) (hRet : ∀ X, Φ (Sum.inr X) → Rt τ κ cX3_isName .boolean (fun _ : Unit => (wP τ a bs tz so fr tt ft)) ((X, ()))) : ∀ (N : Nat) (x2 : Int32), ((4 : Int) - x2.toInt).toNat < N → (0 ≤ x2.toInt) → (x2.toInt ≤ 4) → Φ (l_X3_isName__n7_39 bs fr N x2) → J τ κ 0 0 (wP τ a bs tz so fr tt ft) [(0, .ref (a 0)), (1, .ref (τ.2.2.2 (100 + 7))), (2, .int x2)] 39 [] := by
  have hiX3 : ∀ w ∈ wsX30, w ∈ wsX3_isName := fun w h => List.mem_cons_of_mem _ (List.mem_append_right _ h)
  intro N
  induction N with
  | zero => intro x2 hm; exact absurd hm (Nat.not_lt_zero _)
  | succ N ih =>
    intro x2 hm h0 h1 hR
    rw [l_X3_isName__n7_39] at hR
    refine j_iload_n C dX3_isName_39 40 rfl rfl 2 rfl ?_
    refine j_aload_n C dX3_isName_40 41 rfl rfl 1 rfl ?_
    refine j_cvKI (na := 0) C (i := 7) (by decide) dX3_isName_41 44 rfl (c_J0_length τ 7 (by decide) 4 rfl) rfl gX3_isName_J0_length_8abf5 rfl rfl rfl qdK2 rfl ⟨by decide, by decide⟩ ⟨by decide, by decide⟩ rfl (Nat.le_of_ble_eq_true rfl) (fun r6 u6 hX6 hn6 => ?_)
    obtain rfl := (Prod.mk.inj hX6).1
    refine j_icmp_ge C dX3_isName_44 74 rfl 47 rfl (fun c7 => ?_) (fun c7 => ?_)
    · rw [if_pos c7] at hR
      exact j_lv [0, 1, 2] [(0, .ref (a 0)), (1, .ref (τ.2.2.2 (100 + 7))), (2, .int x2)] rfl (hE _  hR)
    · rw [if_neg c7] at hR
      have hs := cnt_step (B := 4) h0 (by decide) (by decide) c7
      refine j_aload_n C dX3_isName_47 48 rfl rfl 0 rfl ?_
      refine j_get C dX3_isName_48 51 rfl hiX3 0 rfl rfl 0 (by decide) rfl kX3_isName__n7_f11 rfl ?_
      refine j_aload_n C dX3_isName_51 52 rfl rfl 0 rfl ?_
      refine j_get C dX3_isName_52 55 rfl hiX3 0 rfl rfl 3 (by decide) rfl kX3_isName__n7_f94 rfl ?_
      refine j_iload_n C dX3_isName_55 56 rfl rfl 2 rfl ?_
      refine j_iadd C dX3_isName_56 57 rfl ?_
      refine j_iald C dX3_isName_57 58 rfl 1 rfl (nm_in hf hb h0 hs.2.2.2) ((fr + x2)).toNatClampNeg rfl ?_
      refine j_aload_n C dX3_isName_58 59 rfl rfl 1 rfl ?_
      refine j_iload_n C dX3_isName_59 60 rfl rfl 2 rfl ?_
      refine j_cvKI (na := 1) C (i := 7) (by decide) dX3_isName_60 63 rfl (c_J0_charAt τ 7 (by decide) x2 (vpI h0 hs.2.2.2)) rfl gX3_isName_J0_charAt_5068e rfl rfl rfl qdK3 rfl ⟨by decide, by decide⟩ ⟨by decide, by decide⟩ rfl (Nat.le_of_ble_eq_true rfl) (fun r8 u8 hX8 hn8 => ?_)
      obtain rfl := (Prod.mk.inj hX8).1
      refine j_icmp_eq C dX3_isName_63 68 rfl 66 rfl (fun c9 => ?_) (fun c9 => ?_)
      · rw [if_pos c9] at hR
        refine j_iinc (v := (x2 + 1)) C dX3_isName_68 71 rfl 2 rfl rfl (by decide) [(2, .int (x2 + 1)), (0, .ref (a 0)), (1, .ref (τ.2.2.2 (100 + 7)))] rfl ?_
        refine j_goto C dX3_isName_71 39 rfl ?_
        exact j_lv [1, 2, 0] [(0, .ref (a 0)), (1, .ref (τ.2.2.2 (100 + 7))), (2, .int (x2 + 1))] rfl (ih _ (by have := hs.2.2.1; omega) hs.1 hs.2.1 hR)
      · rw [if_neg c9] at hR
        refine j_iconst (v := 0) C dX3_isName_66 67 rfl (by decide) ?_
        exact Rt.ret (hRet _ hR) (show narrow .boolean (.int (0 : Int32)) = .int (0 : Int32) from rfl) dX3_isName_67
set_option maxHeartbeats 4000000 in
set_option maxRecDepth 100000 in
theorem c_X3_isName__n7 (τ : SX) (a : Nat → Nat) (bs : Nat → Int32) (tz : Int32) (so : Int32) (fr : Int32) (tt : Int32) (ft : Int32) (hn : TN tz) (hf : TN fr) (ht : TN tt) (sz : Nat) : McI τ yX3_isName wsX3_isName rmX3_isName__n7 .boolean [.ref (a 0), .ref (τ.2.2.2 (100 + 7))] (wP τ a bs tz so fr tt ft) (fun _ : Unit => (wP τ a bs tz so fr tt ft)) (f_X3_isName__n7 bs tz so fr tt, ()) sz := by
  refine mc_I (cc := cX3_isName) (own := RX3) [(0, .ref (a 0)), (1, .ref (τ.2.2.2 (100 + 7)))] rfl (by decide) rfl rfl (Nat.le_of_ble_eq_true rfl) (fun κ C hR => ?_)
  have hiX3 : ∀ w ∈ wsX30, w ∈ wsX3_isName := fun w h => List.mem_cons_of_mem _ (List.mem_append_right _ h)
  unfold f_X3_isName__n7 at hR
  refine j_aload_n C dX3_isName_0 1 rfl rfl 0 rfl ?_
  refine j_get C dX3_isName_1 4 rfl hiX3 0 rfl rfl 2 (by decide) rfl kX3_isName__n7_f28 rfl ?_
  refine j_iconst (v := 1) C dX3_isName_4 5 rfl (by decide) ?_
  refine j_icmp_ne C dX3_isName_5 35 rfl 8 rfl (fun c1 => ?_) (fun c1 => ?_)
  · rw [if_neg c1] at hR
    refine j_iconst (v := 0) C dX3_isName_35 36 rfl (by decide) ?_
    exact Rt.ret (hR) (show narrow .boolean (.int (0 : Int32)) = .int (0 : Int32) from rfl) dX3_isName_36
  · rw [if_pos c1] at hR
    refine j_aload_n C dX3_isName_8 9 rfl rfl 0 rfl ?_
    refine j_get C dX3_isName_9 12 rfl hiX3 0 rfl rfl 4 (by decide) rfl kX3_isName__n7_f22 rfl ?_
    refine j_aload_n C dX3_isName_12 13 rfl rfl 0 rfl ?_
    refine j_get C dX3_isName_13 16 rfl hiX3 0 rfl rfl 3 (by decide) rfl kX3_isName__n7_f94 rfl ?_
    refine j_isub C dX3_isName_16 17 rfl ?_
    refine j_aload_n C dX3_isName_17 18 rfl rfl 1 rfl ?_
    refine j_cvKI (na := 0) C (i := 7) (by decide) dX3_isName_18 21 rfl (c_J0_length τ 7 (by decide) 4 rfl) rfl gX3_isName_J0_length_8abf5 rfl rfl rfl qdK2 rfl ⟨by decide, by decide⟩ ⟨by decide, by decide⟩ rfl (Nat.le_of_ble_eq_true rfl) (fun r2 u2 hX2 hn2 => ?_)
    obtain rfl := (Prod.mk.inj hX2).1
    refine j_icmp_ne C dX3_isName_21 35 rfl 24 rfl (fun c3 => ?_) (fun c3 => ?_)
    · rw [if_neg c3] at hR
      refine j_iconst (v := 0) C dX3_isName_35 36 rfl (by decide) ?_
      exact Rt.ret (hR) (show narrow .boolean (.int (0 : Int32)) = .int (0 : Int32) from rfl) dX3_isName_36
    · rw [if_pos c3] at hR
      refine j_aload_n C dX3_isName_24 25 rfl rfl 0 rfl ?_
      refine j_get C dX3_isName_25 28 rfl hiX3 0 rfl rfl 4 (by decide) rfl kX3_isName__n7_f22 rfl ?_
      refine j_aload_n C dX3_isName_28 29 rfl rfl 0 rfl ?_
      refine j_get C dX3_isName_29 32 rfl hiX3 0 rfl rfl 1 (by decide) rfl kX3_isName__n7_f15 rfl ?_
      refine j_icmp_le C dX3_isName_32 37 rfl 35 rfl (fun c4 => ?_) (fun c4 => ?_)
      · rw [if_pos c4] at hR
        refine j_iconst (v := 0) C dX3_isName_37 38 rfl (by decide) ?_
        refine j_istore_n C dX3_isName_38 39 rfl rfl (by decide) [(2, .int 0), (0, .ref (a 0)), (1, .ref (τ.2.2.2 (100 + 7)))] rfl ?_
        refine j_lv [1, 2, 0] [(0, .ref (a 0)), (1, .ref (τ.2.2.2 (100 + 7))), (2, .int 0)] rfl (L_X3_isName__n7_39 C a bs tz so fr tt ft  hf (nm_b (L := 4) hn hf ht c3 c4) (fun (o : (Int32) ⊕ (Int32)) => Rt τ κ cX3_isName .boolean (fun _ : Unit => (wP τ a bs tz so fr tt ft)) ((sm o (fun (z : Int32) => pr1 z (fun x2_5 => (1 : Int32))) (fun X => X), ()))) (fun x2_5  hR => ?_) (fun X hR => by rw [sm_inr] at hR; exact hR) 300 (0 : Int32) (by decide) (by decide) (by decide) hR)
        rw [sm_inl, pr1_mk x2_5] at hR
        refine j_iconst (v := 1) C dX3_isName_74 75 rfl (by decide) ?_
        exact Rt.ret (hR) (show narrow .boolean (.int (1 : Int32)) = .int (1 : Int32) from rfl) dX3_isName_75
      · rw [if_neg c4] at hR
        refine j_iconst (v := 0) C dX3_isName_35 36 rfl (by decide) ?_
        exact Rt.ret (hR) (show narrow .boolean (.int (0 : Int32)) = .int (0 : Int32) from rfl) dX3_isName_36

-- X3_isName
def l_X3_isName__n8_39 (bs : Nat → Int32) (fr : Int32) : Nat → Int32 → (Int32) ⊕ (Int32)
  | 0, x2 => Sum.inl x2
  | N + 1, x2 => if (5 ≤ x2) then (Sum.inl x2) else (if ((bs ((fr + x2)).toNatClampNeg) = (kch 8 (x2).toNatClampNeg)) then (l_X3_isName__n8_39 bs fr N (x2 + 1)) else (Sum.inr (0 : Int32)))
def f_X3_isName__n8 (bs : Nat → Int32) (tz : Int32) (so : Int32) (fr : Int32) (tt : Int32) : Int32 := if (so = 1) then (if ((tt - fr) = 5) then (if (tt ≤ tz) then (sm (l_X3_isName__n8_39 bs fr 300 (0 : Int32)) (fun (z5 : Int32) => pr1 z5 (fun x2_5 => (1 : Int32))) (fun X => X)) else (0 : Int32)) else (0 : Int32)) else (0 : Int32)
theorem kX3_isName__n8_f28 : Cond.fieldLink RX3 28 "TwoMinutes$Tape" "sort" "I" ∈ wsX3_isName := by decide +kernel
theorem kX3_isName__n8_f22 : Cond.fieldLink RX3 22 "TwoMinutes$Tape" "to" "I" ∈ wsX3_isName := by decide +kernel
theorem kX3_isName__n8_f94 : Cond.fieldLink RX3 94 "TwoMinutes$Tape" "from" "I" ∈ wsX3_isName := by decide +kernel
theorem kX3_isName__n8_f15 : Cond.fieldLink RX3 15 "TwoMinutes$Tape" "size" "I" ∈ wsX3_isName := by decide +kernel
theorem kX3_isName__n8_f11 : Cond.fieldLink RX3 11 "TwoMinutes$Tape" "bytes" "[I" ∈ wsX3_isName := by decide +kernel
theorem qd_X3_isName__n8 : yX3_isName.cls = RX3 ∧ yX3_isName.cls ≠ "java/lang/invoke/MethodHandle" ∧ yX3_isName.cls ≠ "java/lang/invoke/VarHandle" ∧ (parseMethodDescriptor yX3_isName.desc).map (fun d => d.parameters.length) = some 1 := by decide +kernel
abbrev rmX3_isName__n8 : Room := { frames := 4, cells := 0, slots := 0, locals := 85 }
set_option maxHeartbeats 4000000 in
set_option maxRecDepth 100000 in
theorem L_X3_isName__n8_39 {τ : SX} {κ : KX} (C : Cx τ κ cX3_isName RX3 wsX3_isName rmX3_isName__n8 3) (a : Nat → Nat) (bs : Nat → Int32) (tz : Int32) (so : Int32) (fr : Int32) (tt : Int32) (ft : Int32) (hf : TN fr) (hb : fr.toInt + 5 ≤ 200) (Φ : (Int32) ⊕ (Int32) → Prop) (hE : ∀ (x2 : Int32), Φ (Sum.inl x2) → J τ κ 0 0 (wP τ a bs tz so fr tt ft) [(0, .ref (a 0)), (1, .ref (τ.2.2.2 (100 + 8))), (2, .int x2)] 74 []) (hRet : ∀ X, Φ (Sum.inr X) → Rt τ κ cX3_isName .boolean (fun _ : Unit => (wP τ a bs tz so fr tt ft)) ((X, ()))) : ∀ (N : Nat) (x2 : Int32), ((5 : Int) - x2.toInt).toNat < N → (0 ≤ x2.toInt) → (x2.toInt ≤ 5) → Φ (l_X3_isName__n8_39 bs fr N x2) → J τ κ 0 0 (wP τ a bs tz so fr tt ft) [(0, .ref (a 0)), (1, .ref (τ.2.2.2 (100 + 8))), (2, .int x2)] 39 [] := by
  have hiX3 : ∀ w ∈ wsX30, w ∈ wsX3_isName := fun w h => List.mem_cons_of_mem _ (List.mem_append_right _ h)
  intro N
  induction N with
  | zero => intro x2 hm; exact absurd hm (Nat.not_lt_zero _)
  | succ N ih =>
    intro x2 hm h0 h1 hR
    rw [l_X3_isName__n8_39] at hR
    refine j_iload_n C dX3_isName_39 40 rfl rfl 2 rfl ?_
    refine j_aload_n C dX3_isName_40 41 rfl rfl 1 rfl ?_
    refine j_cvKI (na := 0) C (i := 8) (by decide) dX3_isName_41 44 rfl (c_J0_length τ 8 (by decide) 5 rfl) rfl gX3_isName_J0_length_8abf5 rfl rfl rfl qdK2 rfl ⟨by decide, by decide⟩ ⟨by decide, by decide⟩ rfl (Nat.le_of_ble_eq_true rfl) (fun r6 u6 hX6 hn6 => ?_)
    obtain rfl := (Prod.mk.inj hX6).1
    refine j_icmp_ge C dX3_isName_44 74 rfl 47 rfl (fun c7 => ?_) (fun c7 => ?_)
    · rw [if_pos c7] at hR
      exact j_lv [0, 1, 2] [(0, .ref (a 0)), (1, .ref (τ.2.2.2 (100 + 8))), (2, .int x2)] rfl (hE _  hR)
    · rw [if_neg c7] at hR
      have hs := cnt_step (B := 5) h0 (by decide) (by decide) c7
      refine j_aload_n C dX3_isName_47 48 rfl rfl 0 rfl ?_
      refine j_get C dX3_isName_48 51 rfl hiX3 0 rfl rfl 0 (by decide) rfl kX3_isName__n8_f11 rfl ?_
      refine j_aload_n C dX3_isName_51 52 rfl rfl 0 rfl ?_
      refine j_get C dX3_isName_52 55 rfl hiX3 0 rfl rfl 3 (by decide) rfl kX3_isName__n8_f94 rfl ?_
      refine j_iload_n C dX3_isName_55 56 rfl rfl 2 rfl ?_
      refine j_iadd C dX3_isName_56 57 rfl ?_
      refine j_iald C dX3_isName_57 58 rfl 1 rfl (nm_in hf hb h0 hs.2.2.2) ((fr + x2)).toNatClampNeg rfl ?_
      refine j_aload_n C dX3_isName_58 59 rfl rfl 1 rfl ?_
      refine j_iload_n C dX3_isName_59 60 rfl rfl 2 rfl ?_
      refine j_cvKI (na := 1) C (i := 8) (by decide) dX3_isName_60 63 rfl (c_J0_charAt τ 8 (by decide) x2 (vpI h0 hs.2.2.2)) rfl gX3_isName_J0_charAt_5068e rfl rfl rfl qdK3 rfl ⟨by decide, by decide⟩ ⟨by decide, by decide⟩ rfl (Nat.le_of_ble_eq_true rfl) (fun r8 u8 hX8 hn8 => ?_)
      obtain rfl := (Prod.mk.inj hX8).1
      refine j_icmp_eq C dX3_isName_63 68 rfl 66 rfl (fun c9 => ?_) (fun c9 => ?_)
      · rw [if_pos c9] at hR
        refine j_iinc (v := (x2 + 1)) C dX3_isName_68 71 rfl 2 rfl rfl (by decide) [(2, .int (x2 + 1)), (0, .ref (a 0)), (1, .ref (τ.2.2.2 (100 + 8)))] rfl ?_
        refine j_goto C dX3_isName_71 39 rfl ?_
        exact j_lv [1, 2, 0] [(0, .ref (a 0)), (1, .ref (τ.2.2.2 (100 + 8))), (2, .int (x2 + 1))] rfl (ih _ (by have := hs.2.2.1; omega) hs.1 hs.2.1 hR)
      · rw [if_neg c9] at hR
        refine j_iconst (v := 0) C dX3_isName_66 67 rfl (by decide) ?_
        exact Rt.ret (hRet _ hR) (show narrow .boolean (.int (0 : Int32)) = .int (0 : Int32) from rfl) dX3_isName_67
set_option maxHeartbeats 4000000 in
set_option maxRecDepth 100000 in
theorem c_X3_isName__n8 (τ : SX) (a : Nat → Nat) (bs : Nat → Int32) (tz : Int32) (so : Int32) (fr : Int32) (tt : Int32) (ft : Int32) (hn : TN tz) (hf : TN fr) (ht : TN tt) (sz : Nat) : McI τ yX3_isName wsX3_isName rmX3_isName__n8 .boolean [.ref (a 0), .ref (τ.2.2.2 (100 + 8))] (wP τ a bs tz so fr tt ft) (fun _ : Unit => (wP τ a bs tz so fr tt ft)) (f_X3_isName__n8 bs tz so fr tt, ()) sz := by
  refine mc_I (cc := cX3_isName) (own := RX3) [(0, .ref (a 0)), (1, .ref (τ.2.2.2 (100 + 8)))] rfl (by decide) rfl rfl (Nat.le_of_ble_eq_true rfl) (fun κ C hR => ?_)
  have hiX3 : ∀ w ∈ wsX30, w ∈ wsX3_isName := fun w h => List.mem_cons_of_mem _ (List.mem_append_right _ h)
  unfold f_X3_isName__n8 at hR
  refine j_aload_n C dX3_isName_0 1 rfl rfl 0 rfl ?_
  refine j_get C dX3_isName_1 4 rfl hiX3 0 rfl rfl 2 (by decide) rfl kX3_isName__n8_f28 rfl ?_
  refine j_iconst (v := 1) C dX3_isName_4 5 rfl (by decide) ?_
  refine j_icmp_ne C dX3_isName_5 35 rfl 8 rfl (fun c1 => ?_) (fun c1 => ?_)
  · rw [if_neg c1] at hR
    refine j_iconst (v := 0) C dX3_isName_35 36 rfl (by decide) ?_
    exact Rt.ret (hR) (show narrow .boolean (.int (0 : Int32)) = .int (0 : Int32) from rfl) dX3_isName_36
  · rw [if_pos c1] at hR
    refine j_aload_n C dX3_isName_8 9 rfl rfl 0 rfl ?_
    refine j_get C dX3_isName_9 12 rfl hiX3 0 rfl rfl 4 (by decide) rfl kX3_isName__n8_f22 rfl ?_
    refine j_aload_n C dX3_isName_12 13 rfl rfl 0 rfl ?_
    refine j_get C dX3_isName_13 16 rfl hiX3 0 rfl rfl 3 (by decide) rfl kX3_isName__n8_f94 rfl ?_
    refine j_isub C dX3_isName_16 17 rfl ?_
    refine j_aload_n C dX3_isName_17 18 rfl rfl 1 rfl ?_
    refine j_cvKI (na := 0) C (i := 8) (by decide) dX3_isName_18 21 rfl (c_J0_length τ 8 (by decide) 5 rfl) rfl gX3_isName_J0_length_8abf5 rfl rfl rfl qdK2 rfl ⟨by decide, by decide⟩ ⟨by decide, by decide⟩ rfl (Nat.le_of_ble_eq_true rfl) (fun r2 u2 hX2 hn2 => ?_)
    obtain rfl := (Prod.mk.inj hX2).1
    refine j_icmp_ne C dX3_isName_21 35 rfl 24 rfl (fun c3 => ?_) (fun c3 => ?_)
    · rw [if_neg c3] at hR
      refine j_iconst (v := 0) C dX3_isName_35 36 rfl (by decide) ?_
      exact Rt.ret (hR) (show narrow .boolean (.int (0 : Int32)) = .int (0 : Int32) from rfl) dX3_isName_36
    · rw [if_pos c3] at hR
      refine j_aload_n C dX3_isName_24 25 rfl rfl 0 rfl ?_
      refine j_get C dX3_isName_25 28 rfl hiX3 0 rfl rfl 4 (by decide) rfl kX3_isName__n8_f22 rfl ?_
      refine j_aload_n C dX3_isName_28 29 rfl rfl 0 rfl ?_
      refine j_get C dX3_isName_29 32 rfl hiX3 0 rfl rfl 1 (by decide) rfl kX3_isName__n8_f15 rfl ?_
      refine j_icmp_le C dX3_isName_32 37 rfl 35 rfl (fun c4 => ?_) (fun c4 => ?_)
      · rw [if_pos c4] at hR
        refine j_iconst (v := 0) C dX3_isName_37 38 rfl (by decide) ?_
        refine j_istore_n C dX3_isName_38 39 rfl rfl (by decide) [(2, .int 0), (0, .ref (a 0)), (1, .ref (τ.2.2.2 (100 + 8)))] rfl ?_
        refine j_lv [1, 2, 0] [(0, .ref (a 0)), (1, .ref (τ.2.2.2 (100 + 8))), (2, .int 0)] rfl (L_X3_isName__n8_39 C a bs tz so fr tt ft  hf (nm_b (L := 5) hn hf ht c3 c4) (fun (o : (Int32) ⊕ (Int32)) => Rt τ κ cX3_isName .boolean (fun _ : Unit => (wP τ a bs tz so fr tt ft)) ((sm o (fun (z : Int32) => pr1 z (fun x2_5 => (1 : Int32))) (fun X => X), ()))) (fun x2_5  hR => ?_) (fun X hR => by rw [sm_inr] at hR; exact hR) 300 (0 : Int32) (by decide) (by decide) (by decide) hR)
        rw [sm_inl, pr1_mk x2_5] at hR
        refine j_iconst (v := 1) C dX3_isName_74 75 rfl (by decide) ?_
        exact Rt.ret (hR) (show narrow .boolean (.int (1 : Int32)) = .int (1 : Int32) from rfl) dX3_isName_75
      · rw [if_neg c4] at hR
        refine j_iconst (v := 0) C dX3_isName_35 36 rfl (by decide) ?_
        exact Rt.ret (hR) (show narrow .boolean (.int (0 : Int32)) = .int (0 : Int32) from rfl) dX3_isName_36

-- X3_isName
def l_X3_isName__n9_39 (bs : Nat → Int32) (fr : Int32) : Nat → Int32 → (Int32) ⊕ (Int32)
  | 0, x2 => Sum.inl x2
  | N + 1, x2 => if (5 ≤ x2) then (Sum.inl x2) else (if ((bs ((fr + x2)).toNatClampNeg) = (kch 9 (x2).toNatClampNeg)) then (l_X3_isName__n9_39 bs fr N (x2 + 1)) else (Sum.inr (0 : Int32)))
def f_X3_isName__n9 (bs : Nat → Int32) (tz : Int32) (so : Int32) (fr : Int32) (tt : Int32) : Int32 := if (so = 1) then (if ((tt - fr) = 5) then (if (tt ≤ tz) then (sm (l_X3_isName__n9_39 bs fr 300 (0 : Int32)) (fun (z5 : Int32) => pr1 z5 (fun x2_5 => (1 : Int32))) (fun X => X)) else (0 : Int32)) else (0 : Int32)) else (0 : Int32)
theorem kX3_isName__n9_f28 : Cond.fieldLink RX3 28 "TwoMinutes$Tape" "sort" "I" ∈ wsX3_isName := by decide +kernel
theorem kX3_isName__n9_f22 : Cond.fieldLink RX3 22 "TwoMinutes$Tape" "to" "I" ∈ wsX3_isName := by decide +kernel
theorem kX3_isName__n9_f94 : Cond.fieldLink RX3 94 "TwoMinutes$Tape" "from" "I" ∈ wsX3_isName := by decide +kernel
theorem kX3_isName__n9_f15 : Cond.fieldLink RX3 15 "TwoMinutes$Tape" "size" "I" ∈ wsX3_isName := by decide +kernel
theorem kX3_isName__n9_f11 : Cond.fieldLink RX3 11 "TwoMinutes$Tape" "bytes" "[I" ∈ wsX3_isName := by decide +kernel
theorem qd_X3_isName__n9 : yX3_isName.cls = RX3 ∧ yX3_isName.cls ≠ "java/lang/invoke/MethodHandle" ∧ yX3_isName.cls ≠ "java/lang/invoke/VarHandle" ∧ (parseMethodDescriptor yX3_isName.desc).map (fun d => d.parameters.length) = some 1 := by decide +kernel
abbrev rmX3_isName__n9 : Room := { frames := 4, cells := 0, slots := 0, locals := 85 }
set_option maxHeartbeats 4000000 in
set_option maxRecDepth 100000 in
theorem L_X3_isName__n9_39 {τ : SX} {κ : KX} (C : Cx τ κ cX3_isName RX3 wsX3_isName rmX3_isName__n9 3) (a : Nat → Nat) (bs : Nat → Int32) (tz : Int32) (so : Int32) (fr : Int32) (tt : Int32) (ft : Int32) (hf : TN fr) (hb : fr.toInt + 5 ≤ 200) (Φ : (Int32) ⊕ (Int32) → Prop) (hE : ∀ (x2 : Int32), Φ (Sum.inl x2) → J τ κ 0 0 (wP τ a bs tz so fr tt ft) [(0, .ref (a 0)), (1, .ref (τ.2.2.2 (100 + 9))), (2, .int x2)] 74 []) (hRet : ∀ X, Φ (Sum.inr X) → Rt τ κ cX3_isName .boolean (fun _ : Unit => (wP τ a bs tz so fr tt ft)) ((X, ()))) : ∀ (N : Nat) (x2 : Int32), ((5 : Int) - x2.toInt).toNat < N → (0 ≤ x2.toInt) → (x2.toInt ≤ 5) → Φ (l_X3_isName__n9_39 bs fr N x2) → J τ κ 0 0 (wP τ a bs tz so fr tt ft) [(0, .ref (a 0)), (1, .ref (τ.2.2.2 (100 + 9))), (2, .int x2)] 39 [] := by
  have hiX3 : ∀ w ∈ wsX30, w ∈ wsX3_isName := fun w h => List.mem_cons_of_mem _ (List.mem_append_right _ h)
  intro N
  induction N with
  | zero => intro x2 hm; exact absurd hm (Nat.not_lt_zero _)
  | succ N ih =>
    intro x2 hm h0 h1 hR
    rw [l_X3_isName__n9_39] at hR
    refine j_iload_n C dX3_isName_39 40 rfl rfl 2 rfl ?_
    refine j_aload_n C dX3_isName_40 41 rfl rfl 1 rfl ?_
    refine j_cvKI (na := 0) C (i := 9) (by decide) dX3_isName_41 44 rfl (c_J0_length τ 9 (by decide) 5 rfl) rfl gX3_isName_J0_length_8abf5 rfl rfl rfl qdK2 rfl ⟨by decide, by decide⟩ ⟨by decide, by decide⟩ rfl (Nat.le_of_ble_eq_true rfl) (fun r6 u6 hX6 hn6 => ?_)
    obtain rfl := (Prod.mk.inj hX6).1
    refine j_icmp_ge C dX3_isName_44 74 rfl 47 rfl (fun c7 => ?_) (fun c7 => ?_)
    · rw [if_pos c7] at hR
      exact j_lv [0, 1, 2] [(0, .ref (a 0)), (1, .ref (τ.2.2.2 (100 + 9))), (2, .int x2)] rfl (hE _  hR)
    · rw [if_neg c7] at hR
      have hs := cnt_step (B := 5) h0 (by decide) (by decide) c7
      refine j_aload_n C dX3_isName_47 48 rfl rfl 0 rfl ?_
      refine j_get C dX3_isName_48 51 rfl hiX3 0 rfl rfl 0 (by decide) rfl kX3_isName__n9_f11 rfl ?_
      refine j_aload_n C dX3_isName_51 52 rfl rfl 0 rfl ?_
      refine j_get C dX3_isName_52 55 rfl hiX3 0 rfl rfl 3 (by decide) rfl kX3_isName__n9_f94 rfl ?_
      refine j_iload_n C dX3_isName_55 56 rfl rfl 2 rfl ?_
      refine j_iadd C dX3_isName_56 57 rfl ?_
      refine j_iald C dX3_isName_57 58 rfl 1 rfl (nm_in hf hb h0 hs.2.2.2) ((fr + x2)).toNatClampNeg rfl ?_
      refine j_aload_n C dX3_isName_58 59 rfl rfl 1 rfl ?_
      refine j_iload_n C dX3_isName_59 60 rfl rfl 2 rfl ?_
      refine j_cvKI (na := 1) C (i := 9) (by decide) dX3_isName_60 63 rfl (c_J0_charAt τ 9 (by decide) x2 (vpI h0 hs.2.2.2)) rfl gX3_isName_J0_charAt_5068e rfl rfl rfl qdK3 rfl ⟨by decide, by decide⟩ ⟨by decide, by decide⟩ rfl (Nat.le_of_ble_eq_true rfl) (fun r8 u8 hX8 hn8 => ?_)
      obtain rfl := (Prod.mk.inj hX8).1
      refine j_icmp_eq C dX3_isName_63 68 rfl 66 rfl (fun c9 => ?_) (fun c9 => ?_)
      · rw [if_pos c9] at hR
        refine j_iinc (v := (x2 + 1)) C dX3_isName_68 71 rfl 2 rfl rfl (by decide) [(2, .int (x2 + 1)), (0, .ref (a 0)), (1, .ref (τ.2.2.2 (100 + 9)))] rfl ?_
        refine j_goto C dX3_isName_71 39 rfl ?_
        exact j_lv [1, 2, 0] [(0, .ref (a 0)), (1, .ref (τ.2.2.2 (100 + 9))), (2, .int (x2 + 1))] rfl (ih _ (by have := hs.2.2.1; omega) hs.1 hs.2.1 hR)
      · rw [if_neg c9] at hR
        refine j_iconst (v := 0) C dX3_isName_66 67 rfl (by decide) ?_
        exact Rt.ret (hRet _ hR) (show narrow .boolean (.int (0 : Int32)) = .int (0 : Int32) from rfl) dX3_isName_67
set_option maxHeartbeats 4000000 in
set_option maxRecDepth 100000 in
theorem c_X3_isName__n9 (τ : SX) (a : Nat → Nat) (bs : Nat → Int32) (tz : Int32) (so : Int32) (fr : Int32) (tt : Int32) (ft : Int32) (hn : TN tz) (hf : TN fr) (ht : TN tt) (sz : Nat) : McI τ yX3_isName wsX3_isName rmX3_isName__n9 .boolean [.ref (a 0), .ref (τ.2.2.2 (100 + 9))] (wP τ a bs tz so fr tt ft) (fun _ : Unit => (wP τ a bs tz so fr tt ft)) (f_X3_isName__n9 bs tz so fr tt, ()) sz := by
  refine mc_I (cc := cX3_isName) (own := RX3) [(0, .ref (a 0)), (1, .ref (τ.2.2.2 (100 + 9)))] rfl (by decide) rfl rfl (Nat.le_of_ble_eq_true rfl) (fun κ C hR => ?_)
  have hiX3 : ∀ w ∈ wsX30, w ∈ wsX3_isName := fun w h => List.mem_cons_of_mem _ (List.mem_append_right _ h)
  unfold f_X3_isName__n9 at hR
  refine j_aload_n C dX3_isName_0 1 rfl rfl 0 rfl ?_
  refine j_get C dX3_isName_1 4 rfl hiX3 0 rfl rfl 2 (by decide) rfl kX3_isName__n9_f28 rfl ?_
  refine j_iconst (v := 1) C dX3_isName_4 5 rfl (by decide) ?_
  refine j_icmp_ne C dX3_isName_5 35 rfl 8 rfl (fun c1 => ?_) (fun c1 => ?_)
  · rw [if_neg c1] at hR
    refine j_iconst (v := 0) C dX3_isName_35 36 rfl (by decide) ?_
    exact Rt.ret (hR) (show narrow .boolean (.int (0 : Int32)) = .int (0 : Int32) from rfl) dX3_isName_36
  · rw [if_pos c1] at hR
    refine j_aload_n C dX3_isName_8 9 rfl rfl 0 rfl ?_
    refine j_get C dX3_isName_9 12 rfl hiX3 0 rfl rfl 4 (by decide) rfl kX3_isName__n9_f22 rfl ?_
    refine j_aload_n C dX3_isName_12 13 rfl rfl 0 rfl ?_
    refine j_get C dX3_isName_13 16 rfl hiX3 0 rfl rfl 3 (by decide) rfl kX3_isName__n9_f94 rfl ?_
    refine j_isub C dX3_isName_16 17 rfl ?_
    refine j_aload_n C dX3_isName_17 18 rfl rfl 1 rfl ?_
    refine j_cvKI (na := 0) C (i := 9) (by decide) dX3_isName_18 21 rfl (c_J0_length τ 9 (by decide) 5 rfl) rfl gX3_isName_J0_length_8abf5 rfl rfl rfl qdK2 rfl ⟨by decide, by decide⟩ ⟨by decide, by decide⟩ rfl (Nat.le_of_ble_eq_true rfl) (fun r2 u2 hX2 hn2 => ?_)
    obtain rfl := (Prod.mk.inj hX2).1
    refine j_icmp_ne C dX3_isName_21 35 rfl 24 rfl (fun c3 => ?_) (fun c3 => ?_)
    · rw [if_neg c3] at hR
      refine j_iconst (v := 0) C dX3_isName_35 36 rfl (by decide) ?_
      exact Rt.ret (hR) (show narrow .boolean (.int (0 : Int32)) = .int (0 : Int32) from rfl) dX3_isName_36
    · rw [if_pos c3] at hR
      refine j_aload_n C dX3_isName_24 25 rfl rfl 0 rfl ?_
      refine j_get C dX3_isName_25 28 rfl hiX3 0 rfl rfl 4 (by decide) rfl kX3_isName__n9_f22 rfl ?_
      refine j_aload_n C dX3_isName_28 29 rfl rfl 0 rfl ?_
      refine j_get C dX3_isName_29 32 rfl hiX3 0 rfl rfl 1 (by decide) rfl kX3_isName__n9_f15 rfl ?_
      refine j_icmp_le C dX3_isName_32 37 rfl 35 rfl (fun c4 => ?_) (fun c4 => ?_)
      · rw [if_pos c4] at hR
        refine j_iconst (v := 0) C dX3_isName_37 38 rfl (by decide) ?_
        refine j_istore_n C dX3_isName_38 39 rfl rfl (by decide) [(2, .int 0), (0, .ref (a 0)), (1, .ref (τ.2.2.2 (100 + 9)))] rfl ?_
        refine j_lv [1, 2, 0] [(0, .ref (a 0)), (1, .ref (τ.2.2.2 (100 + 9))), (2, .int 0)] rfl (L_X3_isName__n9_39 C a bs tz so fr tt ft  hf (nm_b (L := 5) hn hf ht c3 c4) (fun (o : (Int32) ⊕ (Int32)) => Rt τ κ cX3_isName .boolean (fun _ : Unit => (wP τ a bs tz so fr tt ft)) ((sm o (fun (z : Int32) => pr1 z (fun x2_5 => (1 : Int32))) (fun X => X), ()))) (fun x2_5  hR => ?_) (fun X hR => by rw [sm_inr] at hR; exact hR) 300 (0 : Int32) (by decide) (by decide) (by decide) hR)
        rw [sm_inl, pr1_mk x2_5] at hR
        refine j_iconst (v := 1) C dX3_isName_74 75 rfl (by decide) ?_
        exact Rt.ret (hR) (show narrow .boolean (.int (1 : Int32)) = .int (1 : Int32) from rfl) dX3_isName_75
      · rw [if_neg c4] at hR
        refine j_iconst (v := 0) C dX3_isName_35 36 rfl (by decide) ?_
        exact Rt.ret (hR) (show narrow .boolean (.int (0 : Int32)) = .int (0 : Int32) from rfl) dX3_isName_36

-- X3_isName
def l_X3_isName__n10_39 (bs : Nat → Int32) (fr : Int32) : Nat → Int32 → (Int32) ⊕ (Int32)
  | 0, x2 => Sum.inl x2
  | N + 1, x2 => if (2 ≤ x2) then (Sum.inl x2) else (if ((bs ((fr + x2)).toNatClampNeg) = (kch 10 (x2).toNatClampNeg)) then (l_X3_isName__n10_39 bs fr N (x2 + 1)) else (Sum.inr (0 : Int32)))
def f_X3_isName__n10 (bs : Nat → Int32) (tz : Int32) (so : Int32) (fr : Int32) (tt : Int32) : Int32 := if (so = 1) then (if ((tt - fr) = 2) then (if (tt ≤ tz) then (sm (l_X3_isName__n10_39 bs fr 300 (0 : Int32)) (fun (z5 : Int32) => pr1 z5 (fun x2_5 => (1 : Int32))) (fun X => X)) else (0 : Int32)) else (0 : Int32)) else (0 : Int32)
theorem kX3_isName__n10_f28 : Cond.fieldLink RX3 28 "TwoMinutes$Tape" "sort" "I" ∈ wsX3_isName := by decide +kernel
theorem kX3_isName__n10_f22 : Cond.fieldLink RX3 22 "TwoMinutes$Tape" "to" "I" ∈ wsX3_isName := by decide +kernel
theorem kX3_isName__n10_f94 : Cond.fieldLink RX3 94 "TwoMinutes$Tape" "from" "I" ∈ wsX3_isName := by decide +kernel
theorem kX3_isName__n10_f15 : Cond.fieldLink RX3 15 "TwoMinutes$Tape" "size" "I" ∈ wsX3_isName := by decide +kernel
theorem kX3_isName__n10_f11 : Cond.fieldLink RX3 11 "TwoMinutes$Tape" "bytes" "[I" ∈ wsX3_isName := by decide +kernel
theorem qd_X3_isName__n10 : yX3_isName.cls = RX3 ∧ yX3_isName.cls ≠ "java/lang/invoke/MethodHandle" ∧ yX3_isName.cls ≠ "java/lang/invoke/VarHandle" ∧ (parseMethodDescriptor yX3_isName.desc).map (fun d => d.parameters.length) = some 1 := by decide +kernel
abbrev rmX3_isName__n10 : Room := { frames := 4, cells := 0, slots := 0, locals := 85 }
set_option maxHeartbeats 4000000 in
set_option maxRecDepth 100000 in
theorem L_X3_isName__n10_39 {τ : SX} {κ : KX} (C : Cx τ κ cX3_isName RX3 wsX3_isName rmX3_isName__n10 3) (a : Nat → Nat) (bs : Nat → Int32) (tz : Int32) (so : Int32) (fr : Int32) (tt : Int32) (ft : Int32) (hf : TN fr) (hb : fr.toInt + 2 ≤ 200) (Φ : (Int32) ⊕ (Int32) → Prop) (hE : ∀ (x2 : Int32), Φ (Sum.inl x2) → J τ κ 0 0 (wP τ a bs tz so fr tt ft) [(0, .ref (a 0)), (1, .ref (τ.2.2.2 (100 + 10))), (2, .int x2)] 74 []) (hRet : ∀ X, Φ (Sum.inr X) → Rt τ κ cX3_isName .boolean (fun _ : Unit => (wP τ a bs tz so fr tt ft)) ((X, ()))) : ∀ (N : Nat) (x2 : Int32), ((2 : Int) - x2.toInt).toNat < N → (0 ≤ x2.toInt) → (x2.toInt ≤ 2) → Φ (l_X3_isName__n10_39 bs fr N x2) → J τ κ 0 0 (wP τ a bs tz so fr tt ft) [(0, .ref (a 0)), (1, .ref (τ.2.2.2 (100 + 10))), (2, .int x2)] 39 [] := by
  have hiX3 : ∀ w ∈ wsX30, w ∈ wsX3_isName := fun w h => List.mem_cons_of_mem _ (List.mem_append_right _ h)
  intro N
  induction N with
  | zero => intro x2 hm; exact absurd hm (Nat.not_lt_zero _)
  | succ N ih =>
    intro x2 hm h0 h1 hR
    rw [l_X3_isName__n10_39] at hR
    refine j_iload_n C dX3_isName_39 40 rfl rfl 2 rfl ?_
    refine j_aload_n C dX3_isName_40 41 rfl rfl 1 rfl ?_
    refine j_cvKI (na := 0) C (i := 10) (by decide) dX3_isName_41 44 rfl (c_J0_length τ 10 (by decide) 2 rfl) rfl gX3_isName_J0_length_8abf5 rfl rfl rfl qdK2 rfl ⟨by decide, by decide⟩ ⟨by decide, by decide⟩ rfl (Nat.le_of_ble_eq_true rfl) (fun r6 u6 hX6 hn6 => ?_)
    obtain rfl := (Prod.mk.inj hX6).1
    refine j_icmp_ge C dX3_isName_44 74 rfl 47 rfl (fun c7 => ?_) (fun c7 => ?_)
    · rw [if_pos c7] at hR
      exact j_lv [0, 1, 2] [(0, .ref (a 0)), (1, .ref (τ.2.2.2 (100 + 10))), (2, .int x2)] rfl (hE _  hR)
    · rw [if_neg c7] at hR
      have hs := cnt_step (B := 2) h0 (by decide) (by decide) c7
      refine j_aload_n C dX3_isName_47 48 rfl rfl 0 rfl ?_
      refine j_get C dX3_isName_48 51 rfl hiX3 0 rfl rfl 0 (by decide) rfl kX3_isName__n10_f11 rfl ?_
      refine j_aload_n C dX3_isName_51 52 rfl rfl 0 rfl ?_
      refine j_get C dX3_isName_52 55 rfl hiX3 0 rfl rfl 3 (by decide) rfl kX3_isName__n10_f94 rfl ?_
      refine j_iload_n C dX3_isName_55 56 rfl rfl 2 rfl ?_
      refine j_iadd C dX3_isName_56 57 rfl ?_
      refine j_iald C dX3_isName_57 58 rfl 1 rfl (nm_in hf hb h0 hs.2.2.2) ((fr + x2)).toNatClampNeg rfl ?_
      refine j_aload_n C dX3_isName_58 59 rfl rfl 1 rfl ?_
      refine j_iload_n C dX3_isName_59 60 rfl rfl 2 rfl ?_
      refine j_cvKI (na := 1) C (i := 10) (by decide) dX3_isName_60 63 rfl (c_J0_charAt τ 10 (by decide) x2 (vpI h0 hs.2.2.2)) rfl gX3_isName_J0_charAt_5068e rfl rfl rfl qdK3 rfl ⟨by decide, by decide⟩ ⟨by decide, by decide⟩ rfl (Nat.le_of_ble_eq_true rfl) (fun r8 u8 hX8 hn8 => ?_)
      obtain rfl := (Prod.mk.inj hX8).1
      refine j_icmp_eq C dX3_isName_63 68 rfl 66 rfl (fun c9 => ?_) (fun c9 => ?_)
      · rw [if_pos c9] at hR
        refine j_iinc (v := (x2 + 1)) C dX3_isName_68 71 rfl 2 rfl rfl (by decide) [(2, .int (x2 + 1)), (0, .ref (a 0)), (1, .ref (τ.2.2.2 (100 + 10)))] rfl ?_
        refine j_goto C dX3_isName_71 39 rfl ?_
        exact j_lv [1, 2, 0] [(0, .ref (a 0)), (1, .ref (τ.2.2.2 (100 + 10))), (2, .int (x2 + 1))] rfl (ih _ (by have := hs.2.2.1; omega) hs.1 hs.2.1 hR)
      · rw [if_neg c9] at hR
        refine j_iconst (v := 0) C dX3_isName_66 67 rfl (by decide) ?_
        exact Rt.ret (hRet _ hR) (show narrow .boolean (.int (0 : Int32)) = .int (0 : Int32) from rfl) dX3_isName_67
set_option maxHeartbeats 4000000 in
set_option maxRecDepth 100000 in
theorem c_X3_isName__n10 (τ : SX) (a : Nat → Nat) (bs : Nat → Int32) (tz : Int32) (so : Int32) (fr : Int32) (tt : Int32) (ft : Int32) (hn : TN tz) (hf : TN fr) (ht : TN tt) (sz : Nat) : McI τ yX3_isName wsX3_isName rmX3_isName__n10 .boolean [.ref (a 0), .ref (τ.2.2.2 (100 + 10))] (wP τ a bs tz so fr tt ft) (fun _ : Unit => (wP τ a bs tz so fr tt ft)) (f_X3_isName__n10 bs tz so fr tt, ()) sz := by
  refine mc_I (cc := cX3_isName) (own := RX3) [(0, .ref (a 0)), (1, .ref (τ.2.2.2 (100 + 10)))] rfl (by decide) rfl rfl (Nat.le_of_ble_eq_true rfl) (fun κ C hR => ?_)
  have hiX3 : ∀ w ∈ wsX30, w ∈ wsX3_isName := fun w h => List.mem_cons_of_mem _ (List.mem_append_right _ h)
  unfold f_X3_isName__n10 at hR
  refine j_aload_n C dX3_isName_0 1 rfl rfl 0 rfl ?_
  refine j_get C dX3_isName_1 4 rfl hiX3 0 rfl rfl 2 (by decide) rfl kX3_isName__n10_f28 rfl ?_
  refine j_iconst (v := 1) C dX3_isName_4 5 rfl (by decide) ?_
  refine j_icmp_ne C dX3_isName_5 35 rfl 8 rfl (fun c1 => ?_) (fun c1 => ?_)
  · rw [if_neg c1] at hR
    refine j_iconst (v := 0) C dX3_isName_35 36 rfl (by decide) ?_
    exact Rt.ret (hR) (show narrow .boolean (.int (0 : Int32)) = .int (0 : Int32) from rfl) dX3_isName_36
  · rw [if_pos c1] at hR
    refine j_aload_n C dX3_isName_8 9 rfl rfl 0 rfl ?_
    refine j_get C dX3_isName_9 12 rfl hiX3 0 rfl rfl 4 (by decide) rfl kX3_isName__n10_f22 rfl ?_
    refine j_aload_n C dX3_isName_12 13 rfl rfl 0 rfl ?_
    refine j_get C dX3_isName_13 16 rfl hiX3 0 rfl rfl 3 (by decide) rfl kX3_isName__n10_f94 rfl ?_
    refine j_isub C dX3_isName_16 17 rfl ?_
    refine j_aload_n C dX3_isName_17 18 rfl rfl 1 rfl ?_
    refine j_cvKI (na := 0) C (i := 10) (by decide) dX3_isName_18 21 rfl (c_J0_length τ 10 (by decide) 2 rfl) rfl gX3_isName_J0_length_8abf5 rfl rfl rfl qdK2 rfl ⟨by decide, by decide⟩ ⟨by decide, by decide⟩ rfl (Nat.le_of_ble_eq_true rfl) (fun r2 u2 hX2 hn2 => ?_)
    obtain rfl := (Prod.mk.inj hX2).1
    refine j_icmp_ne C dX3_isName_21 35 rfl 24 rfl (fun c3 => ?_) (fun c3 => ?_)
    · rw [if_neg c3] at hR
      refine j_iconst (v := 0) C dX3_isName_35 36 rfl (by decide) ?_
      exact Rt.ret (hR) (show narrow .boolean (.int (0 : Int32)) = .int (0 : Int32) from rfl) dX3_isName_36
    · rw [if_pos c3] at hR
      refine j_aload_n C dX3_isName_24 25 rfl rfl 0 rfl ?_
      refine j_get C dX3_isName_25 28 rfl hiX3 0 rfl rfl 4 (by decide) rfl kX3_isName__n10_f22 rfl ?_
      refine j_aload_n C dX3_isName_28 29 rfl rfl 0 rfl ?_
      refine j_get C dX3_isName_29 32 rfl hiX3 0 rfl rfl 1 (by decide) rfl kX3_isName__n10_f15 rfl ?_
      refine j_icmp_le C dX3_isName_32 37 rfl 35 rfl (fun c4 => ?_) (fun c4 => ?_)
      · rw [if_pos c4] at hR
        refine j_iconst (v := 0) C dX3_isName_37 38 rfl (by decide) ?_
        refine j_istore_n C dX3_isName_38 39 rfl rfl (by decide) [(2, .int 0), (0, .ref (a 0)), (1, .ref (τ.2.2.2 (100 + 10)))] rfl ?_
        refine j_lv [1, 2, 0] [(0, .ref (a 0)), (1, .ref (τ.2.2.2 (100 + 10))), (2, .int 0)] rfl (L_X3_isName__n10_39 C a bs tz so fr tt ft  hf (nm_b (L := 2) hn hf ht c3 c4) (fun (o : (Int32) ⊕ (Int32)) => Rt τ κ cX3_isName .boolean (fun _ : Unit => (wP τ a bs tz so fr tt ft)) ((sm o (fun (z : Int32) => pr1 z (fun x2_5 => (1 : Int32))) (fun X => X), ()))) (fun x2_5  hR => ?_) (fun X hR => by rw [sm_inr] at hR; exact hR) 300 (0 : Int32) (by decide) (by decide) (by decide) hR)
        rw [sm_inl, pr1_mk x2_5] at hR
        refine j_iconst (v := 1) C dX3_isName_74 75 rfl (by decide) ?_
        exact Rt.ret (hR) (show narrow .boolean (.int (1 : Int32)) = .int (1 : Int32) from rfl) dX3_isName_75
      · rw [if_neg c4] at hR
        refine j_iconst (v := 0) C dX3_isName_35 36 rfl (by decide) ?_
        exact Rt.ret (hR) (show narrow .boolean (.int (0 : Int32)) = .int (0 : Int32) from rfl) dX3_isName_36

-- X3_isName
def l_X3_isName__n11_39 (bs : Nat → Int32) (fr : Int32) : Nat → Int32 → (Int32) ⊕ (Int32)
  | 0, x2 => Sum.inl x2
  | N + 1, x2 => if (4 ≤ x2) then (Sum.inl x2) else (if ((bs ((fr + x2)).toNatClampNeg) = (kch 11 (x2).toNatClampNeg)) then (l_X3_isName__n11_39 bs fr N (x2 + 1)) else (Sum.inr (0 : Int32)))
def f_X3_isName__n11 (bs : Nat → Int32) (tz : Int32) (so : Int32) (fr : Int32) (tt : Int32) : Int32 := if (so = 1) then (if ((tt - fr) = 4) then (if (tt ≤ tz) then (sm (l_X3_isName__n11_39 bs fr 300 (0 : Int32)) (fun (z5 : Int32) => pr1 z5 (fun x2_5 => (1 : Int32))) (fun X => X)) else (0 : Int32)) else (0 : Int32)) else (0 : Int32)
theorem kX3_isName__n11_f28 : Cond.fieldLink RX3 28 "TwoMinutes$Tape" "sort" "I" ∈ wsX3_isName := by decide +kernel
theorem kX3_isName__n11_f22 : Cond.fieldLink RX3 22 "TwoMinutes$Tape" "to" "I" ∈ wsX3_isName := by decide +kernel
theorem kX3_isName__n11_f94 : Cond.fieldLink RX3 94 "TwoMinutes$Tape" "from" "I" ∈ wsX3_isName := by decide +kernel
theorem kX3_isName__n11_f15 : Cond.fieldLink RX3 15 "TwoMinutes$Tape" "size" "I" ∈ wsX3_isName := by decide +kernel
theorem kX3_isName__n11_f11 : Cond.fieldLink RX3 11 "TwoMinutes$Tape" "bytes" "[I" ∈ wsX3_isName := by decide +kernel
theorem qd_X3_isName__n11 : yX3_isName.cls = RX3 ∧ yX3_isName.cls ≠ "java/lang/invoke/MethodHandle" ∧ yX3_isName.cls ≠ "java/lang/invoke/VarHandle" ∧ (parseMethodDescriptor yX3_isName.desc).map (fun d => d.parameters.length) = some 1 := by decide +kernel
abbrev rmX3_isName__n11 : Room := { frames := 4, cells := 0, slots := 0, locals := 85 }
set_option maxHeartbeats 4000000 in
set_option maxRecDepth 100000 in
theorem L_X3_isName__n11_39 {τ : SX} {κ : KX} (C : Cx τ κ cX3_isName RX3 wsX3_isName rmX3_isName__n11 3) (a : Nat → Nat) (bs : Nat → Int32) (tz : Int32) (so : Int32) (fr : Int32) (tt : Int32) (ft : Int32) (hf : TN fr) (hb : fr.toInt + 4 ≤ 200) (Φ : (Int32) ⊕ (Int32) → Prop) (hE : ∀ (x2 : Int32), Φ (Sum.inl x2) → J τ κ 0 0 (wP τ a bs tz so fr tt ft) [(0, .ref (a 0)), (1, .ref (τ.2.2.2 (100 + 11))), (2, .int x2)] 74 []) (hRet : ∀ X, Φ (Sum.inr X) → Rt τ κ cX3_isName .boolean (fun _ : Unit => (wP τ a bs tz so fr tt ft)) ((X, ()))) : ∀ (N : Nat) (x2 : Int32), ((4 : Int) - x2.toInt).toNat < N → (0 ≤ x2.toInt) → (x2.toInt ≤ 4) → Φ (l_X3_isName__n11_39 bs fr N x2) → J τ κ 0 0 (wP τ a bs tz so fr tt ft) [(0, .ref (a 0)), (1, .ref (τ.2.2.2 (100 + 11))), (2, .int x2)] 39 [] := by
  have hiX3 : ∀ w ∈ wsX30, w ∈ wsX3_isName := fun w h => List.mem_cons_of_mem _ (List.mem_append_right _ h)
  intro N
  induction N with
  | zero => intro x2 hm; exact absurd hm (Nat.not_lt_zero _)
  | succ N ih =>
    intro x2 hm h0 h1 hR
    rw [l_X3_isName__n11_39] at hR
    refine j_iload_n C dX3_isName_39 40 rfl rfl 2 rfl ?_
    refine j_aload_n C dX3_isName_40 41 rfl rfl 1 rfl ?_
    refine j_cvKI (na := 0) C (i := 11) (by decide) dX3_isName_41 44 rfl (c_J0_length τ 11 (by decide) 4 rfl) rfl gX3_isName_J0_length_8abf5 rfl rfl rfl qdK2 rfl ⟨by decide, by decide⟩ ⟨by decide, by decide⟩ rfl (Nat.le_of_ble_eq_true rfl) (fun r6 u6 hX6 hn6 => ?_)
    obtain rfl := (Prod.mk.inj hX6).1
    refine j_icmp_ge C dX3_isName_44 74 rfl 47 rfl (fun c7 => ?_) (fun c7 => ?_)
    · rw [if_pos c7] at hR
      exact j_lv [0, 1, 2] [(0, .ref (a 0)), (1, .ref (τ.2.2.2 (100 + 11))), (2, .int x2)] rfl (hE _  hR)
    · rw [if_neg c7] at hR
      have hs := cnt_step (B := 4) h0 (by decide) (by decide) c7
      refine j_aload_n C dX3_isName_47 48 rfl rfl 0 rfl ?_
      refine j_get C dX3_isName_48 51 rfl hiX3 0 rfl rfl 0 (by decide) rfl kX3_isName__n11_f11 rfl ?_
      refine j_aload_n C dX3_isName_51 52 rfl rfl 0 rfl ?_
      refine j_get C dX3_isName_52 55 rfl hiX3 0 rfl rfl 3 (by decide) rfl kX3_isName__n11_f94 rfl ?_
      refine j_iload_n C dX3_isName_55 56 rfl rfl 2 rfl ?_
      refine j_iadd C dX3_isName_56 57 rfl ?_
      refine j_iald C dX3_isName_57 58 rfl 1 rfl (nm_in hf hb h0 hs.2.2.2) ((fr + x2)).toNatClampNeg rfl ?_
      refine j_aload_n C dX3_isName_58 59 rfl rfl 1 rfl ?_
      refine j_iload_n C dX3_isName_59 60 rfl rfl 2 rfl ?_
      refine j_cvKI (na := 1) C (i := 11) (by decide) dX3_isName_60 63 rfl (c_J0_charAt τ 11 (by decide) x2 (vpI h0 hs.2.2.2)) rfl gX3_isName_J0_charAt_5068e rfl rfl rfl qdK3 rfl ⟨by decide, by decide⟩ ⟨by decide, by decide⟩ rfl (Nat.le_of_ble_eq_true rfl) (fun r8 u8 hX8 hn8 => ?_)
      obtain rfl := (Prod.mk.inj hX8).1
      refine j_icmp_eq C dX3_isName_63 68 rfl 66 rfl (fun c9 => ?_) (fun c9 => ?_)
      · rw [if_pos c9] at hR
        refine j_iinc (v := (x2 + 1)) C dX3_isName_68 71 rfl 2 rfl rfl (by decide) [(2, .int (x2 + 1)), (0, .ref (a 0)), (1, .ref (τ.2.2.2 (100 + 11)))] rfl ?_
        refine j_goto C dX3_isName_71 39 rfl ?_
        exact j_lv [1, 2, 0] [(0, .ref (a 0)), (1, .ref (τ.2.2.2 (100 + 11))), (2, .int (x2 + 1))] rfl (ih _ (by have := hs.2.2.1; omega) hs.1 hs.2.1 hR)
      · rw [if_neg c9] at hR
        refine j_iconst (v := 0) C dX3_isName_66 67 rfl (by decide) ?_
        exact Rt.ret (hRet _ hR) (show narrow .boolean (.int (0 : Int32)) = .int (0 : Int32) from rfl) dX3_isName_67
set_option maxHeartbeats 4000000 in
set_option maxRecDepth 100000 in
theorem c_X3_isName__n11 (τ : SX) (a : Nat → Nat) (bs : Nat → Int32) (tz : Int32) (so : Int32) (fr : Int32) (tt : Int32) (ft : Int32) (hn : TN tz) (hf : TN fr) (ht : TN tt) (sz : Nat) : McI τ yX3_isName wsX3_isName rmX3_isName__n11 .boolean [.ref (a 0), .ref (τ.2.2.2 (100 + 11))] (wP τ a bs tz so fr tt ft) (fun _ : Unit => (wP τ a bs tz so fr tt ft)) (f_X3_isName__n11 bs tz so fr tt, ()) sz := by
  refine mc_I (cc := cX3_isName) (own := RX3) [(0, .ref (a 0)), (1, .ref (τ.2.2.2 (100 + 11)))] rfl (by decide) rfl rfl (Nat.le_of_ble_eq_true rfl) (fun κ C hR => ?_)
  have hiX3 : ∀ w ∈ wsX30, w ∈ wsX3_isName := fun w h => List.mem_cons_of_mem _ (List.mem_append_right _ h)
  unfold f_X3_isName__n11 at hR
  refine j_aload_n C dX3_isName_0 1 rfl rfl 0 rfl ?_
  refine j_get C dX3_isName_1 4 rfl hiX3 0 rfl rfl 2 (by decide) rfl kX3_isName__n11_f28 rfl ?_
  refine j_iconst (v := 1) C dX3_isName_4 5 rfl (by decide) ?_
  refine j_icmp_ne C dX3_isName_5 35 rfl 8 rfl (fun c1 => ?_) (fun c1 => ?_)
  · rw [if_neg c1] at hR
    refine j_iconst (v := 0) C dX3_isName_35 36 rfl (by decide) ?_
    exact Rt.ret (hR) (show narrow .boolean (.int (0 : Int32)) = .int (0 : Int32) from rfl) dX3_isName_36
  · rw [if_pos c1] at hR
    refine j_aload_n C dX3_isName_8 9 rfl rfl 0 rfl ?_
    refine j_get C dX3_isName_9 12 rfl hiX3 0 rfl rfl 4 (by decide) rfl kX3_isName__n11_f22 rfl ?_
    refine j_aload_n C dX3_isName_12 13 rfl rfl 0 rfl ?_
    refine j_get C dX3_isName_13 16 rfl hiX3 0 rfl rfl 3 (by decide) rfl kX3_isName__n11_f94 rfl ?_
    refine j_isub C dX3_isName_16 17 rfl ?_
    refine j_aload_n C dX3_isName_17 18 rfl rfl 1 rfl ?_
    refine j_cvKI (na := 0) C (i := 11) (by decide) dX3_isName_18 21 rfl (c_J0_length τ 11 (by decide) 4 rfl) rfl gX3_isName_J0_length_8abf5 rfl rfl rfl qdK2 rfl ⟨by decide, by decide⟩ ⟨by decide, by decide⟩ rfl (Nat.le_of_ble_eq_true rfl) (fun r2 u2 hX2 hn2 => ?_)
    obtain rfl := (Prod.mk.inj hX2).1
    refine j_icmp_ne C dX3_isName_21 35 rfl 24 rfl (fun c3 => ?_) (fun c3 => ?_)
    · rw [if_neg c3] at hR
      refine j_iconst (v := 0) C dX3_isName_35 36 rfl (by decide) ?_
      exact Rt.ret (hR) (show narrow .boolean (.int (0 : Int32)) = .int (0 : Int32) from rfl) dX3_isName_36
    · rw [if_pos c3] at hR
      refine j_aload_n C dX3_isName_24 25 rfl rfl 0 rfl ?_
      refine j_get C dX3_isName_25 28 rfl hiX3 0 rfl rfl 4 (by decide) rfl kX3_isName__n11_f22 rfl ?_
      refine j_aload_n C dX3_isName_28 29 rfl rfl 0 rfl ?_
      refine j_get C dX3_isName_29 32 rfl hiX3 0 rfl rfl 1 (by decide) rfl kX3_isName__n11_f15 rfl ?_
      refine j_icmp_le C dX3_isName_32 37 rfl 35 rfl (fun c4 => ?_) (fun c4 => ?_)
      · rw [if_pos c4] at hR
        refine j_iconst (v := 0) C dX3_isName_37 38 rfl (by decide) ?_
        refine j_istore_n C dX3_isName_38 39 rfl rfl (by decide) [(2, .int 0), (0, .ref (a 0)), (1, .ref (τ.2.2.2 (100 + 11)))] rfl ?_
        refine j_lv [1, 2, 0] [(0, .ref (a 0)), (1, .ref (τ.2.2.2 (100 + 11))), (2, .int 0)] rfl (L_X3_isName__n11_39 C a bs tz so fr tt ft  hf (nm_b (L := 4) hn hf ht c3 c4) (fun (o : (Int32) ⊕ (Int32)) => Rt τ κ cX3_isName .boolean (fun _ : Unit => (wP τ a bs tz so fr tt ft)) ((sm o (fun (z : Int32) => pr1 z (fun x2_5 => (1 : Int32))) (fun X => X), ()))) (fun x2_5  hR => ?_) (fun X hR => by rw [sm_inr] at hR; exact hR) 300 (0 : Int32) (by decide) (by decide) (by decide) hR)
        rw [sm_inl, pr1_mk x2_5] at hR
        refine j_iconst (v := 1) C dX3_isName_74 75 rfl (by decide) ?_
        exact Rt.ret (hR) (show narrow .boolean (.int (1 : Int32)) = .int (1 : Int32) from rfl) dX3_isName_75
      · rw [if_neg c4] at hR
        refine j_iconst (v := 0) C dX3_isName_35 36 rfl (by decide) ?_
        exact Rt.ret (hR) (show narrow .boolean (.int (0 : Int32)) = .int (0 : Int32) from rfl) dX3_isName_36

-- X3_isName
def l_X3_isName__n12_39 (bs : Nat → Int32) (fr : Int32) : Nat → Int32 → (Int32) ⊕ (Int32)
  | 0, x2 => Sum.inl x2
  | N + 1, x2 => if (5 ≤ x2) then (Sum.inl x2) else (if ((bs ((fr + x2)).toNatClampNeg) = (kch 12 (x2).toNatClampNeg)) then (l_X3_isName__n12_39 bs fr N (x2 + 1)) else (Sum.inr (0 : Int32)))
def f_X3_isName__n12 (bs : Nat → Int32) (tz : Int32) (so : Int32) (fr : Int32) (tt : Int32) : Int32 := if (so = 1) then (if ((tt - fr) = 5) then (if (tt ≤ tz) then (sm (l_X3_isName__n12_39 bs fr 300 (0 : Int32)) (fun (z5 : Int32) => pr1 z5 (fun x2_5 => (1 : Int32))) (fun X => X)) else (0 : Int32)) else (0 : Int32)) else (0 : Int32)
theorem kX3_isName__n12_f28 : Cond.fieldLink RX3 28 "TwoMinutes$Tape" "sort" "I" ∈ wsX3_isName := by decide +kernel
theorem kX3_isName__n12_f22 : Cond.fieldLink RX3 22 "TwoMinutes$Tape" "to" "I" ∈ wsX3_isName := by decide +kernel
theorem kX3_isName__n12_f94 : Cond.fieldLink RX3 94 "TwoMinutes$Tape" "from" "I" ∈ wsX3_isName := by decide +kernel
theorem kX3_isName__n12_f15 : Cond.fieldLink RX3 15 "TwoMinutes$Tape" "size" "I" ∈ wsX3_isName := by decide +kernel
theorem kX3_isName__n12_f11 : Cond.fieldLink RX3 11 "TwoMinutes$Tape" "bytes" "[I" ∈ wsX3_isName := by decide +kernel
theorem qd_X3_isName__n12 : yX3_isName.cls = RX3 ∧ yX3_isName.cls ≠ "java/lang/invoke/MethodHandle" ∧ yX3_isName.cls ≠ "java/lang/invoke/VarHandle" ∧ (parseMethodDescriptor yX3_isName.desc).map (fun d => d.parameters.length) = some 1 := by decide +kernel
abbrev rmX3_isName__n12 : Room := { frames := 4, cells := 0, slots := 0, locals := 85 }
set_option maxHeartbeats 4000000 in
set_option maxRecDepth 100000 in
theorem L_X3_isName__n12_39 {τ : SX} {κ : KX} (C : Cx τ κ cX3_isName RX3 wsX3_isName rmX3_isName__n12 3) (a : Nat → Nat) (bs : Nat → Int32) (tz : Int32) (so : Int32) (fr : Int32) (tt : Int32) (ft : Int32) (hf : TN fr) (hb : fr.toInt + 5 ≤ 200) (Φ : (Int32) ⊕ (Int32) → Prop) (hE : ∀ (x2 : Int32), Φ (Sum.inl x2) → J τ κ 0 0 (wP τ a bs tz so fr tt ft) [(0, .ref (a 0)), (1, .ref (τ.2.2.2 (100 + 12))), (2, .int x2)] 74 []) (hRet : ∀ X, Φ (Sum.inr X) → Rt τ κ cX3_isName .boolean (fun _ : Unit => (wP τ a bs tz so fr tt ft)) ((X, ()))) : ∀ (N : Nat) (x2 : Int32), ((5 : Int) - x2.toInt).toNat < N → (0 ≤ x2.toInt) → (x2.toInt ≤ 5) → Φ (l_X3_isName__n12_39 bs fr N x2) → J τ κ 0 0 (wP τ a bs tz so fr tt ft) [(0, .ref (a 0)), (1, .ref (τ.2.2.2 (100 + 12))), (2, .int x2)] 39 [] := by
  have hiX3 : ∀ w ∈ wsX30, w ∈ wsX3_isName := fun w h => List.mem_cons_of_mem _ (List.mem_append_right _ h)
  intro N
  induction N with
  | zero => intro x2 hm; exact absurd hm (Nat.not_lt_zero _)
  | succ N ih =>
    intro x2 hm h0 h1 hR
    rw [l_X3_isName__n12_39] at hR
    refine j_iload_n C dX3_isName_39 40 rfl rfl 2 rfl ?_
    refine j_aload_n C dX3_isName_40 41 rfl rfl 1 rfl ?_
    refine j_cvKI (na := 0) C (i := 12) (by decide) dX3_isName_41 44 rfl (c_J0_length τ 12 (by decide) 5 rfl) rfl gX3_isName_J0_length_8abf5 rfl rfl rfl qdK2 rfl ⟨by decide, by decide⟩ ⟨by decide, by decide⟩ rfl (Nat.le_of_ble_eq_true rfl) (fun r6 u6 hX6 hn6 => ?_)
    obtain rfl := (Prod.mk.inj hX6).1
    refine j_icmp_ge C dX3_isName_44 74 rfl 47 rfl (fun c7 => ?_) (fun c7 => ?_)
    · rw [if_pos c7] at hR
      exact j_lv [0, 1, 2] [(0, .ref (a 0)), (1, .ref (τ.2.2.2 (100 + 12))), (2, .int x2)] rfl (hE _  hR)
    · rw [if_neg c7] at hR
      have hs := cnt_step (B := 5) h0 (by decide) (by decide) c7
      refine j_aload_n C dX3_isName_47 48 rfl rfl 0 rfl ?_
      refine j_get C dX3_isName_48 51 rfl hiX3 0 rfl rfl 0 (by decide) rfl kX3_isName__n12_f11 rfl ?_
      refine j_aload_n C dX3_isName_51 52 rfl rfl 0 rfl ?_
      refine j_get C dX3_isName_52 55 rfl hiX3 0 rfl rfl 3 (by decide) rfl kX3_isName__n12_f94 rfl ?_
      refine j_iload_n C dX3_isName_55 56 rfl rfl 2 rfl ?_
      refine j_iadd C dX3_isName_56 57 rfl ?_
      refine j_iald C dX3_isName_57 58 rfl 1 rfl (nm_in hf hb h0 hs.2.2.2) ((fr + x2)).toNatClampNeg rfl ?_
      refine j_aload_n C dX3_isName_58 59 rfl rfl 1 rfl ?_
      refine j_iload_n C dX3_isName_59 60 rfl rfl 2 rfl ?_
      refine j_cvKI (na := 1) C (i := 12) (by decide) dX3_isName_60 63 rfl (c_J0_charAt τ 12 (by decide) x2 (vpI h0 hs.2.2.2)) rfl gX3_isName_J0_charAt_5068e rfl rfl rfl qdK3 rfl ⟨by decide, by decide⟩ ⟨by decide, by decide⟩ rfl (Nat.le_of_ble_eq_true rfl) (fun r8 u8 hX8 hn8 => ?_)
      obtain rfl := (Prod.mk.inj hX8).1
      refine j_icmp_eq C dX3_isName_63 68 rfl 66 rfl (fun c9 => ?_) (fun c9 => ?_)
      · rw [if_pos c9] at hR
        refine j_iinc (v := (x2 + 1)) C dX3_isName_68 71 rfl 2 rfl rfl (by decide) [(2, .int (x2 + 1)), (0, .ref (a 0)), (1, .ref (τ.2.2.2 (100 + 12)))] rfl ?_
        refine j_goto C dX3_isName_71 39 rfl ?_
        exact j_lv [1, 2, 0] [(0, .ref (a 0)), (1, .ref (τ.2.2.2 (100 + 12))), (2, .int (x2 + 1))] rfl (ih _ (by have := hs.2.2.1; omega) hs.1 hs.2.1 hR)
      · rw [if_neg c9] at hR
        refine j_iconst (v := 0) C dX3_isName_66 67 rfl (by decide) ?_
        exact Rt.ret (hRet _ hR) (show narrow .boolean (.int (0 : Int32)) = .int (0 : Int32) from rfl) dX3_isName_67
set_option maxHeartbeats 4000000 in
set_option maxRecDepth 100000 in
theorem c_X3_isName__n12 (τ : SX) (a : Nat → Nat) (bs : Nat → Int32) (tz : Int32) (so : Int32) (fr : Int32) (tt : Int32) (ft : Int32) (hn : TN tz) (hf : TN fr) (ht : TN tt) (sz : Nat) : McI τ yX3_isName wsX3_isName rmX3_isName__n12 .boolean [.ref (a 0), .ref (τ.2.2.2 (100 + 12))] (wP τ a bs tz so fr tt ft) (fun _ : Unit => (wP τ a bs tz so fr tt ft)) (f_X3_isName__n12 bs tz so fr tt, ()) sz := by
  refine mc_I (cc := cX3_isName) (own := RX3) [(0, .ref (a 0)), (1, .ref (τ.2.2.2 (100 + 12)))] rfl (by decide) rfl rfl (Nat.le_of_ble_eq_true rfl) (fun κ C hR => ?_)
  have hiX3 : ∀ w ∈ wsX30, w ∈ wsX3_isName := fun w h => List.mem_cons_of_mem _ (List.mem_append_right _ h)
  unfold f_X3_isName__n12 at hR
  refine j_aload_n C dX3_isName_0 1 rfl rfl 0 rfl ?_
  refine j_get C dX3_isName_1 4 rfl hiX3 0 rfl rfl 2 (by decide) rfl kX3_isName__n12_f28 rfl ?_
  refine j_iconst (v := 1) C dX3_isName_4 5 rfl (by decide) ?_
  refine j_icmp_ne C dX3_isName_5 35 rfl 8 rfl (fun c1 => ?_) (fun c1 => ?_)
  · rw [if_neg c1] at hR
    refine j_iconst (v := 0) C dX3_isName_35 36 rfl (by decide) ?_
    exact Rt.ret (hR) (show narrow .boolean (.int (0 : Int32)) = .int (0 : Int32) from rfl) dX3_isName_36
  · rw [if_pos c1] at hR
    refine j_aload_n C dX3_isName_8 9 rfl rfl 0 rfl ?_
    refine j_get C dX3_isName_9 12 rfl hiX3 0 rfl rfl 4 (by decide) rfl kX3_isName__n12_f22 rfl ?_
    refine j_aload_n C dX3_isName_12 13 rfl rfl 0 rfl ?_
    refine j_get C dX3_isName_13 16 rfl hiX3 0 rfl rfl 3 (by decide) rfl kX3_isName__n12_f94 rfl ?_
    refine j_isub C dX3_isName_16 17 rfl ?_
    refine j_aload_n C dX3_isName_17 18 rfl rfl 1 rfl ?_
    refine j_cvKI (na := 0) C (i := 12) (by decide) dX3_isName_18 21 rfl (c_J0_length τ 12 (by decide) 5 rfl) rfl gX3_isName_J0_length_8abf5 rfl rfl rfl qdK2 rfl ⟨by decide, by decide⟩ ⟨by decide, by decide⟩ rfl (Nat.le_of_ble_eq_true rfl) (fun r2 u2 hX2 hn2 => ?_)
    obtain rfl := (Prod.mk.inj hX2).1
    refine j_icmp_ne C dX3_isName_21 35 rfl 24 rfl (fun c3 => ?_) (fun c3 => ?_)
    · rw [if_neg c3] at hR
      refine j_iconst (v := 0) C dX3_isName_35 36 rfl (by decide) ?_
      exact Rt.ret (hR) (show narrow .boolean (.int (0 : Int32)) = .int (0 : Int32) from rfl) dX3_isName_36
    · rw [if_pos c3] at hR
      refine j_aload_n C dX3_isName_24 25 rfl rfl 0 rfl ?_
      refine j_get C dX3_isName_25 28 rfl hiX3 0 rfl rfl 4 (by decide) rfl kX3_isName__n12_f22 rfl ?_
      refine j_aload_n C dX3_isName_28 29 rfl rfl 0 rfl ?_
      refine j_get C dX3_isName_29 32 rfl hiX3 0 rfl rfl 1 (by decide) rfl kX3_isName__n12_f15 rfl ?_
      refine j_icmp_le C dX3_isName_32 37 rfl 35 rfl (fun c4 => ?_) (fun c4 => ?_)
      · rw [if_pos c4] at hR
        refine j_iconst (v := 0) C dX3_isName_37 38 rfl (by decide) ?_
        refine j_istore_n C dX3_isName_38 39 rfl rfl (by decide) [(2, .int 0), (0, .ref (a 0)), (1, .ref (τ.2.2.2 (100 + 12)))] rfl ?_
        refine j_lv [1, 2, 0] [(0, .ref (a 0)), (1, .ref (τ.2.2.2 (100 + 12))), (2, .int 0)] rfl (L_X3_isName__n12_39 C a bs tz so fr tt ft  hf (nm_b (L := 5) hn hf ht c3 c4) (fun (o : (Int32) ⊕ (Int32)) => Rt τ κ cX3_isName .boolean (fun _ : Unit => (wP τ a bs tz so fr tt ft)) ((sm o (fun (z : Int32) => pr1 z (fun x2_5 => (1 : Int32))) (fun X => X), ()))) (fun x2_5  hR => ?_) (fun X hR => by rw [sm_inr] at hR; exact hR) 300 (0 : Int32) (by decide) (by decide) (by decide) hR)
        rw [sm_inl, pr1_mk x2_5] at hR
        refine j_iconst (v := 1) C dX3_isName_74 75 rfl (by decide) ?_
        exact Rt.ret (hR) (show narrow .boolean (.int (1 : Int32)) = .int (1 : Int32) from rfl) dX3_isName_75
      · rw [if_neg c4] at hR
        refine j_iconst (v := 0) C dX3_isName_35 36 rfl (by decide) ?_
        exact Rt.ret (hR) (show narrow .boolean (.int (0 : Int32)) = .int (0 : Int32) from rfl) dX3_isName_36

-- X3_kindNamed
def f_X3_kindNamed (bs : Nat → Int32) (tz : Int32) (so : Int32) (fr : Int32) (tt : Int32) : Int32 := if ((f_X3_isName__n0 bs tz so fr tt) = 0) then (if ((f_X3_isName__n1 bs tz so fr tt) = 0) then (if ((f_X3_isName__n2 bs tz so fr tt) = 0) then (if ((f_X3_isName__n3 bs tz so fr tt) = 0) then (if ((f_X3_isName__n4 bs tz so fr tt) = 0) then (if ((f_X3_isName__n5 bs tz so fr tt) = 0) then ((-1) : Int32) else (5 : Int32)) else (4 : Int32)) else (3 : Int32)) else (2 : Int32)) else (1 : Int32)) else (0 : Int32)
theorem qd_X3_kindNamed : yX3_kindNamed.cls = RX3 ∧ yX3_kindNamed.cls ≠ "java/lang/invoke/MethodHandle" ∧ yX3_kindNamed.cls ≠ "java/lang/invoke/VarHandle" ∧ (parseMethodDescriptor yX3_kindNamed.desc).map (fun d => d.parameters.length) = some 0 := by decide +kernel
abbrev rmX3_kindNamed : Room := { frames := 5, cells := 0, slots := 0, locals := 107 }
set_option maxHeartbeats 4000000 in
set_option maxRecDepth 100000 in
theorem c_X3_kindNamed (τ : SX) (a : Nat → Nat) (bs : Nat → Int32) (tz : Int32) (so : Int32) (fr : Int32) (tt : Int32) (ft : Int32) (hn : TN tz) (hf : TN fr) (ht : TN tt) (sz : Nat) : McI τ yX3_kindNamed wsX3_kindNamed rmX3_kindNamed .int [.ref (a 0)] (wP τ a bs tz so fr tt ft) (fun _ : Unit => (wP τ a bs tz so fr tt ft)) (f_X3_kindNamed bs tz so fr tt, ()) sz := by
  refine mc_I (cc := cX3_kindNamed) (own := RX3) [(0, .ref (a 0))] rfl (by decide) rfl rfl (Nat.le_of_ble_eq_true rfl) (fun κ C hR => ?_)
  have hiX3 : ∀ w ∈ wsX30, w ∈ wsX3_kindNamed := fun w h => List.mem_cons_of_mem _ (List.mem_append_right _ h)
  unfold f_X3_kindNamed at hR
  refine j_aload_n C dX3_kindNamed_0 1 rfl rfl 0 rfl ?_
  refine j_ldcS (i := 0) C rfl dX3_kindNamed_1 3 rfl ?_
  refine j_cv0I (na := 1) C dX3_kindNamed_3 6 rfl (c_X3_isName__n0 τ a bs tz so fr tt ft (by assumption) (by assumption) (by assumption)) gX3_kindNamed_X3_isName rfl rfl rfl qd_X3_isName__n0 rfl ⟨by decide, by decide⟩ ⟨by decide, by decide⟩ rfl (Nat.le_of_ble_eq_true rfl) rfl 3 0 rfl rfl (fun r1 u1 hX1 hn1 => ?_)
  obtain rfl := (Prod.mk.inj hX1).1
  refine j_if_eq C dX3_kindNamed_6 13 rfl 9 rfl (fun c2 => ?_) (fun c2 => ?_)
  · rw [if_pos c2] at hR
    refine j_aload_n C dX3_kindNamed_13 14 rfl rfl 0 rfl ?_
    refine j_ldcS (i := 1) C rfl dX3_kindNamed_14 16 rfl ?_
    refine j_cv0I (na := 1) C dX3_kindNamed_16 19 rfl (c_X3_isName__n1 τ a bs tz so fr tt ft (by assumption) (by assumption) (by assumption)) gX3_kindNamed_X3_isName rfl rfl rfl qd_X3_isName__n1 rfl ⟨by decide, by decide⟩ ⟨by decide, by decide⟩ rfl (Nat.le_of_ble_eq_true rfl) rfl 3 0 rfl rfl (fun r3 u3 hX3 hn3 => ?_)
    obtain rfl := (Prod.mk.inj hX3).1
    refine j_if_eq C dX3_kindNamed_19 26 rfl 22 rfl (fun c4 => ?_) (fun c4 => ?_)
    · rw [if_pos c4] at hR
      refine j_aload_n C dX3_kindNamed_26 27 rfl rfl 0 rfl ?_
      refine j_ldcS (i := 2) C rfl dX3_kindNamed_27 29 rfl ?_
      refine j_cv0I (na := 1) C dX3_kindNamed_29 32 rfl (c_X3_isName__n2 τ a bs tz so fr tt ft (by assumption) (by assumption) (by assumption)) gX3_kindNamed_X3_isName rfl rfl rfl qd_X3_isName__n2 rfl ⟨by decide, by decide⟩ ⟨by decide, by decide⟩ rfl (Nat.le_of_ble_eq_true rfl) rfl 3 0 rfl rfl (fun r5 u5 hX5 hn5 => ?_)
      obtain rfl := (Prod.mk.inj hX5).1
      refine j_if_eq C dX3_kindNamed_32 39 rfl 35 rfl (fun c6 => ?_) (fun c6 => ?_)
      · rw [if_pos c6] at hR
        refine j_aload_n C dX3_kindNamed_39 40 rfl rfl 0 rfl ?_
        refine j_ldcS (i := 3) C rfl dX3_kindNamed_40 42 rfl ?_
        refine j_cv0I (na := 1) C dX3_kindNamed_42 45 rfl (c_X3_isName__n3 τ a bs tz so fr tt ft (by assumption) (by assumption) (by assumption)) gX3_kindNamed_X3_isName rfl rfl rfl qd_X3_isName__n3 rfl ⟨by decide, by decide⟩ ⟨by decide, by decide⟩ rfl (Nat.le_of_ble_eq_true rfl) rfl 3 0 rfl rfl (fun r7 u7 hX7 hn7 => ?_)
        obtain rfl := (Prod.mk.inj hX7).1
        refine j_if_eq C dX3_kindNamed_45 52 rfl 48 rfl (fun c8 => ?_) (fun c8 => ?_)
        · rw [if_pos c8] at hR
          refine j_aload_n C dX3_kindNamed_52 53 rfl rfl 0 rfl ?_
          refine j_ldcS (i := 4) C rfl dX3_kindNamed_53 55 rfl ?_
          refine j_cv0I (na := 1) C dX3_kindNamed_55 58 rfl (c_X3_isName__n4 τ a bs tz so fr tt ft (by assumption) (by assumption) (by assumption)) gX3_kindNamed_X3_isName rfl rfl rfl qd_X3_isName__n4 rfl ⟨by decide, by decide⟩ ⟨by decide, by decide⟩ rfl (Nat.le_of_ble_eq_true rfl) rfl 3 0 rfl rfl (fun r9 u9 hX9 hn9 => ?_)
          obtain rfl := (Prod.mk.inj hX9).1
          refine j_if_eq C dX3_kindNamed_58 65 rfl 61 rfl (fun c10 => ?_) (fun c10 => ?_)
          · rw [if_pos c10] at hR
            refine j_aload_n C dX3_kindNamed_65 66 rfl rfl 0 rfl ?_
            refine j_ldcS (i := 5) C rfl dX3_kindNamed_66 68 rfl ?_
            refine j_cv0I (na := 1) C dX3_kindNamed_68 71 rfl (c_X3_isName__n5 τ a bs tz so fr tt ft (by assumption) (by assumption) (by assumption)) gX3_kindNamed_X3_isName rfl rfl rfl qd_X3_isName__n5 rfl ⟨by decide, by decide⟩ ⟨by decide, by decide⟩ rfl (Nat.le_of_ble_eq_true rfl) rfl 3 0 rfl rfl (fun r11 u11 hX11 hn11 => ?_)
            obtain rfl := (Prod.mk.inj hX11).1
            refine j_if_eq C dX3_kindNamed_71 78 rfl 74 rfl (fun c12 => ?_) (fun c12 => ?_)
            · rw [if_pos c12] at hR
              refine j_iconst (v := (-1)) C dX3_kindNamed_78 79 rfl (by decide) ?_
              exact Rt.ret (hR) rfl dX3_kindNamed_79
            · rw [if_neg c12] at hR
              refine j_iconst (v := 5) C dX3_kindNamed_74 75 rfl (by decide) ?_
              refine j_goto C dX3_kindNamed_75 79 rfl ?_
              exact Rt.ret (hR) rfl dX3_kindNamed_79
          · rw [if_neg c10] at hR
            refine j_iconst (v := 4) C dX3_kindNamed_61 62 rfl (by decide) ?_
            refine j_goto C dX3_kindNamed_62 79 rfl ?_
            exact Rt.ret (hR) rfl dX3_kindNamed_79
        · rw [if_neg c8] at hR
          refine j_iconst (v := 3) C dX3_kindNamed_48 49 rfl (by decide) ?_
          refine j_goto C dX3_kindNamed_49 79 rfl ?_
          exact Rt.ret (hR) rfl dX3_kindNamed_79
      · rw [if_neg c6] at hR
        refine j_iconst (v := 2) C dX3_kindNamed_35 36 rfl (by decide) ?_
        refine j_goto C dX3_kindNamed_36 79 rfl ?_
        exact Rt.ret (hR) rfl dX3_kindNamed_79
    · rw [if_neg c4] at hR
      refine j_iconst (v := 1) C dX3_kindNamed_22 23 rfl (by decide) ?_
      refine j_goto C dX3_kindNamed_23 79 rfl ?_
      exact Rt.ret (hR) rfl dX3_kindNamed_79
  · rw [if_neg c2] at hR
    refine j_iconst (v := 0) C dX3_kindNamed_9 10 rfl (by decide) ?_
    refine j_goto C dX3_kindNamed_10 79 rfl ?_
    exact Rt.ret (hR) rfl dX3_kindNamed_79

-- X3_lawNamed
def f_X3_lawNamed (bs : Nat → Int32) (tz : Int32) (so : Int32) (fr : Int32) (tt : Int32) : Int32 := if ((f_X3_isName__n6 bs tz so fr tt) = 0) then (if ((f_X3_isName__n7 bs tz so fr tt) = 0) then (if ((f_X3_isName__n8 bs tz so fr tt) = 0) then (if ((f_X3_isName__n9 bs tz so fr tt) = 0) then ((-1) : Int32) else (3 : Int32)) else (2 : Int32)) else (1 : Int32)) else (0 : Int32)
theorem qd_X3_lawNamed : yX3_lawNamed.cls = RX3 ∧ yX3_lawNamed.cls ≠ "java/lang/invoke/MethodHandle" ∧ yX3_lawNamed.cls ≠ "java/lang/invoke/VarHandle" ∧ (parseMethodDescriptor yX3_lawNamed.desc).map (fun d => d.parameters.length) = some 0 := by decide +kernel
abbrev rmX3_lawNamed : Room := { frames := 5, cells := 0, slots := 0, locals := 107 }
set_option maxHeartbeats 4000000 in
set_option maxRecDepth 100000 in
theorem c_X3_lawNamed (τ : SX) (a : Nat → Nat) (bs : Nat → Int32) (tz : Int32) (so : Int32) (fr : Int32) (tt : Int32) (ft : Int32) (hn : TN tz) (hf : TN fr) (ht : TN tt) (sz : Nat) : McI τ yX3_lawNamed wsX3_lawNamed rmX3_lawNamed .int [.ref (a 0)] (wP τ a bs tz so fr tt ft) (fun _ : Unit => (wP τ a bs tz so fr tt ft)) (f_X3_lawNamed bs tz so fr tt, ()) sz := by
  refine mc_I (cc := cX3_lawNamed) (own := RX3) [(0, .ref (a 0))] rfl (by decide) rfl rfl (Nat.le_of_ble_eq_true rfl) (fun κ C hR => ?_)
  have hiX3 : ∀ w ∈ wsX30, w ∈ wsX3_lawNamed := fun w h => List.mem_cons_of_mem _ (List.mem_append_right _ h)
  unfold f_X3_lawNamed at hR
  refine j_aload_n C dX3_lawNamed_0 1 rfl rfl 0 rfl ?_
  refine j_ldcS (i := 6) C rfl dX3_lawNamed_1 3 rfl ?_
  refine j_cv0I (na := 1) C dX3_lawNamed_3 6 rfl (c_X3_isName__n6 τ a bs tz so fr tt ft (by assumption) (by assumption) (by assumption)) gX3_lawNamed_X3_isName rfl rfl rfl qd_X3_isName__n6 rfl ⟨by decide, by decide⟩ ⟨by decide, by decide⟩ rfl (Nat.le_of_ble_eq_true rfl) rfl 3 0 rfl rfl (fun r1 u1 hX1 hn1 => ?_)
  obtain rfl := (Prod.mk.inj hX1).1
  refine j_if_eq C dX3_lawNamed_6 13 rfl 9 rfl (fun c2 => ?_) (fun c2 => ?_)
  · rw [if_pos c2] at hR
    refine j_aload_n C dX3_lawNamed_13 14 rfl rfl 0 rfl ?_
    refine j_ldcS (i := 7) C rfl dX3_lawNamed_14 16 rfl ?_
    refine j_cv0I (na := 1) C dX3_lawNamed_16 19 rfl (c_X3_isName__n7 τ a bs tz so fr tt ft (by assumption) (by assumption) (by assumption)) gX3_lawNamed_X3_isName rfl rfl rfl qd_X3_isName__n7 rfl ⟨by decide, by decide⟩ ⟨by decide, by decide⟩ rfl (Nat.le_of_ble_eq_true rfl) rfl 3 0 rfl rfl (fun r3 u3 hX3 hn3 => ?_)
    obtain rfl := (Prod.mk.inj hX3).1
    refine j_if_eq C dX3_lawNamed_19 26 rfl 22 rfl (fun c4 => ?_) (fun c4 => ?_)
    · rw [if_pos c4] at hR
      refine j_aload_n C dX3_lawNamed_26 27 rfl rfl 0 rfl ?_
      refine j_ldcS (i := 8) C rfl dX3_lawNamed_27 29 rfl ?_
      refine j_cv0I (na := 1) C dX3_lawNamed_29 32 rfl (c_X3_isName__n8 τ a bs tz so fr tt ft (by assumption) (by assumption) (by assumption)) gX3_lawNamed_X3_isName rfl rfl rfl qd_X3_isName__n8 rfl ⟨by decide, by decide⟩ ⟨by decide, by decide⟩ rfl (Nat.le_of_ble_eq_true rfl) rfl 3 0 rfl rfl (fun r5 u5 hX5 hn5 => ?_)
      obtain rfl := (Prod.mk.inj hX5).1
      refine j_if_eq C dX3_lawNamed_32 39 rfl 35 rfl (fun c6 => ?_) (fun c6 => ?_)
      · rw [if_pos c6] at hR
        refine j_aload_n C dX3_lawNamed_39 40 rfl rfl 0 rfl ?_
        refine j_ldcS (i := 9) C rfl dX3_lawNamed_40 42 rfl ?_
        refine j_cv0I (na := 1) C dX3_lawNamed_42 45 rfl (c_X3_isName__n9 τ a bs tz so fr tt ft (by assumption) (by assumption) (by assumption)) gX3_lawNamed_X3_isName rfl rfl rfl qd_X3_isName__n9 rfl ⟨by decide, by decide⟩ ⟨by decide, by decide⟩ rfl (Nat.le_of_ble_eq_true rfl) rfl 3 0 rfl rfl (fun r7 u7 hX7 hn7 => ?_)
        obtain rfl := (Prod.mk.inj hX7).1
        refine j_if_eq C dX3_lawNamed_45 52 rfl 48 rfl (fun c8 => ?_) (fun c8 => ?_)
        · rw [if_pos c8] at hR
          refine j_iconst (v := (-1)) C dX3_lawNamed_52 53 rfl (by decide) ?_
          exact Rt.ret (hR) rfl dX3_lawNamed_53
        · rw [if_neg c8] at hR
          refine j_iconst (v := 3) C dX3_lawNamed_48 49 rfl (by decide) ?_
          refine j_goto C dX3_lawNamed_49 53 rfl ?_
          exact Rt.ret (hR) rfl dX3_lawNamed_53
      · rw [if_neg c6] at hR
        refine j_iconst (v := 2) C dX3_lawNamed_35 36 rfl (by decide) ?_
        refine j_goto C dX3_lawNamed_36 53 rfl ?_
        exact Rt.ret (hR) rfl dX3_lawNamed_53
    · rw [if_neg c4] at hR
      refine j_iconst (v := 1) C dX3_lawNamed_22 23 rfl (by decide) ?_
      refine j_goto C dX3_lawNamed_23 53 rfl ?_
      exact Rt.ret (hR) rfl dX3_lawNamed_53
  · rw [if_neg c2] at hR
    refine j_iconst (v := 0) C dX3_lawNamed_9 10 rfl (by decide) ?_
    refine j_goto C dX3_lawNamed_10 53 rfl ?_
    exact Rt.ret (hR) rfl dX3_lawNamed_53

