theorem srt_in {x n : Int32} (hn : TN n) (c0 : ¬ x < 0) (c1 : x < n) : vp_in x 200 := by
  rw [i32_lt, show (0 : Int32).toInt = 0 from rfl] at c0
  rw [i32_lt] at c1
  have := hn.2
  exact vpI (by omega) (by omega)
theorem rs_step {x n : Int32} (hn : TN n) (h : TN x) (c : ¬ n ≤ x) : TN (x + 1) ∧ ((201 : Int) - (x + 1).toInt).toNat < ((201 : Int) - x.toInt).toNat ∧ (x + 1).toInt = x.toInt + 1 ∧ x.toInt < n.toInt := by
  rw [i32_le] at c
  have h1 := hn.2
  have h2 := h.1
  have e := i32_add1 (i := x) (by omega)
  unfold TN
  omega
theorem semi_in {f n : Int32} (hn : TN n) (c : ¬ f_X5_isIn f 0 (n - 1) = 0) : vp_in f 200 := by
  have h1 := in_isIn c
  rw [i32_sub1 hn.1, show (0 : Int32).toInt = 0 from rfl] at h1
  have := hn.2
  exact vpI h1.1 (by omega)
theorem nm_b {t f n L : Int32} (hn : TN n) (hf : TN f) (ht : TN t) (c1 : t - f = L) (c2 : t ≤ n) : f.toInt + L.toInt ≤ 200 := by
  have e : (t - f).toInt = t.toInt - f.toInt := i32_subE (by have := hf.2; have := ht.1; omega) (by have := hf.1; have := ht.2; omega)
  rw [c1] at e
  have := ht.2
  omega
theorem nm_in {f i : Int32} {L : Int} (hf : TN f) (hb : f.toInt + L ≤ 200) (h0 : 0 ≤ i.toInt) (h : i.toInt < L) : vp_in (f + i) 200 := by
  have e : (f + i).toInt = f.toInt + i.toInt := i32_addE (by have := hf.1; omega) (by have := hf.1; omega)
  have := hf.1
  exact vpI (by omega) (by omega)

-- X3_sortAt
def f_X3_sortAt (bs : Nat → Int32) (tz : Int32) (x1 : Int32) : Int32 := if (x1 < 0) then (0 : Int32) else (if (x1 < tz) then (if ((bs (x1).toNatClampNeg) < 97) then (if ((bs (x1).toNatClampNeg) < 48) then (3 : Int32) else (if (57 < (bs (x1).toNatClampNeg)) then (3 : Int32) else (2 : Int32))) else (if (122 < (bs (x1).toNatClampNeg)) then (if ((bs (x1).toNatClampNeg) < 48) then (3 : Int32) else (if (57 < (bs (x1).toNatClampNeg)) then (3 : Int32) else (2 : Int32))) else (1 : Int32))) else (0 : Int32))
theorem kX3_sortAt_f15 : Cond.fieldLink RX3 15 "TwoMinutes$Tape" "size" "I" ∈ wsX3_sortAt := by decide +kernel
theorem kX3_sortAt_f11 : Cond.fieldLink RX3 11 "TwoMinutes$Tape" "bytes" "[I" ∈ wsX3_sortAt := by decide +kernel
theorem qd_X3_sortAt : yX3_sortAt.cls = RX3 ∧ yX3_sortAt.cls ≠ "java/lang/invoke/MethodHandle" ∧ yX3_sortAt.cls ≠ "java/lang/invoke/VarHandle" ∧ (parseMethodDescriptor yX3_sortAt.desc).map (fun d => d.parameters.length) = some 1 := by decide +kernel
abbrev rmX3_sortAt : Room := { frames := 0, cells := 0, slots := 0, locals := 0 }
set_option maxHeartbeats 4000000 in
set_option maxRecDepth 100000 in
theorem c_X3_sortAt (τ : SX) (a : Nat → Nat) (bs : Nat → Int32) (tz : Int32) (so : Int32) (fr : Int32) (tt : Int32) (ft : Int32) (x1 : Int32) (hn : TN tz) (sz : Nat) : McI τ yX3_sortAt wsX3_sortAt rmX3_sortAt .int [.ref (a 0), .int x1] (wP τ a bs tz so fr tt ft) (fun _ : Unit => (wP τ a bs tz so fr tt ft)) (f_X3_sortAt bs tz x1, ()) sz := by
  refine mc_I (cc := cX3_sortAt) (own := RX3) [(0, .ref (a 0)), (1, .int x1)] rfl (by decide) rfl rfl (Nat.le_of_ble_eq_true rfl) (fun κ C hR => ?_)
  have hiX3 : ∀ w ∈ wsX30, w ∈ wsX3_sortAt := fun w h => List.mem_cons_of_mem _ (List.mem_append_right _ h)
  unfold f_X3_sortAt at hR
  refine j_iload_n C dX3_sortAt_0 1 rfl rfl 1 rfl ?_
  refine j_if_lt C dX3_sortAt_1 12 rfl 4 rfl (fun c1 => ?_) (fun c1 => ?_)
  · rw [if_pos c1] at hR
    refine j_iconst (v := 0) C dX3_sortAt_12 13 rfl (by decide) ?_
    exact Rt.ret (hR) rfl dX3_sortAt_13
  · rw [if_neg c1] at hR
    refine j_iload_n C dX3_sortAt_4 5 rfl rfl 1 rfl ?_
    refine j_aload_n C dX3_sortAt_5 6 rfl rfl 0 rfl ?_
    refine j_get C dX3_sortAt_6 9 rfl hiX3 0 rfl rfl 1 (by decide) rfl kX3_sortAt_f15 rfl ?_
    refine j_icmp_lt C dX3_sortAt_9 14 rfl 12 rfl (fun c2 => ?_) (fun c2 => ?_)
    · rw [if_pos c2] at hR
      refine j_aload_n C dX3_sortAt_14 15 rfl rfl 0 rfl ?_
      refine j_get C dX3_sortAt_15 18 rfl hiX3 0 rfl rfl 0 (by decide) rfl kX3_sortAt_f11 rfl ?_
      refine j_iload_n C dX3_sortAt_18 19 rfl rfl 1 rfl ?_
      refine j_iald C dX3_sortAt_19 20 rfl 1 rfl (srt_in hn c1 c2) (x1).toNatClampNeg rfl ?_
      refine j_istore_n C dX3_sortAt_20 21 rfl rfl (by decide) [(2, .int (bs (x1).toNatClampNeg)), (0, .ref (a 0)), (1, .int x1)] rfl ?_
      refine j_iload_n C dX3_sortAt_21 22 rfl rfl 0 rfl ?_
      refine j_bipush (v := 97) C dX3_sortAt_22 24 rfl (by decide) ?_
      refine j_icmp_lt C dX3_sortAt_24 35 rfl 27 rfl (fun c3 => ?_) (fun c3 => ?_)
      · rw [if_pos c3] at hR
        refine j_iload_n C dX3_sortAt_35 36 rfl rfl 0 rfl ?_
        refine j_bipush (v := 48) C dX3_sortAt_36 38 rfl (by decide) ?_
        refine j_icmp_lt C dX3_sortAt_38 51 rfl 41 rfl (fun c4 => ?_) (fun c4 => ?_)
        · rw [if_pos c4] at hR
          refine j_iconst (v := 3) C dX3_sortAt_51 52 rfl (by decide) ?_
          exact Rt.ret (hR) rfl dX3_sortAt_52
        · rw [if_neg c4] at hR
          refine j_iload_n C dX3_sortAt_41 42 rfl rfl 0 rfl ?_
          refine j_bipush (v := 57) C dX3_sortAt_42 44 rfl (by decide) ?_
          refine j_icmp_gt C dX3_sortAt_44 51 rfl 47 rfl (fun c5 => ?_) (fun c5 => ?_)
          · rw [if_pos c5] at hR
            refine j_iconst (v := 3) C dX3_sortAt_51 52 rfl (by decide) ?_
            exact Rt.ret (hR) rfl dX3_sortAt_52
          · rw [if_neg c5] at hR
            refine j_iconst (v := 2) C dX3_sortAt_47 48 rfl (by decide) ?_
            refine j_goto C dX3_sortAt_48 52 rfl ?_
            exact Rt.ret (hR) rfl dX3_sortAt_52
      · rw [if_neg c3] at hR
        refine j_iload_n C dX3_sortAt_27 28 rfl rfl 0 rfl ?_
        refine j_bipush (v := 122) C dX3_sortAt_28 30 rfl (by decide) ?_
        refine j_icmp_gt C dX3_sortAt_30 35 rfl 33 rfl (fun c6 => ?_) (fun c6 => ?_)
        · rw [if_pos c6] at hR
          refine j_iload_n C dX3_sortAt_35 36 rfl rfl 0 rfl ?_
          refine j_bipush (v := 48) C dX3_sortAt_36 38 rfl (by decide) ?_
          refine j_icmp_lt C dX3_sortAt_38 51 rfl 41 rfl (fun c7 => ?_) (fun c7 => ?_)
          · rw [if_pos c7] at hR
            refine j_iconst (v := 3) C dX3_sortAt_51 52 rfl (by decide) ?_
            exact Rt.ret (hR) rfl dX3_sortAt_52
          · rw [if_neg c7] at hR
            refine j_iload_n C dX3_sortAt_41 42 rfl rfl 0 rfl ?_
            refine j_bipush (v := 57) C dX3_sortAt_42 44 rfl (by decide) ?_
            refine j_icmp_gt C dX3_sortAt_44 51 rfl 47 rfl (fun c8 => ?_) (fun c8 => ?_)
            · rw [if_pos c8] at hR
              refine j_iconst (v := 3) C dX3_sortAt_51 52 rfl (by decide) ?_
              exact Rt.ret (hR) rfl dX3_sortAt_52
            · rw [if_neg c8] at hR
              refine j_iconst (v := 2) C dX3_sortAt_47 48 rfl (by decide) ?_
              refine j_goto C dX3_sortAt_48 52 rfl ?_
              exact Rt.ret (hR) rfl dX3_sortAt_52
        · rw [if_neg c6] at hR
          refine j_iconst (v := 1) C dX3_sortAt_33 34 rfl (by decide) ?_
          exact Rt.ret (hR) rfl dX3_sortAt_34
    · rw [if_neg c2] at hR
      refine j_iconst (v := 0) C dX3_sortAt_12 13 rfl (by decide) ?_
      exact Rt.ret (hR) rfl dX3_sortAt_13

theorem so3 {bs : Nat → Int32} {n f : Int32} (h : f_X3_sortAt bs n f = 3) : ¬ n ≤ f := fun c => by
  have c2 : ¬ f < n := fun d => by rw [i32_lt] at d; rw [i32_le] at c; omega
  unfold f_X3_sortAt at h
  rw [if_neg c2] at h
  revert h
  split <;> decide

-- X3_readSign
def l_X3_readSign_8 (bs : Nat → Int32) (tz : Int32) : Nat → Int32 → Int32
  | 0, fr => fr
  | N + 1, fr => if (tz ≤ fr) then fr else (if ((bs (fr).toNatClampNeg) = 32) then (l_X3_readSign_8 bs tz N (fr + 1)) else fr)
def l_X3_readSign_84 (bs : Nat → Int32) (tz : Int32) (so : Int32) : Nat → Int32 → Int32
  | 0, tt => tt
  | N + 1, tt => if (so = 1) then (if (tz ≤ tt) then tt else (if ((f_X3_sortAt bs tz tt) = so) then (l_X3_readSign_84 bs tz so N (tt + 1)) else tt)) else (if (so = 2) then (if (tz ≤ tt) then tt else (if ((f_X3_sortAt bs tz tt) = so) then (l_X3_readSign_84 bs tz so N (tt + 1)) else tt)) else tt)
def f_X3_readSign (bs : Nat → Int32) (tz : Int32) (tt : Int32) : Int32 × Int32 × Int32 := pr1 (l_X3_readSign_8 bs tz 300 tt) (fun fr_1 => pr1 (if ((f_X3_sortAt bs tz fr_1) = 3) then (fr_1 + 1) else fr_1) (fun j71_0 => pr1 (l_X3_readSign_84 bs tz (f_X3_sortAt bs tz fr_1) 300 j71_0) (fun tt_6 => ((f_X3_sortAt bs tz fr_1), fr_1, tt_6))))
theorem kX3_readSign_f22 : Cond.fieldLink RX3 22 "TwoMinutes$Tape" "to" "I" ∈ wsX3_readSign := by decide +kernel
theorem kX3_readSign_f94 : Cond.fieldLink RX3 94 "TwoMinutes$Tape" "from" "I" ∈ wsX3_readSign := by decide +kernel
theorem kX3_readSign_f15 : Cond.fieldLink RX3 15 "TwoMinutes$Tape" "size" "I" ∈ wsX3_readSign := by decide +kernel
theorem kX3_readSign_f11 : Cond.fieldLink RX3 11 "TwoMinutes$Tape" "bytes" "[I" ∈ wsX3_readSign := by decide +kernel
theorem kX3_readSign_f28 : Cond.fieldLink RX3 28 "TwoMinutes$Tape" "sort" "I" ∈ wsX3_readSign := by decide +kernel
theorem qd_X3_readSign : yX3_readSign.cls = RX3 ∧ yX3_readSign.cls ≠ "java/lang/invoke/MethodHandle" ∧ yX3_readSign.cls ≠ "java/lang/invoke/VarHandle" ∧ (parseMethodDescriptor yX3_readSign.desc).map (fun d => d.parameters.length) = some 0 := by decide +kernel
abbrev rmX3_readSign : Room := { frames := 1, cells := 0, slots := 0, locals := 22 }
set_option maxHeartbeats 4000000 in
set_option maxRecDepth 100000 in
theorem L_X3_readSign_8 {τ : SX} {κ : KX} (C : Cx τ κ cX3_readSign RX3 wsX3_readSign rmX3_readSign 1) (a : Nat → Nat) (bs : Nat → Int32) (tz : Int32) (so : Int32) (tt : Int32) (ft : Int32) (hn : TN tz) (Φ : Int32 → Prop) (hE : ∀ (fr : Int32), (TN fr) → Φ fr → J τ κ 0 0 (wP τ a bs tz so fr tt ft) [(0, .ref (a 0))] 46 []) : ∀ (N : Nat) (fr : Int32), ((201 : Int) - fr.toInt).toNat < N → (TN fr) → Φ (l_X3_readSign_8 bs tz N fr) → J τ κ 0 0 (wP τ a bs tz so fr tt ft) [(0, .ref (a 0))] 8 [] := by
  have hiX3 : ∀ w ∈ wsX30, w ∈ wsX3_readSign := fun w h => List.mem_cons_of_mem _ (List.mem_append_right _ h)
  intro N
  induction N with
  | zero => intro fr hm; exact absurd hm (Nat.not_lt_zero _)
  | succ N ih =>
    intro fr hm hf hR
    rw [l_X3_readSign_8] at hR
    refine j_aload_n C dX3_readSign_8 9 rfl rfl 0 rfl ?_
    refine j_get C dX3_readSign_9 12 rfl hiX3 0 rfl rfl 3 (by decide) rfl kX3_readSign_f94 rfl ?_
    refine j_aload_n C dX3_readSign_12 13 rfl rfl 0 rfl ?_
    refine j_get C dX3_readSign_13 16 rfl hiX3 0 rfl rfl 1 (by decide) rfl kX3_readSign_f15 rfl ?_
    refine j_icmp_ge C dX3_readSign_16 46 rfl 19 rfl (fun c2 => ?_) (fun c2 => ?_)
    · rw [if_pos c2] at hR
      exact j_lv [0] [(0, .ref (a 0))] rfl (hE _ hf hR)
    · rw [if_neg c2] at hR
      have hs := rs_step hn hf c2
      refine j_aload_n C dX3_readSign_19 20 rfl rfl 0 rfl ?_
      refine j_get C dX3_readSign_20 23 rfl hiX3 0 rfl rfl 0 (by decide) rfl kX3_readSign_f11 rfl ?_
      refine j_aload_n C dX3_readSign_23 24 rfl rfl 0 rfl ?_
      refine j_get C dX3_readSign_24 27 rfl hiX3 0 rfl rfl 3 (by decide) rfl kX3_readSign_f94 rfl ?_
      refine j_iald C dX3_readSign_27 28 rfl 1 rfl (by_in hn hf.1 c2) (fr).toNatClampNeg rfl ?_
      refine j_bipush (v := 32) C dX3_readSign_28 30 rfl (by decide) ?_
      refine j_icmp_ne C dX3_readSign_30 46 rfl 33 rfl (fun c3 => ?_) (fun c3 => ?_)
      · rw [if_neg c3] at hR
        exact j_lv [0] [(0, .ref (a 0))] rfl (hE _ hf hR)
      · rw [if_pos c3] at hR
        refine j_aload_n C dX3_readSign_33 34 rfl rfl 0 rfl ?_
        refine j_dup C dX3_readSign_34 35 rfl rfl ?_
        refine j_get C dX3_readSign_35 38 rfl hiX3 0 rfl rfl 3 (by decide) rfl kX3_readSign_f94 rfl ?_
        refine j_iconst (v := 1) C dX3_readSign_38 39 rfl (by decide) ?_
        refine j_iadd C dX3_readSign_39 40 rfl ?_
        refine j_put C dX3_readSign_40 43 rfl hiX3 tyX3_ok nmX3 0 rfl rfl 3 (by decide) rfl kX3_readSign_f94 rfl rfl rfl (Nat.le_of_ble_eq_true rfl) (wP τ a bs tz so (fr + 1) tt ft) rfl ?_
        refine j_goto C dX3_readSign_43 8 rfl ?_
        exact j_lv [0] [(0, .ref (a 0))] rfl (ih _ (by have := hs.2.1; omega) hs.1 hR)
set_option maxHeartbeats 4000000 in
set_option maxRecDepth 100000 in
theorem L_X3_readSign_84 {τ : SX} {κ : KX} (C : Cx τ κ cX3_readSign RX3 wsX3_readSign rmX3_readSign 1) (a : Nat → Nat) (bs : Nat → Int32) (tz : Int32) (so : Int32) (fr : Int32) (ft : Int32) (hn : TN tz) (Φ : Int32 → Prop) (hE : ∀ (tt : Int32), Φ tt → J τ κ 0 0 (wP τ a bs tz so fr tt ft) [(0, .ref (a 0))] 139 []) : ∀ (N : Nat) (tt : Int32), ((201 : Int) - tt.toInt).toNat < N → (TN tt) → Φ (l_X3_readSign_84 bs tz so N tt) → J τ κ 0 0 (wP τ a bs tz so fr tt ft) [(0, .ref (a 0))] 84 [] := by
  have hiX3 : ∀ w ∈ wsX30, w ∈ wsX3_readSign := fun w h => List.mem_cons_of_mem _ (List.mem_append_right _ h)
  intro N
  induction N with
  | zero => intro tt hm; exact absurd hm (Nat.not_lt_zero _)
  | succ N ih =>
    intro tt hm ht hR
    rw [l_X3_readSign_84] at hR
    refine j_aload_n C dX3_readSign_84 85 rfl rfl 0 rfl ?_
    refine j_get C dX3_readSign_85 88 rfl hiX3 0 rfl rfl 2 (by decide) rfl kX3_readSign_f28 rfl ?_
    refine j_iconst (v := 1) C dX3_readSign_88 89 rfl (by decide) ?_
    refine j_icmp_eq C dX3_readSign_89 100 rfl 92 rfl (fun c7 => ?_) (fun c7 => ?_)
    · rw [if_pos c7] at hR
      refine j_aload_n C dX3_readSign_100 101 rfl rfl 0 rfl ?_
      refine j_get C dX3_readSign_101 104 rfl hiX3 0 rfl rfl 4 (by decide) rfl kX3_readSign_f22 rfl ?_
      refine j_aload_n C dX3_readSign_104 105 rfl rfl 0 rfl ?_
      refine j_get C dX3_readSign_105 108 rfl hiX3 0 rfl rfl 1 (by decide) rfl kX3_readSign_f15 rfl ?_
      refine j_icmp_ge C dX3_readSign_108 139 rfl 111 rfl (fun c8 => ?_) (fun c8 => ?_)
      · rw [if_pos c8] at hR
        exact j_lv [0] [(0, .ref (a 0))] rfl (hE _  hR)
      · rw [if_neg c8] at hR
        have hs := rs_step hn ht c8
        refine j_aload_n C dX3_readSign_111 112 rfl rfl 0 rfl ?_
        refine j_aload_n C dX3_readSign_112 113 rfl rfl 0 rfl ?_
        refine j_get C dX3_readSign_113 116 rfl hiX3 0 rfl rfl 4 (by decide) rfl kX3_readSign_f22 rfl ?_
        refine j_cv0I (na := 1) C dX3_readSign_116 119 rfl (c_X3_sortAt τ a bs tz so fr tt ft tt (by assumption)) gX3_readSign_X3_sortAt rfl rfl rfl qd_X3_sortAt rfl ⟨by decide, by decide⟩ ⟨by decide, by decide⟩ rfl (Nat.le_of_ble_eq_true rfl) rfl 3 0 rfl rfl (fun r9 u9 hX9 hn9 => ?_)
        obtain rfl := (Prod.mk.inj hX9).1
        refine j_aload_n C dX3_readSign_119 120 rfl rfl 0 rfl ?_
        refine j_get C dX3_readSign_120 123 rfl hiX3 0 rfl rfl 2 (by decide) rfl kX3_readSign_f28 rfl ?_
        refine j_icmp_ne C dX3_readSign_123 139 rfl 126 rfl (fun c10 => ?_) (fun c10 => ?_)
        · rw [if_neg c10] at hR
          exact j_lv [0] [(0, .ref (a 0))] rfl (hE _  hR)
        · rw [if_pos c10] at hR
          refine j_aload_n C dX3_readSign_126 127 rfl rfl 0 rfl ?_
          refine j_dup C dX3_readSign_127 128 rfl rfl ?_
          refine j_get C dX3_readSign_128 131 rfl hiX3 0 rfl rfl 4 (by decide) rfl kX3_readSign_f22 rfl ?_
          refine j_iconst (v := 1) C dX3_readSign_131 132 rfl (by decide) ?_
          refine j_iadd C dX3_readSign_132 133 rfl ?_
          refine j_put C dX3_readSign_133 136 rfl hiX3 tyX3_ok nmX3 0 rfl rfl 4 (by decide) rfl kX3_readSign_f22 rfl rfl rfl (Nat.le_of_ble_eq_true rfl) (wP τ a bs tz so fr (tt + 1) ft) rfl ?_
          refine j_goto C dX3_readSign_136 84 rfl ?_
          exact j_lv [0] [(0, .ref (a 0))] rfl (ih _ (by have := hs.2.1; omega) hs.1 hR)
    · rw [if_neg c7] at hR
      refine j_aload_n C dX3_readSign_92 93 rfl rfl 0 rfl ?_
      refine j_get C dX3_readSign_93 96 rfl hiX3 0 rfl rfl 2 (by decide) rfl kX3_readSign_f28 rfl ?_
      refine j_iconst (v := 2) C dX3_readSign_96 97 rfl (by decide) ?_
      refine j_icmp_ne C dX3_readSign_97 139 rfl 100 rfl (fun c11 => ?_) (fun c11 => ?_)
      · rw [if_neg c11] at hR
        exact j_lv [0] [(0, .ref (a 0))] rfl (hE _  hR)
      · rw [if_pos c11] at hR
        refine j_aload_n C dX3_readSign_100 101 rfl rfl 0 rfl ?_
        refine j_get C dX3_readSign_101 104 rfl hiX3 0 rfl rfl 4 (by decide) rfl kX3_readSign_f22 rfl ?_
        refine j_aload_n C dX3_readSign_104 105 rfl rfl 0 rfl ?_
        refine j_get C dX3_readSign_105 108 rfl hiX3 0 rfl rfl 1 (by decide) rfl kX3_readSign_f15 rfl ?_
        refine j_icmp_ge C dX3_readSign_108 139 rfl 111 rfl (fun c12 => ?_) (fun c12 => ?_)
        · rw [if_pos c12] at hR
          exact j_lv [0] [(0, .ref (a 0))] rfl (hE _  hR)
        · rw [if_neg c12] at hR
          have hs := rs_step hn ht c12
          refine j_aload_n C dX3_readSign_111 112 rfl rfl 0 rfl ?_
          refine j_aload_n C dX3_readSign_112 113 rfl rfl 0 rfl ?_
          refine j_get C dX3_readSign_113 116 rfl hiX3 0 rfl rfl 4 (by decide) rfl kX3_readSign_f22 rfl ?_
          refine j_cv0I (na := 1) C dX3_readSign_116 119 rfl (c_X3_sortAt τ a bs tz so fr tt ft tt (by assumption)) gX3_readSign_X3_sortAt rfl rfl rfl qd_X3_sortAt rfl ⟨by decide, by decide⟩ ⟨by decide, by decide⟩ rfl (Nat.le_of_ble_eq_true rfl) rfl 3 0 rfl rfl (fun r13 u13 hX13 hn13 => ?_)
          obtain rfl := (Prod.mk.inj hX13).1
          refine j_aload_n C dX3_readSign_119 120 rfl rfl 0 rfl ?_
          refine j_get C dX3_readSign_120 123 rfl hiX3 0 rfl rfl 2 (by decide) rfl kX3_readSign_f28 rfl ?_
          refine j_icmp_ne C dX3_readSign_123 139 rfl 126 rfl (fun c14 => ?_) (fun c14 => ?_)
          · rw [if_neg c14] at hR
            exact j_lv [0] [(0, .ref (a 0))] rfl (hE _  hR)
          · rw [if_pos c14] at hR
            refine j_aload_n C dX3_readSign_126 127 rfl rfl 0 rfl ?_
            refine j_dup C dX3_readSign_127 128 rfl rfl ?_
            refine j_get C dX3_readSign_128 131 rfl hiX3 0 rfl rfl 4 (by decide) rfl kX3_readSign_f22 rfl ?_
            refine j_iconst (v := 1) C dX3_readSign_131 132 rfl (by decide) ?_
            refine j_iadd C dX3_readSign_132 133 rfl ?_
            refine j_put C dX3_readSign_133 136 rfl hiX3 tyX3_ok nmX3 0 rfl rfl 4 (by decide) rfl kX3_readSign_f22 rfl rfl rfl (Nat.le_of_ble_eq_true rfl) (wP τ a bs tz so fr (tt + 1) ft) rfl ?_
            refine j_goto C dX3_readSign_136 84 rfl ?_
            exact j_lv [0] [(0, .ref (a 0))] rfl (ih _ (by have := hs.2.1; omega) hs.1 hR)
set_option maxHeartbeats 4000000 in
set_option maxRecDepth 100000 in
theorem c_X3_readSign (τ : SX) (a : Nat → Nat) (bs : Nat → Int32) (tz : Int32) (so : Int32) (fr : Int32) (tt : Int32) (ft : Int32) (hn : TN tz) (ht : TN tt) (sz : Nat) : McV τ yX3_readSign wsX3_readSign rmX3_readSign [.ref (a 0)] (wP τ a bs tz so fr tt ft) (fun u : Int32 × Int32 × Int32 => (wP τ a bs tz u.1 u.2.1 u.2.2 ft)) (f_X3_readSign bs tz tt) 0 0 sz := by
  refine mc_V (cc := cX3_readSign) (own := RX3) [(0, .ref (a 0))] rfl (by decide) rfl rfl (Nat.le_of_ble_eq_true rfl) (fun κ C _ hR => ?_)
  have hiX3 : ∀ w ∈ wsX30, w ∈ wsX3_readSign := fun w h => List.mem_cons_of_mem _ (List.mem_append_right _ h)
  unfold f_X3_readSign at hR
  refine j_aload_n C dX3_readSign_0 1 rfl rfl 0 rfl ?_
  refine j_aload_n C dX3_readSign_1 2 rfl rfl 0 rfl ?_
  refine j_get C dX3_readSign_2 5 rfl hiX3 0 rfl rfl 4 (by decide) rfl kX3_readSign_f22 rfl ?_
  refine j_put C dX3_readSign_5 8 rfl hiX3 tyX3_ok nmX3 0 rfl rfl 3 (by decide) rfl kX3_readSign_f94 rfl rfl rfl (Nat.le_of_ble_eq_true rfl) (wP τ a bs tz so tt tt ft) rfl ?_
  refine j_lv [0] [(0, .ref (a 0))] rfl (L_X3_readSign_8 C a bs tz so tt ft  hn (fun (o : Int32) => RtV τ κ cX3_readSign 0 0 (fun u : Int32 × Int32 × Int32 => (wP τ a bs tz u.1 u.2.1 u.2.2 ft)) (pr1 o (fun fr_1 => pr1 (if ((f_X3_sortAt bs tz fr_1) = 3) then (fr_1 + 1) else fr_1) (fun j71_0 => pr1 (l_X3_readSign_84 bs tz (f_X3_sortAt bs tz fr_1) 300 j71_0) (fun tt_6 => ((f_X3_sortAt bs tz fr_1), fr_1, tt_6)))))) (fun fr_1 hfo hR => ?_) 300 tt (nt_fuel ht) ht hR)
  rw [pr1_mk fr_1] at hR
  refine j_aload_n C dX3_readSign_46 47 rfl rfl 0 rfl ?_
  refine j_aload_n C dX3_readSign_47 48 rfl rfl 0 rfl ?_
  refine j_get C dX3_readSign_48 51 rfl hiX3 0 rfl rfl 3 (by decide) rfl kX3_readSign_f94 rfl ?_
  refine j_put C dX3_readSign_51 54 rfl hiX3 tyX3_ok nmX3 0 rfl rfl 4 (by decide) rfl kX3_readSign_f22 rfl rfl rfl (Nat.le_of_ble_eq_true rfl) (wP τ a bs tz so fr_1 fr_1 ft) rfl ?_
  refine j_aload_n C dX3_readSign_54 55 rfl rfl 0 rfl ?_
  refine j_aload_n C dX3_readSign_55 56 rfl rfl 0 rfl ?_
  refine j_aload_n C dX3_readSign_56 57 rfl rfl 0 rfl ?_
  refine j_get C dX3_readSign_57 60 rfl hiX3 0 rfl rfl 3 (by decide) rfl kX3_readSign_f94 rfl ?_
  refine j_cv0I (na := 1) C dX3_readSign_60 63 rfl (c_X3_sortAt τ a bs tz so fr_1 fr_1 ft fr_1 (by assumption)) gX3_readSign_X3_sortAt rfl rfl rfl qd_X3_sortAt rfl ⟨by decide, by decide⟩ ⟨by decide, by decide⟩ rfl (Nat.le_of_ble_eq_true rfl) rfl 3 0 rfl rfl (fun r4 u4 hX4 hn4 => ?_)
  obtain rfl := (Prod.mk.inj hX4).1
  refine j_put C dX3_readSign_63 66 rfl hiX3 tyX3_ok nmX3 0 rfl rfl 2 (by decide) rfl kX3_readSign_f28 rfl rfl rfl (Nat.le_of_ble_eq_true rfl) (wP τ a bs tz (f_X3_sortAt bs tz fr_1) fr_1 fr_1 ft) rfl ?_
  refine j_aload_n C dX3_readSign_66 67 rfl rfl 0 rfl ?_
  refine j_get C dX3_readSign_67 70 rfl hiX3 0 rfl rfl 2 (by decide) rfl kX3_readSign_f28 rfl ?_
  refine j_iconst (v := 3) C dX3_readSign_70 71 rfl (by decide) ?_
  have J71 : ∀ (j71_0 : Int32), (TN j71_0) → RtV τ κ cX3_readSign 0 0 (fun u : Int32 × Int32 × Int32 => (wP τ a bs tz u.1 u.2.1 u.2.2 ft)) (pr1 (l_X3_readSign_84 bs tz (f_X3_sortAt bs tz fr_1) 300 j71_0) (fun tt_6 => ((f_X3_sortAt bs tz fr_1), fr_1, tt_6))) → J τ κ 0 0 (wP τ a bs tz (f_X3_sortAt bs tz fr_1) fr_1 j71_0 ft) [(0, .ref (a 0))] 84 [] := by
    intro j71_0 hj hR
    refine j_lv [0] [(0, .ref (a 0))] rfl (L_X3_readSign_84 C a bs tz (f_X3_sortAt bs tz fr_1) fr_1 ft  hn (fun (o : Int32) => RtV τ κ cX3_readSign 0 0 (fun u : Int32 × Int32 × Int32 => (wP τ a bs tz u.1 u.2.1 u.2.2 ft)) (pr1 o (fun tt_6 => ((f_X3_sortAt bs tz fr_1), fr_1, tt_6)))) (fun tt_6  hR => ?_) 300 j71_0 (nt_fuel hj) hj hR)
    rw [pr1_mk tt_6] at hR
    exact hR _ _ dX3_readSign_139
  refine j_icmp_ne C dX3_readSign_71 84 rfl 74 rfl (fun c5 => ?_) (fun c5 => ?_)
  · rw [if_neg c5] at hR
    rw [pr1_mk fr_1] at hR
    exact j_lv [0] [(0, .ref (a 0))] rfl (J71 _ (by first | exact hfo | exact (rs_step hn hfo (so3 (by assumption))).1) hR)
  · rw [if_pos c5] at hR
    refine j_aload_n C dX3_readSign_74 75 rfl rfl 0 rfl ?_
    refine j_dup C dX3_readSign_75 76 rfl rfl ?_
    refine j_get C dX3_readSign_76 79 rfl hiX3 0 rfl rfl 4 (by decide) rfl kX3_readSign_f22 rfl ?_
    refine j_iconst (v := 1) C dX3_readSign_79 80 rfl (by decide) ?_
    refine j_iadd C dX3_readSign_80 81 rfl ?_
    refine j_put C dX3_readSign_81 84 rfl hiX3 tyX3_ok nmX3 0 rfl rfl 4 (by decide) rfl kX3_readSign_f22 rfl rfl rfl (Nat.le_of_ble_eq_true rfl) (wP τ a bs tz (f_X3_sortAt bs tz fr_1) fr_1 (fr_1 + 1) ft) rfl ?_
    rw [pr1_mk (fr_1 + 1)] at hR
    exact j_lv [0] [(0, .ref (a 0))] rfl (J71 _ (by first | exact hfo | exact (rs_step hn hfo (so3 (by assumption))).1) hR)

theorem rsL8 {bs : Nat → Int32} {n : Int32} (hn : TN n) : ∀ (N : Nat) (f : Int32), TN f → TN (l_X3_readSign_8 bs n N f) := by
  intro N
  induction N with
  | zero => intro f h; rw [l_X3_readSign_8]; exact h
  | succ N ih =>
    intro f h
    rw [l_X3_readSign_8]
    by_cases c : n ≤ f
    · rw [if_pos c]; exact h
    · rw [if_neg c]
      split
      · exact ih _ (rs_step hn h c).1
      · exact h
theorem rsL84 {bs : Nat → Int32} {n so : Int32} (hn : TN n) : ∀ (N : Nat) (t : Int32), TN t → TN (l_X3_readSign_84 bs n so N t) := by
  intro N
  induction N with
  | zero => intro t h; rw [l_X3_readSign_84]; exact h
  | succ N ih =>
    intro t h
    rw [l_X3_readSign_84]
    by_cases c : n ≤ t
    · simp only [if_pos c]
      repeat' split
      all_goals exact h
    · simp only [if_neg c]
      repeat' split
      all_goals first | exact h | exact ih _ (rs_step hn h c).1
theorem rs_TN {bs : Nat → Int32} {n t k f t2 : Int32} (e : f_X3_readSign bs n t = (k, f, t2)) (hn : TN n) (ht : TN t) : TN f ∧ TN t2 := by
  unfold f_X3_readSign at e
  have h8 := rsL8 (bs := bs) hn 300 t ht
  rw [pr1_mk] at e
  generalize l_X3_readSign_8 bs n 300 t = p at h8 e
  have hj : TN (if f_X3_sortAt bs n p = 3 then p + 1 else p) := by
    by_cases c : f_X3_sortAt bs n p = 3
    · rw [if_pos c]; exact (rs_step hn h8 (so3 c)).1
    · rw [if_neg c]; exact h8
  rw [pr1_mk] at e
  generalize (if f_X3_sortAt bs n p = 3 then p + 1 else p) = q at hj e
  have h84 := rsL84 (bs := bs) (so := f_X3_sortAt bs n p) hn 300 q hj
  rw [pr1_mk] at e
  generalize l_X3_readSign_84 bs n (f_X3_sortAt bs n p) 300 q = r at h84 e
  injection e with e1 e2
  injection e2 with e3 e4
  exact ⟨e3 ▸ h8, e4 ▸ h84⟩

-- X3_fail
def f_X3_fail (fr : Int32) (ft : Int32) : Int32 := if (ft = (-1)) then (fr) else (ft)
theorem kX3_fail_f19 : Cond.fieldLink RX3 19 "TwoMinutes$Tape" "fault" "I" ∈ wsX3_fail := by decide +kernel
theorem kX3_fail_f94 : Cond.fieldLink RX3 94 "TwoMinutes$Tape" "from" "I" ∈ wsX3_fail := by decide +kernel
theorem qd_X3_fail : yX3_fail.cls = RX3 ∧ yX3_fail.cls ≠ "java/lang/invoke/MethodHandle" ∧ yX3_fail.cls ≠ "java/lang/invoke/VarHandle" ∧ (parseMethodDescriptor yX3_fail.desc).map (fun d => d.parameters.length) = some 0 := by decide +kernel
abbrev rmX3_fail : Room := { frames := 0, cells := 0, slots := 0, locals := 0 }
set_option maxHeartbeats 4000000 in
set_option maxRecDepth 100000 in
theorem c_X3_fail (τ : SX) (a : Nat → Nat) (bs : Nat → Int32) (tz : Int32) (so : Int32) (fr : Int32) (tt : Int32) (ft : Int32) (sz : Nat) : McV τ yX3_fail wsX3_fail rmX3_fail [.ref (a 0)] (wP τ a bs tz so fr tt ft) (fun u : Int32 => (wP τ a bs tz so fr tt u)) (f_X3_fail fr ft) 0 0 sz := by
  refine mc_V (cc := cX3_fail) (own := RX3) [(0, .ref (a 0))] rfl (by decide) rfl rfl (Nat.le_of_ble_eq_true rfl) (fun κ C _ hR => ?_)
  have hiX3 : ∀ w ∈ wsX30, w ∈ wsX3_fail := fun w h => List.mem_cons_of_mem _ (List.mem_append_right _ h)
  unfold f_X3_fail at hR
  refine j_aload_n C dX3_fail_0 1 rfl rfl 0 rfl ?_
  refine j_get C dX3_fail_1 4 rfl hiX3 0 rfl rfl 5 (by decide) rfl kX3_fail_f19 rfl ?_
  refine j_iconst (v := (-1)) C dX3_fail_4 5 rfl (by decide) ?_
  refine j_icmp_ne C dX3_fail_5 16 rfl 8 rfl (fun c1 => ?_) (fun c1 => ?_)
  · rw [if_neg c1] at hR
    exact hR _ _ dX3_fail_16
  · rw [if_pos c1] at hR
    refine j_aload_n C dX3_fail_8 9 rfl rfl 0 rfl ?_
    refine j_aload_n C dX3_fail_9 10 rfl rfl 0 rfl ?_
    refine j_get C dX3_fail_10 13 rfl hiX3 0 rfl rfl 3 (by decide) rfl kX3_fail_f94 rfl ?_
    refine j_put C dX3_fail_13 16 rfl hiX3 tyX3_ok nmX3 0 rfl rfl 5 (by decide) rfl kX3_fail_f19 rfl rfl rfl (Nat.le_of_ble_eq_true rfl) (wP τ a bs tz so fr tt fr) rfl ?_
    exact hR _ _ dX3_fail_16

-- X3_numberRead
def l_X3_numberRead_30 (bs : Nat → Int32) (tz : Int32) (tt : Int32) : Nat → Int32 → Int32 → Int32 × Int32
  | 0, x1, x2 => (x1, x2)
  | N + 1, x1, x2 => if (tt ≤ x2) then (x1, x2) else (if (tz ≤ x2) then (x1, x2) else (l_X3_numberRead_30 bs tz tt N (((x1 * 10) + (bs (x2).toNatClampNeg)) - 48) (x2 + 1)))
def f_X3_numberRead (bs : Nat → Int32) (tz : Int32) (so : Int32) (fr : Int32) (tt : Int32) : Int32 := if (so = 2) then (if ((tt - fr) ≤ 3) then (pr2 (l_X3_numberRead_30 bs tz tt 300 (0 : Int32) fr) (fun x1_3 x2_3 => x1_3)) else ((-1) : Int32)) else ((-1) : Int32)
theorem kX3_numberRead_f28 : Cond.fieldLink RX3 28 "TwoMinutes$Tape" "sort" "I" ∈ wsX3_numberRead := by decide +kernel
theorem kX3_numberRead_f22 : Cond.fieldLink RX3 22 "TwoMinutes$Tape" "to" "I" ∈ wsX3_numberRead := by decide +kernel
theorem kX3_numberRead_f94 : Cond.fieldLink RX3 94 "TwoMinutes$Tape" "from" "I" ∈ wsX3_numberRead := by decide +kernel
theorem kX3_numberRead_f15 : Cond.fieldLink RX3 15 "TwoMinutes$Tape" "size" "I" ∈ wsX3_numberRead := by decide +kernel
theorem kX3_numberRead_f11 : Cond.fieldLink RX3 11 "TwoMinutes$Tape" "bytes" "[I" ∈ wsX3_numberRead := by decide +kernel
theorem qd_X3_numberRead : yX3_numberRead.cls = RX3 ∧ yX3_numberRead.cls ≠ "java/lang/invoke/MethodHandle" ∧ yX3_numberRead.cls ≠ "java/lang/invoke/VarHandle" ∧ (parseMethodDescriptor yX3_numberRead.desc).map (fun d => d.parameters.length) = some 0 := by decide +kernel
abbrev rmX3_numberRead : Room := { frames := 0, cells := 0, slots := 0, locals := 0 }
set_option maxHeartbeats 4000000 in
set_option maxRecDepth 100000 in
theorem L_X3_numberRead_30 {τ : SX} {κ : KX} (C : Cx τ κ cX3_numberRead RX3 wsX3_numberRead rmX3_numberRead 3) (a : Nat → Nat) (bs : Nat → Int32) (tz : Int32) (so : Int32) (fr : Int32) (tt : Int32) (ft : Int32) (hn : TN tz) (Φ : Int32 × Int32 → Prop) (hE : ∀ (x1 : Int32) (x2 : Int32), Φ (x1, x2) → J τ κ 0 0 (wP τ a bs tz so fr tt ft) [(0, .ref (a 0)), (1, .int x1), (2, .int x2)] 67 []) : ∀ (N : Nat) (x1 : Int32) (x2 : Int32), ((201 : Int) - x2.toInt).toNat < N → (TN x2) → Φ (l_X3_numberRead_30 bs tz tt N x1 x2) → J τ κ 0 0 (wP τ a bs tz so fr tt ft) [(0, .ref (a 0)), (1, .int x1), (2, .int x2)] 30 [] := by
  have hiX3 : ∀ w ∈ wsX30, w ∈ wsX3_numberRead := fun w h => List.mem_cons_of_mem _ (List.mem_append_right _ h)
  intro N
  induction N with
  | zero => intro x1 x2 hm; exact absurd hm (Nat.not_lt_zero _)
  | succ N ih =>
    intro x1 x2 hm hi hR
    rw [l_X3_numberRead_30] at hR
    refine j_iload_n C dX3_numberRead_30 31 rfl rfl 2 rfl ?_
    refine j_aload_n C dX3_numberRead_31 32 rfl rfl 0 rfl ?_
    refine j_get C dX3_numberRead_32 35 rfl hiX3 0 rfl rfl 4 (by decide) rfl kX3_numberRead_f22 rfl ?_
    refine j_icmp_ge C dX3_numberRead_35 67 rfl 38 rfl (fun c4 => ?_) (fun c4 => ?_)
    · rw [if_pos c4] at hR
      exact j_lv [0, 1, 2] [(0, .ref (a 0)), (1, .int x1), (2, .int x2)] rfl (hE _ _  hR)
    · rw [if_neg c4] at hR
      refine j_iload_n C dX3_numberRead_38 39 rfl rfl 2 rfl ?_
      refine j_aload_n C dX3_numberRead_39 40 rfl rfl 0 rfl ?_
      refine j_get C dX3_numberRead_40 43 rfl hiX3 0 rfl rfl 1 (by decide) rfl kX3_numberRead_f15 rfl ?_
      refine j_icmp_ge C dX3_numberRead_43 67 rfl 46 rfl (fun c5 => ?_) (fun c5 => ?_)
      · rw [if_pos c5] at hR
        exact j_lv [0, 1, 2] [(0, .ref (a 0)), (1, .int x1), (2, .int x2)] rfl (hE _ _  hR)
      · rw [if_neg c5] at hR
        have hs := rs_step hn hi c5
        refine j_iload_n C dX3_numberRead_46 47 rfl rfl 1 rfl ?_
        refine j_bipush (v := 10) C dX3_numberRead_47 49 rfl (by decide) ?_
        refine j_imul C dX3_numberRead_49 50 rfl ?_
        refine j_aload_n C dX3_numberRead_50 51 rfl rfl 0 rfl ?_
        refine j_get C dX3_numberRead_51 54 rfl hiX3 0 rfl rfl 0 (by decide) rfl kX3_numberRead_f11 rfl ?_
        refine j_iload_n C dX3_numberRead_54 55 rfl rfl 2 rfl ?_
        refine j_iald C dX3_numberRead_55 56 rfl 1 rfl (by_in hn hi.1 c5) (x2).toNatClampNeg rfl ?_
        refine j_iadd C dX3_numberRead_56 57 rfl ?_
        refine j_bipush (v := 48) C dX3_numberRead_57 59 rfl (by decide) ?_
        refine j_isub C dX3_numberRead_59 60 rfl ?_
        refine j_istore_n C dX3_numberRead_60 61 rfl rfl (by decide) [(1, .int (((x1 * 10) + (bs (x2).toNatClampNeg)) - 48)), (0, .ref (a 0)), (2, .int x2)] rfl ?_
        refine j_iinc (v := (x2 + 1)) C dX3_numberRead_61 64 rfl 2 rfl rfl (by decide) [(2, .int (x2 + 1)), (1, .int (((x1 * 10) + (bs (x2).toNatClampNeg)) - 48)), (0, .ref (a 0))] rfl ?_
        refine j_goto C dX3_numberRead_64 30 rfl ?_
        exact j_lv [2, 1, 0] [(0, .ref (a 0)), (1, .int (((x1 * 10) + (bs (x2).toNatClampNeg)) - 48)), (2, .int (x2 + 1))] rfl (ih _ _ (by have := hs.2.1; omega) hs.1 hR)
set_option maxHeartbeats 4000000 in
set_option maxRecDepth 100000 in
theorem c_X3_numberRead (τ : SX) (a : Nat → Nat) (bs : Nat → Int32) (tz : Int32) (so : Int32) (fr : Int32) (tt : Int32) (ft : Int32) (hn : TN tz) (hf : TN fr) (sz : Nat) : McI τ yX3_numberRead wsX3_numberRead rmX3_numberRead .int [.ref (a 0)] (wP τ a bs tz so fr tt ft) (fun _ : Unit => (wP τ a bs tz so fr tt ft)) (f_X3_numberRead bs tz so fr tt, ()) sz := by
  refine mc_I (cc := cX3_numberRead) (own := RX3) [(0, .ref (a 0))] rfl (by decide) rfl rfl (Nat.le_of_ble_eq_true rfl) (fun κ C hR => ?_)
  have hiX3 : ∀ w ∈ wsX30, w ∈ wsX3_numberRead := fun w h => List.mem_cons_of_mem _ (List.mem_append_right _ h)
  unfold f_X3_numberRead at hR
  refine j_aload_n C dX3_numberRead_0 1 rfl rfl 0 rfl ?_
  refine j_get C dX3_numberRead_1 4 rfl hiX3 0 rfl rfl 2 (by decide) rfl kX3_numberRead_f28 rfl ?_
  refine j_iconst (v := 2) C dX3_numberRead_4 5 rfl (by decide) ?_
  refine j_icmp_ne C dX3_numberRead_5 21 rfl 8 rfl (fun c1 => ?_) (fun c1 => ?_)
  · rw [if_neg c1] at hR
    refine j_iconst (v := (-1)) C dX3_numberRead_21 22 rfl (by decide) ?_
    exact Rt.ret (hR) rfl dX3_numberRead_22
  · rw [if_pos c1] at hR
    refine j_aload_n C dX3_numberRead_8 9 rfl rfl 0 rfl ?_
    refine j_get C dX3_numberRead_9 12 rfl hiX3 0 rfl rfl 4 (by decide) rfl kX3_numberRead_f22 rfl ?_
    refine j_aload_n C dX3_numberRead_12 13 rfl rfl 0 rfl ?_
    refine j_get C dX3_numberRead_13 16 rfl hiX3 0 rfl rfl 3 (by decide) rfl kX3_numberRead_f94 rfl ?_
    refine j_isub C dX3_numberRead_16 17 rfl ?_
    refine j_iconst (v := 3) C dX3_numberRead_17 18 rfl (by decide) ?_
    refine j_icmp_le C dX3_numberRead_18 23 rfl 21 rfl (fun c2 => ?_) (fun c2 => ?_)
    · rw [if_pos c2] at hR
      refine j_iconst (v := 0) C dX3_numberRead_23 24 rfl (by decide) ?_
      refine j_istore_n C dX3_numberRead_24 25 rfl rfl (by decide) [(1, .int 0), (0, .ref (a 0))] rfl ?_
      refine j_aload_n C dX3_numberRead_25 26 rfl rfl 1 rfl ?_
      refine j_get C dX3_numberRead_26 29 rfl hiX3 0 rfl rfl 3 (by decide) rfl kX3_numberRead_f94 rfl ?_
      refine j_istore_n C dX3_numberRead_29 30 rfl rfl (by decide) [(2, .int fr), (1, .int 0), (0, .ref (a 0))] rfl ?_
      refine j_lv [2, 1, 0] [(0, .ref (a 0)), (1, .int 0), (2, .int fr)] rfl (L_X3_numberRead_30 C a bs tz so fr tt ft  hn (fun (o : Int32 × Int32) => Rt τ κ cX3_numberRead .int (fun _ : Unit => (wP τ a bs tz so fr tt ft)) ((pr2 o (fun x1_3 x2_3 => x1_3), ()))) (fun x1_3 x2_3  hR => ?_) 300 (0 : Int32) fr (nt_fuel hf) hf hR)
      rw [pr2_mk x1_3 x2_3] at hR
      refine j_iload_n C dX3_numberRead_67 68 rfl rfl 1 rfl ?_
      exact Rt.ret (hR) rfl dX3_numberRead_68
    · rw [if_neg c2] at hR
      refine j_iconst (v := (-1)) C dX3_numberRead_21 22 rfl (by decide) ?_
      exact Rt.ret (hR) rfl dX3_numberRead_22

-- X3_takeSemicolon
def f_X3_takeSemicolon (bs : Nat → Int32) (tz : Int32) (so : Int32) (fr : Int32) (tt : Int32) (ft : Int32) : Int32 × Int32 × Int32 × Int32 := if (ft = (-1)) then (if (so = 3) then (if ((f_X5_isIn fr (0 : Int32) (tz - 1)) = 0) then (pr1 (f_X3_fail fr ft) (fun ft_5 => (so, fr, tt, ft_5))) else (if ((bs (fr).toNatClampNeg) = 59) then (pr3 (f_X3_readSign bs tz tt) (fun so_7 fr_7 tt_7 => (so_7, fr_7, tt_7, ft))) else (pr1 (f_X3_fail fr ft) (fun ft_8 => (so, fr, tt, ft_8))))) else (pr1 (f_X3_fail fr ft) (fun ft_9 => (so, fr, tt, ft_9)))) else (so, fr, tt, ft)
theorem kX3_takeSemicolon_f19 : Cond.fieldLink RX3 19 "TwoMinutes$Tape" "fault" "I" ∈ wsX3_takeSemicolon := by decide +kernel
theorem kX3_takeSemicolon_f28 : Cond.fieldLink RX3 28 "TwoMinutes$Tape" "sort" "I" ∈ wsX3_takeSemicolon := by decide +kernel
theorem kX3_takeSemicolon_f94 : Cond.fieldLink RX3 94 "TwoMinutes$Tape" "from" "I" ∈ wsX3_takeSemicolon := by decide +kernel
theorem kX3_takeSemicolon_f15 : Cond.fieldLink RX3 15 "TwoMinutes$Tape" "size" "I" ∈ wsX3_takeSemicolon := by decide +kernel
theorem kX3_takeSemicolon_iRX5 : Cond.initialized yX5_isIn.cls ∈ wsX3_takeSemicolon := by decide +kernel
theorem kX3_takeSemicolon_sX5_isIn : Cond.static yX5_isIn ∈ wsX3_takeSemicolon := by decide +kernel
theorem kX3_takeSemicolon_f11 : Cond.fieldLink RX3 11 "TwoMinutes$Tape" "bytes" "[I" ∈ wsX3_takeSemicolon := by decide +kernel
theorem qd_X3_takeSemicolon : yX3_takeSemicolon.cls = RX3 ∧ yX3_takeSemicolon.cls ≠ "java/lang/invoke/MethodHandle" ∧ yX3_takeSemicolon.cls ≠ "java/lang/invoke/VarHandle" ∧ (parseMethodDescriptor yX3_takeSemicolon.desc).map (fun d => d.parameters.length) = some 0 := by decide +kernel
abbrev rmX3_takeSemicolon : Room := { frames := 2, cells := 0, slots := 0, locals := 42 }
set_option maxHeartbeats 4000000 in
set_option maxRecDepth 100000 in
theorem c_X3_takeSemicolon (τ : SX) (a : Nat → Nat) (bs : Nat → Int32) (tz : Int32) (so : Int32) (fr : Int32) (tt : Int32) (ft : Int32) (hn : TN tz) (hf : TN fr) (ht : TN tt) (sz : Nat) : McV τ yX3_takeSemicolon wsX3_takeSemicolon rmX3_takeSemicolon [.ref (a 0)] (wP τ a bs tz so fr tt ft) (fun u : Int32 × Int32 × Int32 × Int32 => (wP τ a bs tz u.1 u.2.1 u.2.2.1 u.2.2.2)) (f_X3_takeSemicolon bs tz so fr tt ft) 0 0 sz := by
  refine mc_V (cc := cX3_takeSemicolon) (own := RX3) [(0, .ref (a 0))] rfl (by decide) rfl rfl (Nat.le_of_ble_eq_true rfl) (fun κ C _ hR => ?_)
  have hiX3 : ∀ w ∈ wsX30, w ∈ wsX3_takeSemicolon := fun w h => List.mem_cons_of_mem _ (List.mem_append_right _ h)
  unfold f_X3_takeSemicolon at hR
  refine j_aload_n C dX3_takeSemicolon_0 1 rfl rfl 0 rfl ?_
  refine j_get C dX3_takeSemicolon_1 4 rfl hiX3 0 rfl rfl 5 (by decide) rfl kX3_takeSemicolon_f19 rfl ?_
  refine j_iconst (v := (-1)) C dX3_takeSemicolon_4 5 rfl (by decide) ?_
  refine j_icmp_eq C dX3_takeSemicolon_5 9 rfl 8 rfl (fun c1 => ?_) (fun c1 => ?_)
  · rw [if_pos c1] at hR
    refine j_aload_n C dX3_takeSemicolon_9 10 rfl rfl 0 rfl ?_
    refine j_get C dX3_takeSemicolon_10 13 rfl hiX3 0 rfl rfl 2 (by decide) rfl kX3_takeSemicolon_f28 rfl ?_
    refine j_iconst (v := 3) C dX3_takeSemicolon_13 14 rfl (by decide) ?_
    refine j_icmp_ne C dX3_takeSemicolon_14 55 rfl 17 rfl (fun c2 => ?_) (fun c2 => ?_)
    · rw [if_neg c2] at hR
      refine j_aload_n C dX3_takeSemicolon_55 56 rfl rfl 0 rfl ?_
      refine j_cv0V (na := 0) C dX3_takeSemicolon_56 59 rfl (c_X3_fail τ a bs tz so fr tt ft ) gX3_takeSemicolon_X3_fail rfl rfl rfl qd_X3_fail rfl ⟨by decide, by decide⟩ ⟨by decide, by decide⟩ rfl (Nat.le_of_ble_eq_true rfl) rfl 3 0 rfl rfl (fun u9 hX9 => ?_)
      obtain ⟨ft_9, rfl⟩ : ∃ z, z = u9 := ⟨_, rfl⟩
      rw [hX9] at hR; rw [pr1_mk ft_9] at hR
      exact hR _ _ dX3_takeSemicolon_59
    · rw [if_pos c2] at hR
      refine j_aload_n C dX3_takeSemicolon_17 18 rfl rfl 0 rfl ?_
      refine j_get C dX3_takeSemicolon_18 21 rfl hiX3 0 rfl rfl 3 (by decide) rfl kX3_takeSemicolon_f94 rfl ?_
      refine j_iconst (v := 0) C dX3_takeSemicolon_21 22 rfl (by decide) ?_
      refine j_aload_n C dX3_takeSemicolon_22 23 rfl rfl 0 rfl ?_
      refine j_get C dX3_takeSemicolon_23 26 rfl hiX3 0 rfl rfl 1 (by decide) rfl kX3_takeSemicolon_f15 rfl ?_
      refine j_iconst (v := 1) C dX3_takeSemicolon_26 27 rfl (by decide) ?_
      refine j_isub C dX3_takeSemicolon_27 28 rfl ?_
      refine j_csN (na := 3) C dX3_takeSemicolon_28 31 rfl (c_X5_isIn τ  fr (0 : Int32) (tz - 1) ) rfl ggX3_takeSemicolon_X5_isIn rfl rfl rfl kX3_takeSemicolon_iRX5 (host := RX5) (by decide +kernel) kX3_takeSemicolon_sX5_isIn qd_X5_isIn rfl ⟨by decide, by decide⟩ ⟨by decide, by decide⟩ rfl (Nat.le_of_ble_eq_true rfl) (fun r3 u3 hX3 hn3 => ?_)
      obtain rfl := (Prod.mk.inj hX3).1
      refine j_if_eq C dX3_takeSemicolon_31 55 rfl 34 rfl (fun c4 => ?_) (fun c4 => ?_)
      · rw [if_pos c4] at hR
        refine j_aload_n C dX3_takeSemicolon_55 56 rfl rfl 0 rfl ?_
        refine j_cv0V (na := 0) C dX3_takeSemicolon_56 59 rfl (c_X3_fail τ a bs tz so fr tt ft ) gX3_takeSemicolon_X3_fail rfl rfl rfl qd_X3_fail rfl ⟨by decide, by decide⟩ ⟨by decide, by decide⟩ rfl (Nat.le_of_ble_eq_true rfl) rfl 3 0 rfl rfl (fun u5 hX5 => ?_)
        obtain ⟨ft_5, rfl⟩ : ∃ z, z = u5 := ⟨_, rfl⟩
        rw [hX5] at hR; rw [pr1_mk ft_5] at hR
        exact hR _ _ dX3_takeSemicolon_59
      · rw [if_neg c4] at hR
        refine j_aload_n C dX3_takeSemicolon_34 35 rfl rfl 0 rfl ?_
        refine j_get C dX3_takeSemicolon_35 38 rfl hiX3 0 rfl rfl 0 (by decide) rfl kX3_takeSemicolon_f11 rfl ?_
        refine j_aload_n C dX3_takeSemicolon_38 39 rfl rfl 0 rfl ?_
        refine j_get C dX3_takeSemicolon_39 42 rfl hiX3 0 rfl rfl 3 (by decide) rfl kX3_takeSemicolon_f94 rfl ?_
        refine j_iald C dX3_takeSemicolon_42 43 rfl 1 rfl (semi_in hn c4) (fr).toNatClampNeg rfl ?_
        refine j_bipush (v := 59) C dX3_takeSemicolon_43 45 rfl (by decide) ?_
        refine j_icmp_ne C dX3_takeSemicolon_45 55 rfl 48 rfl (fun c6 => ?_) (fun c6 => ?_)
        · rw [if_neg c6] at hR
          refine j_aload_n C dX3_takeSemicolon_55 56 rfl rfl 0 rfl ?_
          refine j_cv0V (na := 0) C dX3_takeSemicolon_56 59 rfl (c_X3_fail τ a bs tz so fr tt ft ) gX3_takeSemicolon_X3_fail rfl rfl rfl qd_X3_fail rfl ⟨by decide, by decide⟩ ⟨by decide, by decide⟩ rfl (Nat.le_of_ble_eq_true rfl) rfl 3 0 rfl rfl (fun u8 hX8 => ?_)
          obtain ⟨ft_8, rfl⟩ : ∃ z, z = u8 := ⟨_, rfl⟩
          rw [hX8] at hR; rw [pr1_mk ft_8] at hR
          exact hR _ _ dX3_takeSemicolon_59
        · rw [if_pos c6] at hR
          refine j_aload_n C dX3_takeSemicolon_48 49 rfl rfl 0 rfl ?_
          refine j_cv0V (na := 0) C dX3_takeSemicolon_49 52 rfl (c_X3_readSign τ a bs tz so fr tt ft (by assumption) (by assumption)) gX3_takeSemicolon_X3_readSign rfl rfl rfl qd_X3_readSign rfl ⟨by decide, by decide⟩ ⟨by decide, by decide⟩ rfl (Nat.le_of_ble_eq_true rfl) rfl 3 0 rfl rfl (fun u7 hX7 => ?_)
          obtain ⟨so_7, fr_7, tt_7⟩ := u7
          rw [hX7] at hR; rw [pr3_mk so_7 fr_7 tt_7] at hR
          refine j_goto C dX3_takeSemicolon_52 59 rfl ?_
          exact hR _ _ dX3_takeSemicolon_59
  · rw [if_neg c1] at hR
    exact hR _ _ dX3_takeSemicolon_8

-- X3_takeNumber
def f_X3_takeNumber (bs : Nat → Int32) (tz : Int32) (so : Int32) (fr : Int32) (tt : Int32) (ft : Int32) (x1 : Int32) (x2 : Int32) : Int32 × Int32 × Int32 × Int32 × Int32 := if (ft = (-1)) then (if ((f_X5_isIn (f_X3_numberRead bs tz so fr tt) x1 x2) = 0) then (pr1 (f_X3_fail fr ft) (fun ft_5 => (x1, so, fr, tt, ft_5))) else (pr3 (f_X3_readSign bs tz tt) (fun so_6 fr_6 tt_6 => ((f_X3_numberRead bs tz so fr tt), so_6, fr_6, tt_6, ft)))) else (x1, so, fr, tt, ft)
theorem kX3_takeNumber_f19 : Cond.fieldLink RX3 19 "TwoMinutes$Tape" "fault" "I" ∈ wsX3_takeNumber := by decide +kernel
theorem kX3_takeNumber_iRX5 : Cond.initialized yX5_isIn.cls ∈ wsX3_takeNumber := by decide +kernel
theorem kX3_takeNumber_sX5_isIn : Cond.static yX5_isIn ∈ wsX3_takeNumber := by decide +kernel
theorem qd_X3_takeNumber : yX3_takeNumber.cls = RX3 ∧ yX3_takeNumber.cls ≠ "java/lang/invoke/MethodHandle" ∧ yX3_takeNumber.cls ≠ "java/lang/invoke/VarHandle" ∧ (parseMethodDescriptor yX3_takeNumber.desc).map (fun d => d.parameters.length) = some 2 := by decide +kernel
abbrev rmX3_takeNumber : Room := { frames := 2, cells := 0, slots := 0, locals := 42 }
set_option maxHeartbeats 4000000 in
set_option maxRecDepth 100000 in
theorem c_X3_takeNumber (τ : SX) (a : Nat → Nat) (bs : Nat → Int32) (tz : Int32) (so : Int32) (fr : Int32) (tt : Int32) (ft : Int32) (x1 : Int32) (x2 : Int32) (hn : TN tz) (hf : TN fr) (ht : TN tt) (sz : Nat) : McI τ yX3_takeNumber wsX3_takeNumber rmX3_takeNumber .int [.ref (a 0), .int x1, .int x2] (wP τ a bs tz so fr tt ft) (fun u : Int32 × Int32 × Int32 × Int32 => (wP τ a bs tz u.1 u.2.1 u.2.2.1 u.2.2.2)) (f_X3_takeNumber bs tz so fr tt ft x1 x2) sz := by
  refine mc_I (cc := cX3_takeNumber) (own := RX3) [(0, .ref (a 0)), (1, .int x1), (2, .int x2)] rfl (by decide) rfl rfl (Nat.le_of_ble_eq_true rfl) (fun κ C hR => ?_)
  have hiX3 : ∀ w ∈ wsX30, w ∈ wsX3_takeNumber := fun w h => List.mem_cons_of_mem _ (List.mem_append_right _ h)
  unfold f_X3_takeNumber at hR
  refine j_aload_n C dX3_takeNumber_0 1 rfl rfl 0 rfl ?_
  refine j_get C dX3_takeNumber_1 4 rfl hiX3 0 rfl rfl 5 (by decide) rfl kX3_takeNumber_f19 rfl ?_
  refine j_iconst (v := (-1)) C dX3_takeNumber_4 5 rfl (by decide) ?_
  refine j_icmp_eq C dX3_takeNumber_5 10 rfl 8 rfl (fun c1 => ?_) (fun c1 => ?_)
  · rw [if_pos c1] at hR
    refine j_aload_n C dX3_takeNumber_10 11 rfl rfl 0 rfl ?_
    refine j_cv0I (na := 0) C dX3_takeNumber_11 14 rfl (c_X3_numberRead τ a bs tz so fr tt ft (by assumption) (by assumption)) gX3_takeNumber_X3_numberRead rfl rfl rfl qd_X3_numberRead rfl ⟨by decide, by decide⟩ ⟨by decide, by decide⟩ rfl (Nat.le_of_ble_eq_true rfl) rfl 3 0 rfl rfl (fun r2 u2 hX2 hn2 => ?_)
    obtain rfl := (Prod.mk.inj hX2).1
    refine j_istore_n C dX3_takeNumber_14 15 rfl rfl (by decide) [(3, .int (f_X3_numberRead bs tz so fr tt)), (0, .ref (a 0)), (1, .int x1), (2, .int x2)] rfl ?_
    refine j_iload_n C dX3_takeNumber_15 16 rfl rfl 0 rfl ?_
    refine j_iload_n C dX3_takeNumber_16 17 rfl rfl 2 rfl ?_
    refine j_iload_n C dX3_takeNumber_17 18 rfl rfl 3 rfl ?_
    refine j_csN (na := 3) C dX3_takeNumber_18 21 rfl (c_X5_isIn τ  (f_X3_numberRead bs tz so fr tt) x1 x2 ) rfl ggX3_takeNumber_X5_isIn rfl rfl rfl kX3_takeNumber_iRX5 (host := RX5) (by decide +kernel) kX3_takeNumber_sX5_isIn qd_X5_isIn rfl ⟨by decide, by decide⟩ ⟨by decide, by decide⟩ rfl (Nat.le_of_ble_eq_true rfl) (fun r3 u3 hX3 hn3 => ?_)
    obtain rfl := (Prod.mk.inj hX3).1
    refine j_if_ne C dX3_takeNumber_21 30 rfl 24 rfl (fun c4 => ?_) (fun c4 => ?_)
    · rw [if_neg c4] at hR
      refine j_aload_n C dX3_takeNumber_30 31 rfl rfl 1 rfl ?_
      refine j_cv0V (na := 0) C dX3_takeNumber_31 34 rfl (c_X3_readSign τ a bs tz so fr tt ft (by assumption) (by assumption)) gX3_takeNumber_X3_readSign rfl rfl rfl qd_X3_readSign rfl ⟨by decide, by decide⟩ ⟨by decide, by decide⟩ rfl (Nat.le_of_ble_eq_true rfl) rfl 3 0 rfl rfl (fun u6 hX6 => ?_)
      obtain ⟨so_6, fr_6, tt_6⟩ := u6
      rw [hX6] at hR; rw [pr3_mk so_6 fr_6 tt_6] at hR
      refine j_iload_n C dX3_takeNumber_34 35 rfl rfl 0 rfl ?_
      exact Rt.ret (hR) rfl dX3_takeNumber_35
    · rw [if_pos c4] at hR
      refine j_aload_n C dX3_takeNumber_24 25 rfl rfl 1 rfl ?_
      refine j_cv0V (na := 0) C dX3_takeNumber_25 28 rfl (c_X3_fail τ a bs tz so fr tt ft ) gX3_takeNumber_X3_fail rfl rfl rfl qd_X3_fail rfl ⟨by decide, by decide⟩ ⟨by decide, by decide⟩ rfl (Nat.le_of_ble_eq_true rfl) rfl 3 0 rfl rfl (fun u5 hX5 => ?_)
      obtain ⟨ft_5, rfl⟩ : ∃ z, z = u5 := ⟨_, rfl⟩
      rw [hX5] at hR; rw [pr1_mk ft_5] at hR
      refine j_iload_n C dX3_takeNumber_28 29 rfl rfl 2 rfl ?_
      exact Rt.ret (hR) rfl dX3_takeNumber_29
  · rw [if_neg c1] at hR
    refine j_iload_n C dX3_takeNumber_8 9 rfl rfl 1 rfl ?_
    exact Rt.ret (hR) rfl dX3_takeNumber_9

theorem tn_TN {bs : Nat → Int32} {n so fr tt ft x y r k f t g : Int32} (e : f_X3_takeNumber bs n so fr tt ft x y = (r, k, f, t, g)) (hn : TN n) (hf : TN fr) (ht : TN tt) : TN f ∧ TN t := by
  unfold f_X3_takeNumber at e
  have h := rs_TN (bs := bs) (n := n) (t := tt) (k := (f_X3_readSign bs n tt).1) (f := (f_X3_readSign bs n tt).2.1) (t2 := (f_X3_readSign bs n tt).2.2) rfl hn ht
  generalize f_X3_readSign bs n tt = p at h e
  obtain ⟨p0, p1, p2⟩ := p
  have h' : TN p1 ∧ TN p2 := h
  revert e
  simp only [pr1_mk, pr3_mk]
  repeat' split
  all_goals
    intro e
    simp only [Prod.mk.injEq] at e
    obtain ⟨_, _, e3, e4, _⟩ := e
    first | exact ⟨e3 ▸ hf, e4 ▸ ht⟩ | exact ⟨e3 ▸ h'.1, e4 ▸ h'.2⟩
theorem sc_TN {bs : Nat → Int32} {n so fr tt ft k f t g : Int32} (e : f_X3_takeSemicolon bs n so fr tt ft = (k, f, t, g)) (hn : TN n) (hf : TN fr) (ht : TN tt) : TN f ∧ TN t := by
  unfold f_X3_takeSemicolon at e
  have h := rs_TN (bs := bs) (n := n) (t := tt) (k := (f_X3_readSign bs n tt).1) (f := (f_X3_readSign bs n tt).2.1) (t2 := (f_X3_readSign bs n tt).2.2) rfl hn ht
  generalize f_X3_readSign bs n tt = p at h e
  obtain ⟨p0, p1, p2⟩ := p
  have h' : TN p1 ∧ TN p2 := h
  revert e
  simp only [pr1_mk, pr3_mk]
  repeat' split
  all_goals
    intro e
    simp only [Prod.mk.injEq] at e
    obtain ⟨_, e3, e4, _⟩ := e
    first | exact ⟨e3 ▸ hf, e4 ▸ ht⟩ | exact ⟨e3 ▸ h'.1, e4 ▸ h'.2⟩

