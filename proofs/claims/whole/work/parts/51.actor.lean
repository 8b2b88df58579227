def RBa (x : Int32) : Prop := 0 ≤ x.toInt ∧ x.toInt ≤ 30
theorem RBa0 : RBa 0 := by unfold RBa; decide
theorem RBa_in {x : Int32} (h : RBa x) (c : ¬ (30 : Int32) ≤ x) : vp_in x 30 := by
  rw [i32_le, show (30 : Int32).toInt = 30 from rfl] at c
  exact vpI h.1 (by omega)
theorem RBa_s {x : Int32} (h : RBa x) (c : ¬ (30 : Int32) ≤ x) : RBa (x + 1) := by
  have hs := cnt_step (B := 30) h.1 (by decide) (by decide) c
  exact ⟨hs.1, hs.2.1⟩

-- X0_parted
def f_X0_parted (ip : Int32) (x1 : Int32) (x2 : Int32) : Int32 × Int32 := if (x2 = 0) then ((0 : Int32), (1 : Int32)) else ((x1 / x2), ip)
theorem kX0_parted_f28 : Cond.fieldLink RX0 28 "TwoMinutes$Actor" "isParted" "Z" ∈ wsX0_parted := by decide +kernel
theorem qd_X0_parted : yX0_parted.cls = RX0 ∧ yX0_parted.cls ≠ "java/lang/invoke/MethodHandle" ∧ yX0_parted.cls ≠ "java/lang/invoke/VarHandle" ∧ (parseMethodDescriptor yX0_parted.desc).map (fun d => d.parameters.length) = some 2 := by decide +kernel
abbrev rmX0_parted : Room := { frames := 0, cells := 0, slots := 0, locals := 0 }
set_option maxHeartbeats 4000000 in
set_option maxRecDepth 100000 in
theorem c_X0_parted (τ : SX) (a : Nat → Nat) (bo : Nat → Int32) (bg : Int32) (ak : Int32) (an : Int32) (aa : Int32) (ip : Int32) (x1 : Int32) (x2 : Int32) (sz : Nat) : McI τ yX0_parted wsX0_parted rmX0_parted .int [.ref (a 0), .int x1, .int x2] (wA τ a bo bg ak an aa ip) (fun u : Int32 => (wA τ a bo bg ak an aa u)) (f_X0_parted ip x1 x2) sz := by
  refine mc_I (cc := cX0_parted) (own := RX0) [(0, .ref (a 0)), (1, .int x1), (2, .int x2)] rfl (by decide) rfl rfl (Nat.le_of_ble_eq_true rfl) (fun κ C hR => ?_)
  have hiX0 : ∀ w ∈ wsX00, w ∈ wsX0_parted := fun w h => List.mem_cons_of_mem _ (List.mem_append_right _ h)
  unfold f_X0_parted at hR
  refine j_iload_n C dX0_parted_0 1 rfl rfl 2 rfl ?_
  refine j_if_ne C dX0_parted_1 11 rfl 4 rfl (fun c1 => ?_) (fun c1 => ?_)
  · rw [if_neg c1] at hR
    refine j_iload_n C dX0_parted_11 12 rfl rfl 1 rfl ?_
    refine j_iload_n C dX0_parted_12 13 rfl rfl 2 rfl ?_
    refine j_idiv C dX0_parted_13 14 rfl (by assumption) ?_
    exact Rt.ret (hR) rfl dX0_parted_14
  · rw [if_pos c1] at hR
    refine j_aload_n C dX0_parted_4 5 rfl rfl 0 rfl ?_
    refine j_iconst (v := 1) C dX0_parted_5 6 rfl (by decide) ?_
    refine j_put C dX0_parted_6 9 rfl hiX0 tyX0_ok nmX0 0 rfl rfl 5 (by decide) rfl kX0_parted_f28 rfl rfl rfl (Nat.le_of_ble_eq_true rfl) (wA τ a bo bg ak an aa 1) rfl ?_
    refine j_iconst (v := 0) C dX0_parted_9 10 rfl (by decide) ?_
    exact Rt.ret (hR) rfl dX0_parted_10

-- X0_body
def f_X0_body__b10 (bo : Nat → Int32) (bg : Int32) (an : Int32) (ip : Int32) (x2 : Int32) (x3 : Int32) : Int32 × (Nat → Int32) × Int32 := if (ip = 0) then (if (x3 ≤ 40) then (pr2 (if (30 ≤ bg) then (bo, bg) else ((upd bo (bg).toNatClampNeg 10), (bg + 1))) (fun j21_0 j21_1 => (((x2 * 6) + an), j21_0, j21_1))) else ((0 : Int32), bo, bg)) else ((0 : Int32), bo, bg)
theorem kX0_body__b10_f28 : Cond.fieldLink RX0 28 "TwoMinutes$Actor" "isParted" "Z" ∈ wsX0_body := by decide +kernel
theorem kX0_body__b10_f25 : Cond.fieldLink RX0 25 "TwoMinutes$Actor" "begun" "I" ∈ wsX0_body := by decide +kernel
theorem kX0_body__b10_f11 : Cond.fieldLink RX0 11 "TwoMinutes$Actor" "bodies" "[I" ∈ wsX0_body := by decide +kernel
theorem kX0_body__b10_f19 : Cond.fieldLink RX0 19 "TwoMinutes$Actor" "n" "I" ∈ wsX0_body := by decide +kernel
theorem qd_X0_body__b10 : yX0_body.cls = RX0 ∧ yX0_body.cls ≠ "java/lang/invoke/MethodHandle" ∧ yX0_body.cls ≠ "java/lang/invoke/VarHandle" ∧ (parseMethodDescriptor yX0_body.desc).map (fun d => d.parameters.length) = some 3 := by decide +kernel
abbrev rmX0_body__b10 : Room := { frames := 0, cells := 0, slots := 0, locals := 0 }
set_option maxHeartbeats 4000000 in
set_option maxRecDepth 100000 in
theorem c_X0_body__b10 (τ : SX) (a : Nat → Nat) (bo : Nat → Int32) (bg : Int32) (ak : Int32) (an : Int32) (aa : Int32) (ip : Int32) (x2 : Int32) (x3 : Int32) (hr : RBa bg) (hk : ak = 0 ∨ ak = 1 ∨ ak = 2 ∨ ak = 3 ∨ ak = 4 ∨ ak = 5) (sz : Nat) : McI τ yX0_body wsX0_body rmX0_body__b10 .int [.ref (a 0), .int 10, .int x2, .int x3] (wA τ a bo bg ak an aa ip) (fun u : (Nat → Int32) × Int32 => (wA τ a u.1 u.2 ak an aa ip)) (f_X0_body__b10 bo bg an ip x2 x3) sz := by
  refine mc_I (cc := cX0_body) (own := RX0) [(0, .ref (a 0)), (1, .int 10), (2, .int x2), (3, .int x3)] rfl (by decide) rfl rfl (Nat.le_of_ble_eq_true rfl) (fun κ C hR => ?_)
  have hiX0 : ∀ w ∈ wsX00, w ∈ wsX0_body := fun w h => List.mem_cons_of_mem _ (List.mem_append_right _ h)
  unfold f_X0_body__b10 at hR
  refine j_aload_n C dX0_body_0 1 rfl rfl 0 rfl ?_
  refine j_get C dX0_body_1 4 rfl hiX0 0 rfl rfl 5 (by decide) rfl kX0_body__b10_f28 rfl ?_
  refine j_if_ne C dX0_body_4 13 rfl 7 rfl (fun c1 => ?_) (fun c1 => ?_)
  · rw [if_neg c1] at hR
    refine j_iconst (v := 0) C dX0_body_13 14 rfl (by decide) ?_
    exact Rt.ret (hR) rfl dX0_body_14
  · rw [if_pos c1] at hR
    refine j_iload_n C dX0_body_7 8 rfl rfl 3 rfl ?_
    refine j_bipush (v := 40) C dX0_body_8 10 rfl (by decide) ?_
    refine j_icmp_le C dX0_body_10 15 rfl 13 rfl (fun c2 => ?_) (fun c2 => ?_)
    · rw [if_pos c2] at hR
      refine j_aload_n C dX0_body_15 16 rfl rfl 0 rfl ?_
      refine j_get C dX0_body_16 19 rfl hiX0 0 rfl rfl 1 (by decide) rfl kX0_body__b10_f25 rfl ?_
      refine j_bipush (v := 30) C dX0_body_19 21 rfl (by decide) ?_
      have J21 : ∀ (j21_0 : Nat → Int32) (j21_1 : Int32), (RBa j21_1) → Rt τ κ cX0_body .int (fun u : (Nat → Int32) × Int32 => (wA τ a u.1 u.2 ak an aa ip)) ((((x2 * 6) + an), j21_0, j21_1)) → J τ κ 0 0 (wA τ a j21_0 j21_1 ak an aa ip) [(0, .ref (a 0)), (1, .int 10), (2, .int x2), (3, .int x3)] 44 [] := by
        intro j21_0 j21_1 hj hR
        refine j_iload_n C dX0_body_44 45 rfl rfl 1 rfl ?_
        refine j_tabIn C dX0_body_45 (by decide) (by decide) (by rfl) 268 rfl ?_
        refine j_iload_n C dX0_body_268 269 rfl rfl 2 rfl ?_
        refine j_bipush (v := 6) C dX0_body_269 271 rfl (by decide) ?_
        refine j_imul C dX0_body_271 272 rfl ?_
        refine j_aload_n C dX0_body_272 273 rfl rfl 0 rfl ?_
        refine j_get C dX0_body_273 276 rfl hiX0 0 rfl rfl 3 (by decide) rfl kX0_body__b10_f19 rfl ?_
        refine j_iadd C dX0_body_276 277 rfl ?_
        exact Rt.ret (hR) rfl dX0_body_277
      refine j_icmp_ge C dX0_body_21 44 rfl 24 rfl (fun c3 => ?_) (fun c3 => ?_)
      · rw [if_pos c3] at hR
        rw [pr2_mk bo bg] at hR
        exact j_lv [0, 1, 2, 3] [(0, .ref (a 0)), (1, .int 10), (2, .int x2), (3, .int x3)] rfl (J21 _ _ (by first | exact hr | exact RBa_s hr (by assumption)) hR)
      · rw [if_neg c3] at hR
        refine j_aload_n C dX0_body_24 25 rfl rfl 0 rfl ?_
        refine j_get C dX0_body_25 28 rfl hiX0 0 rfl rfl 0 (by decide) rfl kX0_body__b10_f11 rfl ?_
        refine j_aload_n C dX0_body_28 29 rfl rfl 0 rfl ?_
        refine j_get C dX0_body_29 32 rfl hiX0 0 rfl rfl 1 (by decide) rfl kX0_body__b10_f25 rfl ?_
        refine j_iload_n C dX0_body_32 33 rfl rfl 1 rfl ?_
        refine j_iast C dX0_body_33 34 rfl 1 rfl (RBa_in hr (by assumption)) (bg).toNatClampNeg rfl (wA τ a (upd bo (bg).toNatClampNeg 10) bg ak an aa ip) rfl ?_
        refine j_aload_n C dX0_body_34 35 rfl rfl 0 rfl ?_
        refine j_dup C dX0_body_35 36 rfl rfl ?_
        refine j_get C dX0_body_36 39 rfl hiX0 0 rfl rfl 1 (by decide) rfl kX0_body__b10_f25 rfl ?_
        refine j_iconst (v := 1) C dX0_body_39 40 rfl (by decide) ?_
        refine j_iadd C dX0_body_40 41 rfl ?_
        refine j_put C dX0_body_41 44 rfl hiX0 tyX0_ok nmX0 0 rfl rfl 1 (by decide) rfl kX0_body__b10_f25 rfl rfl rfl (Nat.le_of_ble_eq_true rfl) (wA τ a (upd bo (bg).toNatClampNeg 10) (bg + 1) ak an aa ip) rfl ?_
        rw [pr2_mk (upd bo (bg).toNatClampNeg 10) (bg + 1)] at hR
        exact j_lv [0, 1, 2, 3] [(0, .ref (a 0)), (1, .int 10), (2, .int x2), (3, .int x3)] rfl (J21 _ _ (by first | exact hr | exact RBa_s hr (by assumption)) hR)
    · rw [if_neg c2] at hR
      refine j_iconst (v := 0) C dX0_body_13 14 rfl (by decide) ?_
      exact Rt.ret (hR) rfl dX0_body_14

theorem rb_X0_body__b10 {bo : Nat → Int32} {bg : Int32} {an : Int32} {ip : Int32} {x2 : Int32} {x3 : Int32} (h : RBa bg) : RBa (f_X0_body__b10 bo bg an ip x2 x3).2.2 := by
  unfold f_X0_body__b10
  simp only [pr1, pr2, pr3, pr4]
  repeat' split
  all_goals with_reducible first | exact h | exact RBa_s h (by assumption)
theorem rc_X0_body__b10 {bo : Nat → Int32} {bg : Int32} {an : Int32} {ip : Int32} {x2 : Int32} {x3 : Int32} {r : Int32} {w_bo : Nat → Int32} {w_bg : Int32} (h : RBa bg) (e : f_X0_body__b10 bo bg an ip x2 x3 = (r, w_bo, w_bg)) : RBa w_bg := by
  have q := rb_X0_body__b10 (bo := bo) (bg := bg) (an := an) (ip := ip) (x2 := x2) (x3 := x3) h
  rw [e] at q
  exact q

-- X0_body
def f_X0_body__b30 (bo : Nat → Int32) (bg : Int32) (an : Int32) (ip : Int32) (x2 : Int32) (x3 : Int32) : Int32 × (Nat → Int32) × Int32 := if (ip = 0) then (if (x3 ≤ 40) then (pr2 (if (30 ≤ bg) then (bo, bg) else ((upd bo (bg).toNatClampNeg 30), (bg + 1))) (fun j21_0 j21_1 => pr3 (f_X0_body__b10 j21_0 j21_1 an ip x2 (x3 + 1)) (fun r4 bo_4 bg_4 => (((0 : Int32) - r4), bo_4, bg_4)))) else ((0 : Int32), bo, bg)) else ((0 : Int32), bo, bg)
theorem kX0_body__b30_f28 : Cond.fieldLink RX0 28 "TwoMinutes$Actor" "isParted" "Z" ∈ wsX0_body := by decide +kernel
theorem kX0_body__b30_f25 : Cond.fieldLink RX0 25 "TwoMinutes$Actor" "begun" "I" ∈ wsX0_body := by decide +kernel
theorem kX0_body__b30_f11 : Cond.fieldLink RX0 11 "TwoMinutes$Actor" "bodies" "[I" ∈ wsX0_body := by decide +kernel
theorem qd_X0_body__b30 : yX0_body.cls = RX0 ∧ yX0_body.cls ≠ "java/lang/invoke/MethodHandle" ∧ yX0_body.cls ≠ "java/lang/invoke/VarHandle" ∧ (parseMethodDescriptor yX0_body.desc).map (fun d => d.parameters.length) = some 3 := by decide +kernel
abbrev rmX0_body__b30 : Room := { frames := 1, cells := 0, slots := 0, locals := 23 }
set_option maxHeartbeats 4000000 in
set_option maxRecDepth 100000 in
theorem c_X0_body__b30 (τ : SX) (a : Nat → Nat) (bo : Nat → Int32) (bg : Int32) (ak : Int32) (an : Int32) (aa : Int32) (ip : Int32) (x2 : Int32) (x3 : Int32) (hr : RBa bg) (hk : ak = 0 ∨ ak = 1 ∨ ak = 2 ∨ ak = 3 ∨ ak = 4 ∨ ak = 5) (sz : Nat) : McI τ yX0_body wsX0_body rmX0_body__b30 .int [.ref (a 0), .int 30, .int x2, .int x3] (wA τ a bo bg ak an aa ip) (fun u : (Nat → Int32) × Int32 => (wA τ a u.1 u.2 ak an aa ip)) (f_X0_body__b30 bo bg an ip x2 x3) sz := by
  refine mc_I (cc := cX0_body) (own := RX0) [(0, .ref (a 0)), (1, .int 30), (2, .int x2), (3, .int x3)] rfl (by decide) rfl rfl (Nat.le_of_ble_eq_true rfl) (fun κ C hR => ?_)
  have hiX0 : ∀ w ∈ wsX00, w ∈ wsX0_body := fun w h => List.mem_cons_of_mem _ (List.mem_append_right _ h)
  unfold f_X0_body__b30 at hR
  refine j_aload_n C dX0_body_0 1 rfl rfl 0 rfl ?_
  refine j_get C dX0_body_1 4 rfl hiX0 0 rfl rfl 5 (by decide) rfl kX0_body__b30_f28 rfl ?_
  refine j_if_ne C dX0_body_4 13 rfl 7 rfl (fun c1 => ?_) (fun c1 => ?_)
  · rw [if_neg c1] at hR
    refine j_iconst (v := 0) C dX0_body_13 14 rfl (by decide) ?_
    exact Rt.ret (hR) rfl dX0_body_14
  · rw [if_pos c1] at hR
    refine j_iload_n C dX0_body_7 8 rfl rfl 3 rfl ?_
    refine j_bipush (v := 40) C dX0_body_8 10 rfl (by decide) ?_
    refine j_icmp_le C dX0_body_10 15 rfl 13 rfl (fun c2 => ?_) (fun c2 => ?_)
    · rw [if_pos c2] at hR
      refine j_aload_n C dX0_body_15 16 rfl rfl 0 rfl ?_
      refine j_get C dX0_body_16 19 rfl hiX0 0 rfl rfl 1 (by decide) rfl kX0_body__b30_f25 rfl ?_
      refine j_bipush (v := 30) C dX0_body_19 21 rfl (by decide) ?_
      have J21 : ∀ (j21_0 : Nat → Int32) (j21_1 : Int32), (RBa j21_1) → Rt τ κ cX0_body .int (fun u : (Nat → Int32) × Int32 => (wA τ a u.1 u.2 ak an aa ip)) (pr3 (f_X0_body__b10 j21_0 j21_1 an ip x2 (x3 + 1)) (fun r4 bo_4 bg_4 => (((0 : Int32) - r4), bo_4, bg_4))) → J τ κ 0 0 (wA τ a j21_0 j21_1 ak an aa ip) [(0, .ref (a 0)), (1, .int 30), (2, .int x2), (3, .int x3)] 44 [] := by
        intro j21_0 j21_1 hj hR
        refine j_iload_n C dX0_body_44 45 rfl rfl 1 rfl ?_
        refine j_tabIn C dX0_body_45 (by decide) (by decide) (by rfl) 330 rfl ?_
        refine j_iconst (v := 0) C dX0_body_330 331 rfl (by decide) ?_
        refine j_aload_n C dX0_body_331 332 rfl rfl 0 rfl ?_
        refine j_bipush (v := 10) C dX0_body_332 334 rfl (by decide) ?_
        refine j_iload_n C dX0_body_334 335 rfl rfl 2 rfl ?_
        refine j_iload_n C dX0_body_335 336 rfl rfl 3 rfl ?_
        refine j_iconst (v := 1) C dX0_body_336 337 rfl (by decide) ?_
        refine j_iadd C dX0_body_337 338 rfl ?_
        refine j_cv0I (na := 3) C dX0_body_338 341 rfl (c_X0_body__b10 τ a j21_0 j21_1 ak an aa ip x2 (x3 + 1) (by first | assumption | exact RBa0 | (unfold vp_in; decide) | decide) (by first | assumption | exact RBa0 | (unfold vp_in; decide) | decide)) gX0_body_X0_body rfl rfl rfl qd_X0_body__b10 rfl ⟨by decide, by decide⟩ ⟨by decide, by decide⟩ rfl (Nat.le_of_ble_eq_true rfl) rfl 0 0 rfl rfl (fun r4 u4 hX4 hn4 => ?_)
        obtain ⟨bo_4, bg_4⟩ := u4
        rw [hX4] at hR; rw [pr3_mk r4 bo_4 bg_4] at hR
        have hr4 : RBa bg_4 := rc_X0_body__b10 (by first | assumption | exact RBa0) hX4
        refine j_isub C dX0_body_341 342 rfl ?_
        exact Rt.ret (hR) rfl dX0_body_342
      refine j_icmp_ge C dX0_body_21 44 rfl 24 rfl (fun c3 => ?_) (fun c3 => ?_)
      · rw [if_pos c3] at hR
        rw [pr2_mk bo bg] at hR
        exact j_lv [0, 1, 2, 3] [(0, .ref (a 0)), (1, .int 30), (2, .int x2), (3, .int x3)] rfl (J21 _ _ (by first | exact hr | exact RBa_s hr (by assumption)) hR)
      · rw [if_neg c3] at hR
        refine j_aload_n C dX0_body_24 25 rfl rfl 0 rfl ?_
        refine j_get C dX0_body_25 28 rfl hiX0 0 rfl rfl 0 (by decide) rfl kX0_body__b30_f11 rfl ?_
        refine j_aload_n C dX0_body_28 29 rfl rfl 0 rfl ?_
        refine j_get C dX0_body_29 32 rfl hiX0 0 rfl rfl 1 (by decide) rfl kX0_body__b30_f25 rfl ?_
        refine j_iload_n C dX0_body_32 33 rfl rfl 1 rfl ?_
        refine j_iast C dX0_body_33 34 rfl 1 rfl (RBa_in hr (by assumption)) (bg).toNatClampNeg rfl (wA τ a (upd bo (bg).toNatClampNeg 30) bg ak an aa ip) rfl ?_
        refine j_aload_n C dX0_body_34 35 rfl rfl 0 rfl ?_
        refine j_dup C dX0_body_35 36 rfl rfl ?_
        refine j_get C dX0_body_36 39 rfl hiX0 0 rfl rfl 1 (by decide) rfl kX0_body__b30_f25 rfl ?_
        refine j_iconst (v := 1) C dX0_body_39 40 rfl (by decide) ?_
        refine j_iadd C dX0_body_40 41 rfl ?_
        refine j_put C dX0_body_41 44 rfl hiX0 tyX0_ok nmX0 0 rfl rfl 1 (by decide) rfl kX0_body__b30_f25 rfl rfl rfl (Nat.le_of_ble_eq_true rfl) (wA τ a (upd bo (bg).toNatClampNeg 30) (bg + 1) ak an aa ip) rfl ?_
        rw [pr2_mk (upd bo (bg).toNatClampNeg 30) (bg + 1)] at hR
        exact j_lv [0, 1, 2, 3] [(0, .ref (a 0)), (1, .int 30), (2, .int x2), (3, .int x3)] rfl (J21 _ _ (by first | exact hr | exact RBa_s hr (by assumption)) hR)
    · rw [if_neg c2] at hR
      refine j_iconst (v := 0) C dX0_body_13 14 rfl (by decide) ?_
      exact Rt.ret (hR) rfl dX0_body_14

theorem rb_X0_body__b30 {bo : Nat → Int32} {bg : Int32} {an : Int32} {ip : Int32} {x2 : Int32} {x3 : Int32} (h : RBa bg) : RBa (f_X0_body__b30 bo bg an ip x2 x3).2.2 := by
  unfold f_X0_body__b30
  simp only [pr1, pr2, pr3, pr4]
  repeat' split
  all_goals with_reducible first | exact h | exact rb_X0_body__b10 h | exact rb_X0_body__b10 (RBa_s h (by assumption)) | exact RBa_s h (by assumption)
theorem rc_X0_body__b30 {bo : Nat → Int32} {bg : Int32} {an : Int32} {ip : Int32} {x2 : Int32} {x3 : Int32} {r : Int32} {w_bo : Nat → Int32} {w_bg : Int32} (h : RBa bg) (e : f_X0_body__b30 bo bg an ip x2 x3 = (r, w_bo, w_bg)) : RBa w_bg := by
  have q := rb_X0_body__b30 (bo := bo) (bg := bg) (an := an) (ip := ip) (x2 := x2) (x3 := x3) h
  rw [e] at q
  exact q

-- X0_body
def f_X0_body__b51 (bo : Nat → Int32) (bg : Int32) (an : Int32) (aa : Int32) (ip : Int32) (x2 : Int32) (x3 : Int32) : Int32 × (Nat → Int32) × Int32 := if (ip = 0) then (if (x3 ≤ 40) then (pr2 (if (30 ≤ bg) then (bo, bg) else ((upd bo (bg).toNatClampNeg 51), (bg + 1))) (fun j21_0 j21_1 => pr3 (f_X0_body__b10 j21_0 j21_1 an ip x2 (x3 + 1)) (fun r4 bo_4 bg_4 => ((r4 + aa), bo_4, bg_4)))) else ((0 : Int32), bo, bg)) else ((0 : Int32), bo, bg)
theorem kX0_body__b51_f28 : Cond.fieldLink RX0 28 "TwoMinutes$Actor" "isParted" "Z" ∈ wsX0_body := by decide +kernel
theorem kX0_body__b51_f25 : Cond.fieldLink RX0 25 "TwoMinutes$Actor" "begun" "I" ∈ wsX0_body := by decide +kernel
theorem kX0_body__b51_f11 : Cond.fieldLink RX0 11 "TwoMinutes$Actor" "bodies" "[I" ∈ wsX0_body := by decide +kernel
theorem kX0_body__b51_f22 : Cond.fieldLink RX0 22 "TwoMinutes$Actor" "a" "I" ∈ wsX0_body := by decide +kernel
theorem qd_X0_body__b51 : yX0_body.cls = RX0 ∧ yX0_body.cls ≠ "java/lang/invoke/MethodHandle" ∧ yX0_body.cls ≠ "java/lang/invoke/VarHandle" ∧ (parseMethodDescriptor yX0_body.desc).map (fun d => d.parameters.length) = some 3 := by decide +kernel
abbrev rmX0_body__b51 : Room := { frames := 1, cells := 0, slots := 0, locals := 23 }
set_option maxHeartbeats 4000000 in
set_option maxRecDepth 100000 in
theorem c_X0_body__b51 (τ : SX) (a : Nat → Nat) (bo : Nat → Int32) (bg : Int32) (ak : Int32) (an : Int32) (aa : Int32) (ip : Int32) (x2 : Int32) (x3 : Int32) (hr : RBa bg) (hk : ak = 0 ∨ ak = 1 ∨ ak = 2 ∨ ak = 3 ∨ ak = 4 ∨ ak = 5) (sz : Nat) : McI τ yX0_body wsX0_body rmX0_body__b51 .int [.ref (a 0), .int 51, .int x2, .int x3] (wA τ a bo bg ak an aa ip) (fun u : (Nat → Int32) × Int32 => (wA τ a u.1 u.2 ak an aa ip)) (f_X0_body__b51 bo bg an aa ip x2 x3) sz := by
  refine mc_I (cc := cX0_body) (own := RX0) [(0, .ref (a 0)), (1, .int 51), (2, .int x2), (3, .int x3)] rfl (by decide) rfl rfl (Nat.le_of_ble_eq_true rfl) (fun κ C hR => ?_)
  have hiX0 : ∀ w ∈ wsX00, w ∈ wsX0_body := fun w h => List.mem_cons_of_mem _ (List.mem_append_right _ h)
  unfold f_X0_body__b51 at hR
  refine j_aload_n C dX0_body_0 1 rfl rfl 0 rfl ?_
  refine j_get C dX0_body_1 4 rfl hiX0 0 rfl rfl 5 (by decide) rfl kX0_body__b51_f28 rfl ?_
  refine j_if_ne C dX0_body_4 13 rfl 7 rfl (fun c1 => ?_) (fun c1 => ?_)
  · rw [if_neg c1] at hR
    refine j_iconst (v := 0) C dX0_body_13 14 rfl (by decide) ?_
    exact Rt.ret (hR) rfl dX0_body_14
  · rw [if_pos c1] at hR
    refine j_iload_n C dX0_body_7 8 rfl rfl 3 rfl ?_
    refine j_bipush (v := 40) C dX0_body_8 10 rfl (by decide) ?_
    refine j_icmp_le C dX0_body_10 15 rfl 13 rfl (fun c2 => ?_) (fun c2 => ?_)
    · rw [if_pos c2] at hR
      refine j_aload_n C dX0_body_15 16 rfl rfl 0 rfl ?_
      refine j_get C dX0_body_16 19 rfl hiX0 0 rfl rfl 1 (by decide) rfl kX0_body__b51_f25 rfl ?_
      refine j_bipush (v := 30) C dX0_body_19 21 rfl (by decide) ?_
      have J21 : ∀ (j21_0 : Nat → Int32) (j21_1 : Int32), (RBa j21_1) → Rt τ κ cX0_body .int (fun u : (Nat → Int32) × Int32 => (wA τ a u.1 u.2 ak an aa ip)) (pr3 (f_X0_body__b10 j21_0 j21_1 an ip x2 (x3 + 1)) (fun r4 bo_4 bg_4 => ((r4 + aa), bo_4, bg_4))) → J τ κ 0 0 (wA τ a j21_0 j21_1 ak an aa ip) [(0, .ref (a 0)), (1, .int 51), (2, .int x2), (3, .int x3)] 44 [] := by
        intro j21_0 j21_1 hj hR
        refine j_iload_n C dX0_body_44 45 rfl rfl 1 rfl ?_
        refine j_tabIn C dX0_body_45 (by decide) (by decide) (by rfl) 419 rfl ?_
        refine j_aload_n C dX0_body_419 420 rfl rfl 0 rfl ?_
        refine j_bipush (v := 10) C dX0_body_420 422 rfl (by decide) ?_
        refine j_iload_n C dX0_body_422 423 rfl rfl 2 rfl ?_
        refine j_iload_n C dX0_body_423 424 rfl rfl 3 rfl ?_
        refine j_iconst (v := 1) C dX0_body_424 425 rfl (by decide) ?_
        refine j_iadd C dX0_body_425 426 rfl ?_
        refine j_cv0I (na := 3) C dX0_body_426 429 rfl (c_X0_body__b10 τ a j21_0 j21_1 ak an aa ip x2 (x3 + 1) (by first | assumption | exact RBa0 | (unfold vp_in; decide) | decide) (by first | assumption | exact RBa0 | (unfold vp_in; decide) | decide)) gX0_body_X0_body rfl rfl rfl qd_X0_body__b10 rfl ⟨by decide, by decide⟩ ⟨by decide, by decide⟩ rfl (Nat.le_of_ble_eq_true rfl) rfl 0 0 rfl rfl (fun r4 u4 hX4 hn4 => ?_)
        obtain ⟨bo_4, bg_4⟩ := u4
        rw [hX4] at hR; rw [pr3_mk r4 bo_4 bg_4] at hR
        have hr4 : RBa bg_4 := rc_X0_body__b10 (by first | assumption | exact RBa0) hX4
        refine j_aload_n C dX0_body_429 430 rfl rfl 0 rfl ?_
        refine j_get C dX0_body_430 433 rfl hiX0 0 rfl rfl 4 (by decide) rfl kX0_body__b51_f22 rfl ?_
        refine j_iadd C dX0_body_433 434 rfl ?_
        exact Rt.ret (hR) rfl dX0_body_434
      refine j_icmp_ge C dX0_body_21 44 rfl 24 rfl (fun c3 => ?_) (fun c3 => ?_)
      · rw [if_pos c3] at hR
        rw [pr2_mk bo bg] at hR
        exact j_lv [0, 1, 2, 3] [(0, .ref (a 0)), (1, .int 51), (2, .int x2), (3, .int x3)] rfl (J21 _ _ (by first | exact hr | exact RBa_s hr (by assumption)) hR)
      · rw [if_neg c3] at hR
        refine j_aload_n C dX0_body_24 25 rfl rfl 0 rfl ?_
        refine j_get C dX0_body_25 28 rfl hiX0 0 rfl rfl 0 (by decide) rfl kX0_body__b51_f11 rfl ?_
        refine j_aload_n C dX0_body_28 29 rfl rfl 0 rfl ?_
        refine j_get C dX0_body_29 32 rfl hiX0 0 rfl rfl 1 (by decide) rfl kX0_body__b51_f25 rfl ?_
        refine j_iload_n C dX0_body_32 33 rfl rfl 1 rfl ?_
        refine j_iast C dX0_body_33 34 rfl 1 rfl (RBa_in hr (by assumption)) (bg).toNatClampNeg rfl (wA τ a (upd bo (bg).toNatClampNeg 51) bg ak an aa ip) rfl ?_
        refine j_aload_n C dX0_body_34 35 rfl rfl 0 rfl ?_
        refine j_dup C dX0_body_35 36 rfl rfl ?_
        refine j_get C dX0_body_36 39 rfl hiX0 0 rfl rfl 1 (by decide) rfl kX0_body__b51_f25 rfl ?_
        refine j_iconst (v := 1) C dX0_body_39 40 rfl (by decide) ?_
        refine j_iadd C dX0_body_40 41 rfl ?_
        refine j_put C dX0_body_41 44 rfl hiX0 tyX0_ok nmX0 0 rfl rfl 1 (by decide) rfl kX0_body__b51_f25 rfl rfl rfl (Nat.le_of_ble_eq_true rfl) (wA τ a (upd bo (bg).toNatClampNeg 51) (bg + 1) ak an aa ip) rfl ?_
        rw [pr2_mk (upd bo (bg).toNatClampNeg 51) (bg + 1)] at hR
        exact j_lv [0, 1, 2, 3] [(0, .ref (a 0)), (1, .int 51), (2, .int x2), (3, .int x3)] rfl (J21 _ _ (by first | exact hr | exact RBa_s hr (by assumption)) hR)
    · rw [if_neg c2] at hR
      refine j_iconst (v := 0) C dX0_body_13 14 rfl (by decide) ?_
      exact Rt.ret (hR) rfl dX0_body_14

theorem rb_X0_body__b51 {bo : Nat → Int32} {bg : Int32} {an : Int32} {aa : Int32} {ip : Int32} {x2 : Int32} {x3 : Int32} (h : RBa bg) : RBa (f_X0_body__b51 bo bg an aa ip x2 x3).2.2 := by
  unfold f_X0_body__b51
  simp only [pr1, pr2, pr3, pr4]
  repeat' split
  all_goals with_reducible first | exact h | exact rb_X0_body__b10 h | exact rb_X0_body__b10 (RBa_s h (by assumption)) | exact RBa_s h (by assumption)
theorem rc_X0_body__b51 {bo : Nat → Int32} {bg : Int32} {an : Int32} {aa : Int32} {ip : Int32} {x2 : Int32} {x3 : Int32} {r : Int32} {w_bo : Nat → Int32} {w_bg : Int32} (h : RBa bg) (e : f_X0_body__b51 bo bg an aa ip x2 x3 = (r, w_bo, w_bg)) : RBa w_bg := by
  have q := rb_X0_body__b51 (bo := bo) (bg := bg) (an := an) (aa := aa) (ip := ip) (x2 := x2) (x3 := x3) h
  rw [e] at q
  exact q

-- X0_body
def f_X0_body__b40 (bo : Nat → Int32) (bg : Int32) (an : Int32) (ip : Int32) (x2 : Int32) (x3 : Int32) : Int32 × (Nat → Int32) × Int32 := if (ip = 0) then (if (x3 ≤ 40) then (pr2 (if (30 ≤ bg) then (bo, bg) else ((upd bo (bg).toNatClampNeg 40), (bg + 1))) (fun j21_0 j21_1 => pr3 (f_X0_body__b30 j21_0 j21_1 an ip x2 (x3 + 1)) (fun r4 bo_4 bg_4 => ((r4 - 9), bo_4, bg_4)))) else ((0 : Int32), bo, bg)) else ((0 : Int32), bo, bg)
theorem kX0_body__b40_f28 : Cond.fieldLink RX0 28 "TwoMinutes$Actor" "isParted" "Z" ∈ wsX0_body := by decide +kernel
theorem kX0_body__b40_f25 : Cond.fieldLink RX0 25 "TwoMinutes$Actor" "begun" "I" ∈ wsX0_body := by decide +kernel
theorem kX0_body__b40_f11 : Cond.fieldLink RX0 11 "TwoMinutes$Actor" "bodies" "[I" ∈ wsX0_body := by decide +kernel
theorem qd_X0_body__b40 : yX0_body.cls = RX0 ∧ yX0_body.cls ≠ "java/lang/invoke/MethodHandle" ∧ yX0_body.cls ≠ "java/lang/invoke/VarHandle" ∧ (parseMethodDescriptor yX0_body.desc).map (fun d => d.parameters.length) = some 3 := by decide +kernel
abbrev rmX0_body__b40 : Room := { frames := 2, cells := 0, slots := 0, locals := 46 }
set_option maxHeartbeats 4000000 in
set_option maxRecDepth 100000 in
theorem c_X0_body__b40 (τ : SX) (a : Nat → Nat) (bo : Nat → Int32) (bg : Int32) (ak : Int32) (an : Int32) (aa : Int32) (ip : Int32) (x2 : Int32) (x3 : Int32) (hr : RBa bg) (hk : ak = 0 ∨ ak = 1 ∨ ak = 2 ∨ ak = 3 ∨ ak = 4 ∨ ak = 5) (sz : Nat) : McI τ yX0_body wsX0_body rmX0_body__b40 .int [.ref (a 0), .int 40, .int x2, .int x3] (wA τ a bo bg ak an aa ip) (fun u : (Nat → Int32) × Int32 => (wA τ a u.1 u.2 ak an aa ip)) (f_X0_body__b40 bo bg an ip x2 x3) sz := by
  refine mc_I (cc := cX0_body) (own := RX0) [(0, .ref (a 0)), (1, .int 40), (2, .int x2), (3, .int x3)] rfl (by decide) rfl rfl (Nat.le_of_ble_eq_true rfl) (fun κ C hR => ?_)
  have hiX0 : ∀ w ∈ wsX00, w ∈ wsX0_body := fun w h => List.mem_cons_of_mem _ (List.mem_append_right _ h)
  unfold f_X0_body__b40 at hR
  refine j_aload_n C dX0_body_0 1 rfl rfl 0 rfl ?_
  refine j_get C dX0_body_1 4 rfl hiX0 0 rfl rfl 5 (by decide) rfl kX0_body__b40_f28 rfl ?_
  refine j_if_ne C dX0_body_4 13 rfl 7 rfl (fun c1 => ?_) (fun c1 => ?_)
  · rw [if_neg c1] at hR
    refine j_iconst (v := 0) C dX0_body_13 14 rfl (by decide) ?_
    exact Rt.ret (hR) rfl dX0_body_14
  · rw [if_pos c1] at hR
    refine j_iload_n C dX0_body_7 8 rfl rfl 3 rfl ?_
    refine j_bipush (v := 40) C dX0_body_8 10 rfl (by decide) ?_
    refine j_icmp_le C dX0_body_10 15 rfl 13 rfl (fun c2 => ?_) (fun c2 => ?_)
    · rw [if_pos c2] at hR
      refine j_aload_n C dX0_body_15 16 rfl rfl 0 rfl ?_
      refine j_get C dX0_body_16 19 rfl hiX0 0 rfl rfl 1 (by decide) rfl kX0_body__b40_f25 rfl ?_
      refine j_bipush (v := 30) C dX0_body_19 21 rfl (by decide) ?_
      have J21 : ∀ (j21_0 : Nat → Int32) (j21_1 : Int32), (RBa j21_1) → Rt τ κ cX0_body .int (fun u : (Nat → Int32) × Int32 => (wA τ a u.1 u.2 ak an aa ip)) (pr3 (f_X0_body__b30 j21_0 j21_1 an ip x2 (x3 + 1)) (fun r4 bo_4 bg_4 => ((r4 - 9), bo_4, bg_4))) → J τ κ 0 0 (wA τ a j21_0 j21_1 ak an aa ip) [(0, .ref (a 0)), (1, .int 40), (2, .int x2), (3, .int x3)] 44 [] := by
        intro j21_0 j21_1 hj hR
        refine j_iload_n C dX0_body_44 45 rfl rfl 1 rfl ?_
        refine j_tabIn C dX0_body_45 (by decide) (by decide) (by rfl) 365 rfl ?_
        refine j_aload_n C dX0_body_365 366 rfl rfl 0 rfl ?_
        refine j_bipush (v := 30) C dX0_body_366 368 rfl (by decide) ?_
        refine j_iload_n C dX0_body_368 369 rfl rfl 2 rfl ?_
        refine j_iload_n C dX0_body_369 370 rfl rfl 3 rfl ?_
        refine j_iconst (v := 1) C dX0_body_370 371 rfl (by decide) ?_
        refine j_iadd C dX0_body_371 372 rfl ?_
        refine j_cv0I (na := 3) C dX0_body_372 375 rfl (c_X0_body__b30 τ a j21_0 j21_1 ak an aa ip x2 (x3 + 1) (by first | assumption | exact RBa0 | (unfold vp_in; decide) | decide) (by first | assumption | exact RBa0 | (unfold vp_in; decide) | decide)) gX0_body_X0_body rfl rfl rfl qd_X0_body__b30 rfl ⟨by decide, by decide⟩ ⟨by decide, by decide⟩ rfl (Nat.le_of_ble_eq_true rfl) rfl 0 0 rfl rfl (fun r4 u4 hX4 hn4 => ?_)
        obtain ⟨bo_4, bg_4⟩ := u4
        rw [hX4] at hR; rw [pr3_mk r4 bo_4 bg_4] at hR
        have hr4 : RBa bg_4 := rc_X0_body__b30 (by first | assumption | exact RBa0) hX4
        refine j_bipush (v := 9) C dX0_body_375 377 rfl (by decide) ?_
        refine j_isub C dX0_body_377 378 rfl ?_
        exact Rt.ret (hR) rfl dX0_body_378
      refine j_icmp_ge C dX0_body_21 44 rfl 24 rfl (fun c3 => ?_) (fun c3 => ?_)
      · rw [if_pos c3] at hR
        rw [pr2_mk bo bg] at hR
        exact j_lv [0, 1, 2, 3] [(0, .ref (a 0)), (1, .int 40), (2, .int x2), (3, .int x3)] rfl (J21 _ _ (by first | exact hr | exact RBa_s hr (by assumption)) hR)
      · rw [if_neg c3] at hR
        refine j_aload_n C dX0_body_24 25 rfl rfl 0 rfl ?_
        refine j_get C dX0_body_25 28 rfl hiX0 0 rfl rfl 0 (by decide) rfl kX0_body__b40_f11 rfl ?_
        refine j_aload_n C dX0_body_28 29 rfl rfl 0 rfl ?_
        refine j_get C dX0_body_29 32 rfl hiX0 0 rfl rfl 1 (by decide) rfl kX0_body__b40_f25 rfl ?_
        refine j_iload_n C dX0_body_32 33 rfl rfl 1 rfl ?_
        refine j_iast C dX0_body_33 34 rfl 1 rfl (RBa_in hr (by assumption)) (bg).toNatClampNeg rfl (wA τ a (upd bo (bg).toNatClampNeg 40) bg ak an aa ip) rfl ?_
        refine j_aload_n C dX0_body_34 35 rfl rfl 0 rfl ?_
        refine j_dup C dX0_body_35 36 rfl rfl ?_
        refine j_get C dX0_body_36 39 rfl hiX0 0 rfl rfl 1 (by decide) rfl kX0_body__b40_f25 rfl ?_
        refine j_iconst (v := 1) C dX0_body_39 40 rfl (by decide) ?_
        refine j_iadd C dX0_body_40 41 rfl ?_
        refine j_put C dX0_body_41 44 rfl hiX0 tyX0_ok nmX0 0 rfl rfl 1 (by decide) rfl kX0_body__b40_f25 rfl rfl rfl (Nat.le_of_ble_eq_true rfl) (wA τ a (upd bo (bg).toNatClampNeg 40) (bg + 1) ak an aa ip) rfl ?_
        rw [pr2_mk (upd bo (bg).toNatClampNeg 40) (bg + 1)] at hR
        exact j_lv [0, 1, 2, 3] [(0, .ref (a 0)), (1, .int 40), (2, .int x2), (3, .int x3)] rfl (J21 _ _ (by first | exact hr | exact RBa_s hr (by assumption)) hR)
    · rw [if_neg c2] at hR
      refine j_iconst (v := 0) C dX0_body_13 14 rfl (by decide) ?_
      exact Rt.ret (hR) rfl dX0_body_14

theorem rb_X0_body__b40 {bo : Nat → Int32} {bg : Int32} {an : Int32} {ip : Int32} {x2 : Int32} {x3 : Int32} (h : RBa bg) : RBa (f_X0_body__b40 bo bg an ip x2 x3).2.2 := by
  unfold f_X0_body__b40
  simp only [pr1, pr2, pr3, pr4]
  repeat' split
  all_goals with_reducible first | exact h | exact rb_X0_body__b30 h | exact rb_X0_body__b30 (RBa_s h (by assumption)) | exact RBa_s h (by assumption)
theorem rc_X0_body__b40 {bo : Nat → Int32} {bg : Int32} {an : Int32} {ip : Int32} {x2 : Int32} {x3 : Int32} {r : Int32} {w_bo : Nat → Int32} {w_bg : Int32} (h : RBa bg) (e : f_X0_body__b40 bo bg an ip x2 x3 = (r, w_bo, w_bg)) : RBa w_bg := by
  have q := rb_X0_body__b40 (bo := bo) (bg := bg) (an := an) (ip := ip) (x2 := x2) (x3 := x3) h
  rw [e] at q
  exact q

-- X0_own
def f_X0_own__o0 (bo : Nat → Int32) (bg : Int32) (ak : Int32) (an : Int32) (aa : Int32) (ip : Int32) (x2 : Int32) (x3 : Int32) : Int32 × (Nat → Int32) × Int32 := (if ak = 0 then (if ((f_X5_isIn (0 : Int32) (0 : Int32) (23 : Int32)) = 0) then ((0 : Int32), bo, bg) else (pr3 (f_X0_body__b10 bo bg an ip x2 (x3 + 1)) (fun r3 bo_3 bg_3 => (r3, bo_3, bg_3)))) else (if ak = 1 then (if ((f_X5_isIn (4 : Int32) (0 : Int32) (23 : Int32)) = 0) then ((0 : Int32), bo, bg) else (pr3 (f_X0_body__b10 bo bg an ip x2 (x3 + 1)) (fun r6 bo_6 bg_6 => (r6, bo_6, bg_6)))) else (if ak = 2 then (if ((f_X5_isIn (8 : Int32) (0 : Int32) (23 : Int32)) = 0) then ((0 : Int32), bo, bg) else (pr3 (f_X0_body__b30 bo bg an ip x2 (x3 + 1)) (fun r9 bo_9 bg_9 => (r9, bo_9, bg_9)))) else (if ak = 3 then (if ((f_X5_isIn (12 : Int32) (0 : Int32) (23 : Int32)) = 0) then ((0 : Int32), bo, bg) else (pr3 (f_X0_body__b51 bo bg an aa ip x2 (x3 + 1)) (fun r12 bo_12 bg_12 => (r12, bo_12, bg_12)))) else (if ak = 4 then (if ((f_X5_isIn (16 : Int32) (0 : Int32) (23 : Int32)) = 0) then ((0 : Int32), bo, bg) else (pr3 (f_X0_body__b40 bo bg an ip x2 (x3 + 1)) (fun r15 bo_15 bg_15 => (r15, bo_15, bg_15)))) else (if ((f_X5_isIn (20 : Int32) (0 : Int32) (23 : Int32)) = 0) then ((0 : Int32), bo, bg) else (pr3 (f_X0_body__b10 bo bg an ip x2 (x3 + 1)) (fun r18 bo_18 bg_18 => (r18, bo_18, bg_18)))))))))
theorem kX0_own__o0_f15 : Cond.fieldLink RX0 15 "TwoMinutes$Actor" "kind" "I" ∈ wsX0_own := by decide +kernel
theorem kX0_own__o0_f36 : Cond.fieldLink RX0 36 "TwoMinutes$Actor" "BODY_OF" "[I" ∈ wsX0_own := by decide +kernel
theorem kX0_own__o0_iRX5 : Cond.initialized yX5_isIn.cls ∈ wsX0_own := by decide +kernel
theorem kX0_own__o0_sX5_isIn : Cond.static yX5_isIn ∈ wsX0_own := by decide +kernel
theorem qd_X0_own__o0 : yX0_own.cls = RX0 ∧ yX0_own.cls ≠ "java/lang/invoke/MethodHandle" ∧ yX0_own.cls ≠ "java/lang/invoke/VarHandle" ∧ (parseMethodDescriptor yX0_own.desc).map (fun d => d.parameters.length) = some 3 := by decide +kernel
abbrev rmX0_own__o0 : Room := { frames := 3, cells := 0, slots := 0, locals := 69 }
set_option maxHeartbeats 4000000 in
set_option maxRecDepth 100000 in
theorem c_X0_own__o0 (τ : SX) (a : Nat → Nat) (bo : Nat → Int32) (bg : Int32) (ak : Int32) (an : Int32) (aa : Int32) (ip : Int32) (x2 : Int32) (x3 : Int32) (hr : RBa bg) (hk : ak = 0 ∨ ak = 1 ∨ ak = 2 ∨ ak = 3 ∨ ak = 4 ∨ ak = 5) (sz : Nat) : McI τ yX0_own wsX0_own rmX0_own__o0 .int [.ref (a 0), .int 0, .int x2, .int x3] (wA τ a bo bg ak an aa ip) (fun u : (Nat → Int32) × Int32 => (wA τ a u.1 u.2 ak an aa ip)) (f_X0_own__o0 bo bg ak an aa ip x2 x3) sz := by
  refine mc_I (cc := cX0_own) (own := RX0) [(0, .ref (a 0)), (1, .int 0), (2, .int x2), (3, .int x3)] rfl (by decide) rfl rfl (Nat.le_of_ble_eq_true rfl) (fun κ C hR => ?_)
  have hiX0 : ∀ w ∈ wsX00, w ∈ wsX0_own := fun w h => List.mem_cons_of_mem _ (List.mem_append_right _ h)
  unfold f_X0_own__o0 at hR
  rcases hk with rfl | rfl | rfl | rfl | rfl | rfl
  · rw [if_pos rfl] at hR
    refine j_aload_n C dX0_own_0 1 rfl rfl 0 rfl ?_
    refine j_get C dX0_own_1 4 rfl hiX0 0 rfl rfl 2 (by decide) rfl kX0_own__o0_f15 rfl ?_
    refine j_iconst (v := 4) C dX0_own_4 5 rfl (by decide) ?_
    refine j_imul C dX0_own_5 6 rfl ?_
    refine j_vi (v := 0) (by decide) ?_
    refine j_iload_n C dX0_own_6 7 rfl rfl 1 rfl ?_
    refine j_iadd C dX0_own_7 8 rfl ?_
    refine j_vi (v := 0) (by decide) ?_
    refine j_istore C dX0_own_8 10 rfl (by decide) [(4, .int 0), (0, .ref (a 0)), (1, .int 0), (2, .int x2), (3, .int x3)] rfl ?_
    refine j_iload C dX0_own_10 12 rfl 0 rfl ?_
    refine j_iconst (v := 0) C dX0_own_12 13 rfl (by decide) ?_
    refine j_gets C dX0_own_13 16 rfl 4 rfl rfl rfl rfl kX0_own__o0_f36 ?_
    refine j_slen (v := 24) C dX0_own_16 17 rfl 4 rfl (by decide) ?_
    refine j_iconst (v := 1) C dX0_own_17 18 rfl (by decide) ?_
    refine j_isub C dX0_own_18 19 rfl ?_
    refine j_vi (v := 23) (by decide) ?_
    refine j_csN (na := 3) C dX0_own_19 22 rfl (c_X5_isIn τ  (0 : Int32) (0 : Int32) (23 : Int32) ) rfl ggX0_own_X5_isIn rfl rfl rfl kX0_own__o0_iRX5 (host := RX5) (by decide +kernel) kX0_own__o0_sX5_isIn qd_X5_isIn rfl ⟨by decide, by decide⟩ ⟨by decide, by decide⟩ rfl (Nat.le_of_ble_eq_true rfl) (fun r1 u1 hX1 hn1 => ?_)
    obtain rfl := (Prod.mk.inj hX1).1
    refine j_if_eq C dX0_own_22 42 rfl 25 rfl (fun c2 => ?_) (fun c2 => ?_)
    · rw [if_pos c2] at hR
      refine j_iconst (v := 0) C dX0_own_42 43 rfl (by decide) ?_
      exact Rt.ret (hR) rfl dX0_own_43
    · rw [if_neg c2] at hR
      refine j_aload_n C dX0_own_25 26 rfl rfl 1 rfl ?_
      refine j_gets C dX0_own_26 29 rfl 4 rfl rfl rfl rfl kX0_own__o0_f36 ?_
      refine j_iload C dX0_own_29 31 rfl 0 rfl ?_
      refine j_sald C dX0_own_31 32 rfl 4 rfl (by unfold vp_in; decide) 0 rfl ?_
      refine j_vi (v := 10) (by decide) ?_
      refine j_iload_n C dX0_own_32 33 rfl rfl 3 rfl ?_
      refine j_iload_n C dX0_own_33 34 rfl rfl 4 rfl ?_
      refine j_iconst (v := 1) C dX0_own_34 35 rfl (by decide) ?_
      refine j_iadd C dX0_own_35 36 rfl ?_
      refine j_cv0I (na := 3) C dX0_own_36 39 rfl (c_X0_body__b10 τ a bo bg 0 an aa ip x2 (x3 + 1) (by first | assumption | exact RBa0 | (unfold vp_in; decide) | decide) (by first | assumption | exact RBa0 | (unfold vp_in; decide) | decide)) gX0_own_X0_body rfl rfl rfl qd_X0_body__b10 rfl ⟨by decide, by decide⟩ ⟨by decide, by decide⟩ rfl (Nat.le_of_ble_eq_true rfl) rfl 0 0 rfl rfl (fun r3 u3 hX3 hn3 => ?_)
      obtain ⟨bo_3, bg_3⟩ := u3
      rw [hX3] at hR; rw [pr3_mk r3 bo_3 bg_3] at hR
      have hr3 : RBa bg_3 := rc_X0_body__b10 (by first | assumption | exact RBa0) hX3
      refine j_goto C dX0_own_39 43 rfl ?_
      exact Rt.ret (hR) rfl dX0_own_43
  · rw [if_neg (by decide), if_pos rfl] at hR
    refine j_aload_n C dX0_own_0 1 rfl rfl 0 rfl ?_
    refine j_get C dX0_own_1 4 rfl hiX0 0 rfl rfl 2 (by decide) rfl kX0_own__o0_f15 rfl ?_
    refine j_iconst (v := 4) C dX0_own_4 5 rfl (by decide) ?_
    refine j_imul C dX0_own_5 6 rfl ?_
    refine j_vi (v := 4) (by decide) ?_
    refine j_iload_n C dX0_own_6 7 rfl rfl 1 rfl ?_
    refine j_iadd C dX0_own_7 8 rfl ?_
    refine j_vi (v := 4) (by decide) ?_
    refine j_istore C dX0_own_8 10 rfl (by decide) [(4, .int 4), (0, .ref (a 0)), (1, .int 0), (2, .int x2), (3, .int x3)] rfl ?_
    refine j_iload C dX0_own_10 12 rfl 0 rfl ?_
    refine j_iconst (v := 0) C dX0_own_12 13 rfl (by decide) ?_
    refine j_gets C dX0_own_13 16 rfl 4 rfl rfl rfl rfl kX0_own__o0_f36 ?_
    refine j_slen (v := 24) C dX0_own_16 17 rfl 4 rfl (by decide) ?_
    refine j_iconst (v := 1) C dX0_own_17 18 rfl (by decide) ?_
    refine j_isub C dX0_own_18 19 rfl ?_
    refine j_vi (v := 23) (by decide) ?_
    refine j_csN (na := 3) C dX0_own_19 22 rfl (c_X5_isIn τ  (4 : Int32) (0 : Int32) (23 : Int32) ) rfl ggX0_own_X5_isIn rfl rfl rfl kX0_own__o0_iRX5 (host := RX5) (by decide +kernel) kX0_own__o0_sX5_isIn qd_X5_isIn rfl ⟨by decide, by decide⟩ ⟨by decide, by decide⟩ rfl (Nat.le_of_ble_eq_true rfl) (fun r4 u4 hX4 hn4 => ?_)
    obtain rfl := (Prod.mk.inj hX4).1
    refine j_if_eq C dX0_own_22 42 rfl 25 rfl (fun c5 => ?_) (fun c5 => ?_)
    · rw [if_pos c5] at hR
      refine j_iconst (v := 0) C dX0_own_42 43 rfl (by decide) ?_
      exact Rt.ret (hR) rfl dX0_own_43
    · rw [if_neg c5] at hR
      refine j_aload_n C dX0_own_25 26 rfl rfl 1 rfl ?_
      refine j_gets C dX0_own_26 29 rfl 4 rfl rfl rfl rfl kX0_own__o0_f36 ?_
      refine j_iload C dX0_own_29 31 rfl 0 rfl ?_
      refine j_sald C dX0_own_31 32 rfl 4 rfl (by unfold vp_in; decide) 4 rfl ?_
      refine j_vi (v := 10) (by decide) ?_
      refine j_iload_n C dX0_own_32 33 rfl rfl 3 rfl ?_
      refine j_iload_n C dX0_own_33 34 rfl rfl 4 rfl ?_
      refine j_iconst (v := 1) C dX0_own_34 35 rfl (by decide) ?_
      refine j_iadd C dX0_own_35 36 rfl ?_
      refine j_cv0I (na := 3) C dX0_own_36 39 rfl (c_X0_body__b10 τ a bo bg 1 an aa ip x2 (x3 + 1) (by first | assumption | exact RBa0 | (unfold vp_in; decide) | decide) (by first | assumption | exact RBa0 | (unfold vp_in; decide) | decide)) gX0_own_X0_body rfl rfl rfl qd_X0_body__b10 rfl ⟨by decide, by decide⟩ ⟨by decide, by decide⟩ rfl (Nat.le_of_ble_eq_true rfl) rfl 0 0 rfl rfl (fun r6 u6 hX6 hn6 => ?_)
      obtain ⟨bo_6, bg_6⟩ := u6
      rw [hX6] at hR; rw [pr3_mk r6 bo_6 bg_6] at hR
      have hr6 : RBa bg_6 := rc_X0_body__b10 (by first | assumption | exact RBa0) hX6
      refine j_goto C dX0_own_39 43 rfl ?_
      exact Rt.ret (hR) rfl dX0_own_43
  · rw [if_neg (by decide), if_neg (by decide), if_pos rfl] at hR
    refine j_aload_n C dX0_own_0 1 rfl rfl 0 rfl ?_
    refine j_get C dX0_own_1 4 rfl hiX0 0 rfl rfl 2 (by decide) rfl kX0_own__o0_f15 rfl ?_
    refine j_iconst (v := 4) C dX0_own_4 5 rfl (by decide) ?_
    refine j_imul C dX0_own_5 6 rfl ?_
    refine j_vi (v := 8) (by decide) ?_
    refine j_iload_n C dX0_own_6 7 rfl rfl 1 rfl ?_
    refine j_iadd C dX0_own_7 8 rfl ?_
    refine j_vi (v := 8) (by decide) ?_
    refine j_istore C dX0_own_8 10 rfl (by decide) [(4, .int 8), (0, .ref (a 0)), (1, .int 0), (2, .int x2), (3, .int x3)] rfl ?_
    refine j_iload C dX0_own_10 12 rfl 0 rfl ?_
    refine j_iconst (v := 0) C dX0_own_12 13 rfl (by decide) ?_
    refine j_gets C dX0_own_13 16 rfl 4 rfl rfl rfl rfl kX0_own__o0_f36 ?_
    refine j_slen (v := 24) C dX0_own_16 17 rfl 4 rfl (by decide) ?_
    refine j_iconst (v := 1) C dX0_own_17 18 rfl (by decide) ?_
    refine j_isub C dX0_own_18 19 rfl ?_
    refine j_vi (v := 23) (by decide) ?_
    refine j_csN (na := 3) C dX0_own_19 22 rfl (c_X5_isIn τ  (8 : Int32) (0 : Int32) (23 : Int32) ) rfl ggX0_own_X5_isIn rfl rfl rfl kX0_own__o0_iRX5 (host := RX5) (by decide +kernel) kX0_own__o0_sX5_isIn qd_X5_isIn rfl ⟨by decide, by decide⟩ ⟨by decide, by decide⟩ rfl (Nat.le_of_ble_eq_true rfl) (fun r7 u7 hX7 hn7 => ?_)
    obtain rfl := (Prod.mk.inj hX7).1
    refine j_if_eq C dX0_own_22 42 rfl 25 rfl (fun c8 => ?_) (fun c8 => ?_)
    · rw [if_pos c8] at hR
      refine j_iconst (v := 0) C dX0_own_42 43 rfl (by decide) ?_
      exact Rt.ret (hR) rfl dX0_own_43
    · rw [if_neg c8] at hR
      refine j_aload_n C dX0_own_25 26 rfl rfl 1 rfl ?_
      refine j_gets C dX0_own_26 29 rfl 4 rfl rfl rfl rfl kX0_own__o0_f36 ?_
      refine j_iload C dX0_own_29 31 rfl 0 rfl ?_
      refine j_sald C dX0_own_31 32 rfl 4 rfl (by unfold vp_in; decide) 8 rfl ?_
      refine j_vi (v := 30) (by decide) ?_
      refine j_iload_n C dX0_own_32 33 rfl rfl 3 rfl ?_
      refine j_iload_n C dX0_own_33 34 rfl rfl 4 rfl ?_
      refine j_iconst (v := 1) C dX0_own_34 35 rfl (by decide) ?_
      refine j_iadd C dX0_own_35 36 rfl ?_
      refine j_cv0I (na := 3) C dX0_own_36 39 rfl (c_X0_body__b30 τ a bo bg 2 an aa ip x2 (x3 + 1) (by first | assumption | exact RBa0 | (unfold vp_in; decide) | decide) (by first | assumption | exact RBa0 | (unfold vp_in; decide) | decide)) gX0_own_X0_body rfl rfl rfl qd_X0_body__b30 rfl ⟨by decide, by decide⟩ ⟨by decide, by decide⟩ rfl (Nat.le_of_ble_eq_true rfl) rfl 0 0 rfl rfl (fun r9 u9 hX9 hn9 => ?_)
      obtain ⟨bo_9, bg_9⟩ := u9
      rw [hX9] at hR; rw [pr3_mk r9 bo_9 bg_9] at hR
      have hr9 : RBa bg_9 := rc_X0_body__b30 (by first | assumption | exact RBa0) hX9
      refine j_goto C dX0_own_39 43 rfl ?_
      exact Rt.ret (hR) rfl dX0_own_43
  · rw [if_neg (by decide), if_neg (by decide), if_neg (by decide), if_pos rfl] at hR
    refine j_aload_n C dX0_own_0 1 rfl rfl 0 rfl ?_
    refine j_get C dX0_own_1 4 rfl hiX0 0 rfl rfl 2 (by decide) rfl kX0_own__o0_f15 rfl ?_
    refine j_iconst (v := 4) C dX0_own_4 5 rfl (by decide) ?_
    refine j_imul C dX0_own_5 6 rfl ?_
    refine j_vi (v := 12) (by decide) ?_
    refine j_iload_n C dX0_own_6 7 rfl rfl 1 rfl ?_
    refine j_iadd C dX0_own_7 8 rfl ?_
    refine j_vi (v := 12) (by decide) ?_
    refine j_istore C dX0_own_8 10 rfl (by decide) [(4, .int 12), (0, .ref (a 0)), (1, .int 0), (2, .int x2), (3, .int x3)] rfl ?_
    refine j_iload C dX0_own_10 12 rfl 0 rfl ?_
    refine j_iconst (v := 0) C dX0_own_12 13 rfl (by decide) ?_
    refine j_gets C dX0_own_13 16 rfl 4 rfl rfl rfl rfl kX0_own__o0_f36 ?_
    refine j_slen (v := 24) C dX0_own_16 17 rfl 4 rfl (by decide) ?_
    refine j_iconst (v := 1) C dX0_own_17 18 rfl (by decide) ?_
    refine j_isub C dX0_own_18 19 rfl ?_
    refine j_vi (v := 23) (by decide) ?_
    refine j_csN (na := 3) C dX0_own_19 22 rfl (c_X5_isIn τ  (12 : Int32) (0 : Int32) (23 : Int32) ) rfl ggX0_own_X5_isIn rfl rfl rfl kX0_own__o0_iRX5 (host := RX5) (by decide +kernel) kX0_own__o0_sX5_isIn qd_X5_isIn rfl ⟨by decide, by decide⟩ ⟨by decide, by decide⟩ rfl (Nat.le_of_ble_eq_true rfl) (fun r10 u10 hX10 hn10 => ?_)
    obtain rfl := (Prod.mk.inj hX10).1
    refine j_if_eq C dX0_own_22 42 rfl 25 rfl (fun c11 => ?_) (fun c11 => ?_)
    · rw [if_pos c11] at hR
      refine j_iconst (v := 0) C dX0_own_42 43 rfl (by decide) ?_
      exact Rt.ret (hR) rfl dX0_own_43
    · rw [if_neg c11] at hR
      refine j_aload_n C dX0_own_25 26 rfl rfl 1 rfl ?_
      refine j_gets C dX0_own_26 29 rfl 4 rfl rfl rfl rfl kX0_own__o0_f36 ?_
      refine j_iload C dX0_own_29 31 rfl 0 rfl ?_
      refine j_sald C dX0_own_31 32 rfl 4 rfl (by unfold vp_in; decide) 12 rfl ?_
      refine j_vi (v := 51) (by decide) ?_
      refine j_iload_n C dX0_own_32 33 rfl rfl 3 rfl ?_
      refine j_iload_n C dX0_own_33 34 rfl rfl 4 rfl ?_
      refine j_iconst (v := 1) C dX0_own_34 35 rfl (by decide) ?_
      refine j_iadd C dX0_own_35 36 rfl ?_
      refine j_cv0I (na := 3) C dX0_own_36 39 rfl (c_X0_body__b51 τ a bo bg 3 an aa ip x2 (x3 + 1) (by first | assumption | exact RBa0 | (unfold vp_in; decide) | decide) (by first | assumption | exact RBa0 | (unfold vp_in; decide) | decide)) gX0_own_X0_body rfl rfl rfl qd_X0_body__b51 rfl ⟨by decide, by decide⟩ ⟨by decide, by decide⟩ rfl (Nat.le_of_ble_eq_true rfl) rfl 0 0 rfl rfl (fun r12 u12 hX12 hn12 => ?_)
      obtain ⟨bo_12, bg_12⟩ := u12
      rw [hX12] at hR; rw [pr3_mk r12 bo_12 bg_12] at hR
      have hr12 : RBa bg_12 := rc_X0_body__b51 (by first | assumption | exact RBa0) hX12
      refine j_goto C dX0_own_39 43 rfl ?_
      exact Rt.ret (hR) rfl dX0_own_43
  · rw [if_neg (by decide), if_neg (by decide), if_neg (by decide), if_neg (by decide), if_pos rfl] at hR
    refine j_aload_n C dX0_own_0 1 rfl rfl 0 rfl ?_
    refine j_get C dX0_own_1 4 rfl hiX0 0 rfl rfl 2 (by decide) rfl kX0_own__o0_f15 rfl ?_
    refine j_iconst (v := 4) C dX0_own_4 5 rfl (by decide) ?_
    refine j_imul C dX0_own_5 6 rfl ?_
    refine j_vi (v := 16) (by decide) ?_
    refine j_iload_n C dX0_own_6 7 rfl rfl 1 rfl ?_
    refine j_iadd C dX0_own_7 8 rfl ?_
    refine j_vi (v := 16) (by decide) ?_
    refine j_istore C dX0_own_8 10 rfl (by decide) [(4, .int 16), (0, .ref (a 0)), (1, .int 0), (2, .int x2), (3, .int x3)] rfl ?_
    refine j_iload C dX0_own_10 12 rfl 0 rfl ?_
    refine j_iconst (v := 0) C dX0_own_12 13 rfl (by decide) ?_
    refine j_gets C dX0_own_13 16 rfl 4 rfl rfl rfl rfl kX0_own__o0_f36 ?_
    refine j_slen (v := 24) C dX0_own_16 17 rfl 4 rfl (by decide) ?_
    refine j_iconst (v := 1) C dX0_own_17 18 rfl (by decide) ?_
    refine j_isub C dX0_own_18 19 rfl ?_
    refine j_vi (v := 23) (by decide) ?_
    refine j_csN (na := 3) C dX0_own_19 22 rfl (c_X5_isIn τ  (16 : Int32) (0 : Int32) (23 : Int32) ) rfl ggX0_own_X5_isIn rfl rfl rfl kX0_own__o0_iRX5 (host := RX5) (by decide +kernel) kX0_own__o0_sX5_isIn qd_X5_isIn rfl ⟨by decide, by decide⟩ ⟨by decide, by decide⟩ rfl (Nat.le_of_ble_eq_true rfl) (fun r13 u13 hX13 hn13 => ?_)
    obtain rfl := (Prod.mk.inj hX13).1
    refine j_if_eq C dX0_own_22 42 rfl 25 rfl (fun c14 => ?_) (fun c14 => ?_)
    · rw [if_pos c14] at hR
      refine j_iconst (v := 0) C dX0_own_42 43 rfl (by decide) ?_
      exact Rt.ret (hR) rfl dX0_own_43
    · rw [if_neg c14] at hR
      refine j_aload_n C dX0_own_25 26 rfl rfl 1 rfl ?_
      refine j_gets C dX0_own_26 29 rfl 4 rfl rfl rfl rfl kX0_own__o0_f36 ?_
      refine j_iload C dX0_own_29 31 rfl 0 rfl ?_
      refine j_sald C dX0_own_31 32 rfl 4 rfl (by unfold vp_in; decide) 16 rfl ?_
      refine j_vi (v := 40) (by decide) ?_
      refine j_iload_n C dX0_own_32 33 rfl rfl 3 rfl ?_
      refine j_iload_n C dX0_own_33 34 rfl rfl 4 rfl ?_
      refine j_iconst (v := 1) C dX0_own_34 35 rfl (by decide) ?_
      refine j_iadd C dX0_own_35 36 rfl ?_
      refine j_cv0I (na := 3) C dX0_own_36 39 rfl (c_X0_body__b40 τ a bo bg 4 an aa ip x2 (x3 + 1) (by first | assumption | exact RBa0 | (unfold vp_in; decide) | decide) (by first | assumption | exact RBa0 | (unfold vp_in; decide) | decide)) gX0_own_X0_body rfl rfl rfl qd_X0_body__b40 rfl ⟨by decide, by decide⟩ ⟨by decide, by decide⟩ rfl (Nat.le_of_ble_eq_true rfl) rfl 0 0 rfl rfl (fun r15 u15 hX15 hn15 => ?_)
      obtain ⟨bo_15, bg_15⟩ := u15
      rw [hX15] at hR; rw [pr3_mk r15 bo_15 bg_15] at hR
      have hr15 : RBa bg_15 := rc_X0_body__b40 (by first | assumption | exact RBa0) hX15
      refine j_goto C dX0_own_39 43 rfl ?_
      exact Rt.ret (hR) rfl dX0_own_43
  · rw [if_neg (by decide), if_neg (by decide), if_neg (by decide), if_neg (by decide), if_neg (by decide)] at hR
    refine j_aload_n C dX0_own_0 1 rfl rfl 0 rfl ?_
    refine j_get C dX0_own_1 4 rfl hiX0 0 rfl rfl 2 (by decide) rfl kX0_own__o0_f15 rfl ?_
    refine j_iconst (v := 4) C dX0_own_4 5 rfl (by decide) ?_
    refine j_imul C dX0_own_5 6 rfl ?_
    refine j_vi (v := 20) (by decide) ?_
    refine j_iload_n C dX0_own_6 7 rfl rfl 1 rfl ?_
    refine j_iadd C dX0_own_7 8 rfl ?_
    refine j_vi (v := 20) (by decide) ?_
    refine j_istore C dX0_own_8 10 rfl (by decide) [(4, .int 20), (0, .ref (a 0)), (1, .int 0), (2, .int x2), (3, .int x3)] rfl ?_
    refine j_iload C dX0_own_10 12 rfl 0 rfl ?_
    refine j_iconst (v := 0) C dX0_own_12 13 rfl (by decide) ?_
    refine j_gets C dX0_own_13 16 rfl 4 rfl rfl rfl rfl kX0_own__o0_f36 ?_
    refine j_slen (v := 24) C dX0_own_16 17 rfl 4 rfl (by decide) ?_
    refine j_iconst (v := 1) C dX0_own_17 18 rfl (by decide) ?_
    refine j_isub C dX0_own_18 19 rfl ?_
    refine j_vi (v := 23) (by decide) ?_
    refine j_csN (na := 3) C dX0_own_19 22 rfl (c_X5_isIn τ  (20 : Int32) (0 : Int32) (23 : Int32) ) rfl ggX0_own_X5_isIn rfl rfl rfl kX0_own__o0_iRX5 (host := RX5) (by decide +kernel) kX0_own__o0_sX5_isIn qd_X5_isIn rfl ⟨by decide, by decide⟩ ⟨by decide, by decide⟩ rfl (Nat.le_of_ble_eq_true rfl) (fun r16 u16 hX16 hn16 => ?_)
    obtain rfl := (Prod.mk.inj hX16).1
    refine j_if_eq C dX0_own_22 42 rfl 25 rfl (fun c17 => ?_) (fun c17 => ?_)
    · rw [if_pos c17] at hR
      refine j_iconst (v := 0) C dX0_own_42 43 rfl (by decide) ?_
      exact Rt.ret (hR) rfl dX0_own_43
    · rw [if_neg c17] at hR
      refine j_aload_n C dX0_own_25 26 rfl rfl 1 rfl ?_
      refine j_gets C dX0_own_26 29 rfl 4 rfl rfl rfl rfl kX0_own__o0_f36 ?_
      refine j_iload C dX0_own_29 31 rfl 0 rfl ?_
      refine j_sald C dX0_own_31 32 rfl 4 rfl (by unfold vp_in; decide) 20 rfl ?_
      refine j_vi (v := 10) (by decide) ?_
      refine j_iload_n C dX0_own_32 33 rfl rfl 3 rfl ?_
      refine j_iload_n C dX0_own_33 34 rfl rfl 4 rfl ?_
      refine j_iconst (v := 1) C dX0_own_34 35 rfl (by decide) ?_
      refine j_iadd C dX0_own_35 36 rfl ?_
      refine j_cv0I (na := 3) C dX0_own_36 39 rfl (c_X0_body__b10 τ a bo bg 5 an aa ip x2 (x3 + 1) (by first | assumption | exact RBa0 | (unfold vp_in; decide) | decide) (by first | assumption | exact RBa0 | (unfold vp_in; decide) | decide)) gX0_own_X0_body rfl rfl rfl qd_X0_body__b10 rfl ⟨by decide, by decide⟩ ⟨by decide, by decide⟩ rfl (Nat.le_of_ble_eq_true rfl) rfl 0 0 rfl rfl (fun r18 u18 hX18 hn18 => ?_)
      obtain ⟨bo_18, bg_18⟩ := u18
      rw [hX18] at hR; rw [pr3_mk r18 bo_18 bg_18] at hR
      have hr18 : RBa bg_18 := rc_X0_body__b10 (by first | assumption | exact RBa0) hX18
      refine j_goto C dX0_own_39 43 rfl ?_
      exact Rt.ret (hR) rfl dX0_own_43

theorem rb_X0_own__o0 {bo : Nat → Int32} {bg : Int32} {ak : Int32} {an : Int32} {aa : Int32} {ip : Int32} {x2 : Int32} {x3 : Int32} (h : RBa bg) : RBa (f_X0_own__o0 bo bg ak an aa ip x2 x3).2.2 := by
  unfold f_X0_own__o0
  simp only [pr1, pr2, pr3, pr4]
  repeat' split
  all_goals with_reducible first | exact h | exact rb_X0_body__b10 h | exact rb_X0_body__b10 (RBa_s h (by assumption)) | exact rb_X0_body__b30 h | exact rb_X0_body__b30 (RBa_s h (by assumption)) | exact rb_X0_body__b40 h | exact rb_X0_body__b40 (RBa_s h (by assumption)) | exact rb_X0_body__b51 h | exact rb_X0_body__b51 (RBa_s h (by assumption)) | exact RBa_s h (by assumption)
theorem rc_X0_own__o0 {bo : Nat → Int32} {bg : Int32} {ak : Int32} {an : Int32} {aa : Int32} {ip : Int32} {x2 : Int32} {x3 : Int32} {r : Int32} {w_bo : Nat → Int32} {w_bg : Int32} (h : RBa bg) (e : f_X0_own__o0 bo bg ak an aa ip x2 x3 = (r, w_bo, w_bg)) : RBa w_bg := by
  have q := rb_X0_own__o0 (bo := bo) (bg := bg) (ak := ak) (an := an) (aa := aa) (ip := ip) (x2 := x2) (x3 := x3) h
  rw [e] at q
  exact q

-- X0_body
def f_X0_body__b11 (bo : Nat → Int32) (bg : Int32) (ak : Int32) (an : Int32) (aa : Int32) (ip : Int32) (x2 : Int32) (x3 : Int32) : Int32 × (Nat → Int32) × Int32 := if (ip = 0) then (if (x3 ≤ 40) then (pr2 (if (30 ≤ bg) then (bo, bg) else ((upd bo (bg).toNatClampNeg 11), (bg + 1))) (fun j21_0 j21_1 => pr3 (f_X0_own__o0 j21_0 j21_1 ak an aa ip x2 x3) (fun r4 bo_4 bg_4 => ((r4 - aa), bo_4, bg_4)))) else ((0 : Int32), bo, bg)) else ((0 : Int32), bo, bg)
theorem kX0_body__b11_f28 : Cond.fieldLink RX0 28 "TwoMinutes$Actor" "isParted" "Z" ∈ wsX0_body := by decide +kernel
theorem kX0_body__b11_f25 : Cond.fieldLink RX0 25 "TwoMinutes$Actor" "begun" "I" ∈ wsX0_body := by decide +kernel
theorem kX0_body__b11_f11 : Cond.fieldLink RX0 11 "TwoMinutes$Actor" "bodies" "[I" ∈ wsX0_body := by decide +kernel
theorem kX0_body__b11_f22 : Cond.fieldLink RX0 22 "TwoMinutes$Actor" "a" "I" ∈ wsX0_body := by decide +kernel
theorem qd_X0_body__b11 : yX0_body.cls = RX0 ∧ yX0_body.cls ≠ "java/lang/invoke/MethodHandle" ∧ yX0_body.cls ≠ "java/lang/invoke/VarHandle" ∧ (parseMethodDescriptor yX0_body.desc).map (fun d => d.parameters.length) = some 3 := by decide +kernel
abbrev rmX0_body__b11 : Room := { frames := 4, cells := 0, slots := 0, locals := 93 }
set_option maxHeartbeats 4000000 in
set_option maxRecDepth 100000 in
theorem c_X0_body__b11 (τ : SX) (a : Nat → Nat) (bo : Nat → Int32) (bg : Int32) (ak : Int32) (an : Int32) (aa : Int32) (ip : Int32) (x2 : Int32) (x3 : Int32) (hr : RBa bg) (hk : ak = 0 ∨ ak = 1 ∨ ak = 2 ∨ ak = 3 ∨ ak = 4 ∨ ak = 5) (sz : Nat) : McI τ yX0_body wsX0_body rmX0_body__b11 .int [.ref (a 0), .int 11, .int x2, .int x3] (wA τ a bo bg ak an aa ip) (fun u : (Nat → Int32) × Int32 => (wA τ a u.1 u.2 ak an aa ip)) (f_X0_body__b11 bo bg ak an aa ip x2 x3) sz := by
  refine mc_I (cc := cX0_body) (own := RX0) [(0, .ref (a 0)), (1, .int 11), (2, .int x2), (3, .int x3)] rfl (by decide) rfl rfl (Nat.le_of_ble_eq_true rfl) (fun κ C hR => ?_)
  have hiX0 : ∀ w ∈ wsX00, w ∈ wsX0_body := fun w h => List.mem_cons_of_mem _ (List.mem_append_right _ h)
  unfold f_X0_body__b11 at hR
  refine j_aload_n C dX0_body_0 1 rfl rfl 0 rfl ?_
  refine j_get C dX0_body_1 4 rfl hiX0 0 rfl rfl 5 (by decide) rfl kX0_body__b11_f28 rfl ?_
  refine j_if_ne C dX0_body_4 13 rfl 7 rfl (fun c1 => ?_) (fun c1 => ?_)
  · rw [if_neg c1] at hR
    refine j_iconst (v := 0) C dX0_body_13 14 rfl (by decide) ?_
    exact Rt.ret (hR) rfl dX0_body_14
  · rw [if_pos c1] at hR
    refine j_iload_n C dX0_body_7 8 rfl rfl 3 rfl ?_
    refine j_bipush (v := 40) C dX0_body_8 10 rfl (by decide) ?_
    refine j_icmp_le C dX0_body_10 15 rfl 13 rfl (fun c2 => ?_) (fun c2 => ?_)
    · rw [if_pos c2] at hR
      refine j_aload_n C dX0_body_15 16 rfl rfl 0 rfl ?_
      refine j_get C dX0_body_16 19 rfl hiX0 0 rfl rfl 1 (by decide) rfl kX0_body__b11_f25 rfl ?_
      refine j_bipush (v := 30) C dX0_body_19 21 rfl (by decide) ?_
      have J21 : ∀ (j21_0 : Nat → Int32) (j21_1 : Int32), (RBa j21_1) → Rt τ κ cX0_body .int (fun u : (Nat → Int32) × Int32 => (wA τ a u.1 u.2 ak an aa ip)) (pr3 (f_X0_own__o0 j21_0 j21_1 ak an aa ip x2 x3) (fun r4 bo_4 bg_4 => ((r4 - aa), bo_4, bg_4))) → J τ κ 0 0 (wA τ a j21_0 j21_1 ak an aa ip) [(0, .ref (a 0)), (1, .int 11), (2, .int x2), (3, .int x3)] 44 [] := by
        intro j21_0 j21_1 hj hR
        refine j_iload_n C dX0_body_44 45 rfl rfl 1 rfl ?_
        refine j_tabIn C dX0_body_45 (by decide) (by decide) (by rfl) 278 rfl ?_
        refine j_aload_n C dX0_body_278 279 rfl rfl 0 rfl ?_
        refine j_iconst (v := 0) C dX0_body_279 280 rfl (by decide) ?_
        refine j_iload_n C dX0_body_280 281 rfl rfl 2 rfl ?_
        refine j_iload_n C dX0_body_281 282 rfl rfl 3 rfl ?_
        refine j_cv0I (na := 3) C dX0_body_282 285 rfl (c_X0_own__o0 τ a j21_0 j21_1 ak an aa ip x2 x3 (by first | assumption | exact RBa0 | (unfold vp_in; decide) | decide) (by first | assumption | exact RBa0 | (unfold vp_in; decide) | decide)) gX0_body_X0_own rfl rfl rfl qd_X0_own__o0 rfl ⟨by decide, by decide⟩ ⟨by decide, by decide⟩ rfl (Nat.le_of_ble_eq_true rfl) rfl 0 0 rfl rfl (fun r4 u4 hX4 hn4 => ?_)
        obtain ⟨bo_4, bg_4⟩ := u4
        rw [hX4] at hR; rw [pr3_mk r4 bo_4 bg_4] at hR
        have hr4 : RBa bg_4 := rc_X0_own__o0 (by first | assumption | exact RBa0) hX4
        refine j_aload_n C dX0_body_285 286 rfl rfl 0 rfl ?_
        refine j_get C dX0_body_286 289 rfl hiX0 0 rfl rfl 4 (by decide) rfl kX0_body__b11_f22 rfl ?_
        refine j_isub C dX0_body_289 290 rfl ?_
        exact Rt.ret (hR) rfl dX0_body_290
      refine j_icmp_ge C dX0_body_21 44 rfl 24 rfl (fun c3 => ?_) (fun c3 => ?_)
      · rw [if_pos c3] at hR
        rw [pr2_mk bo bg] at hR
        exact j_lv [0, 1, 2, 3] [(0, .ref (a 0)), (1, .int 11), (2, .int x2), (3, .int x3)] rfl (J21 _ _ (by first | exact hr | exact RBa_s hr (by assumption)) hR)
      · rw [if_neg c3] at hR
        refine j_aload_n C dX0_body_24 25 rfl rfl 0 rfl ?_
        refine j_get C dX0_body_25 28 rfl hiX0 0 rfl rfl 0 (by decide) rfl kX0_body__b11_f11 rfl ?_
        refine j_aload_n C dX0_body_28 29 rfl rfl 0 rfl ?_
        refine j_get C dX0_body_29 32 rfl hiX0 0 rfl rfl 1 (by decide) rfl kX0_body__b11_f25 rfl ?_
        refine j_iload_n C dX0_body_32 33 rfl rfl 1 rfl ?_
        refine j_iast C dX0_body_33 34 rfl 1 rfl (RBa_in hr (by assumption)) (bg).toNatClampNeg rfl (wA τ a (upd bo (bg).toNatClampNeg 11) bg ak an aa ip) rfl ?_
        refine j_aload_n C dX0_body_34 35 rfl rfl 0 rfl ?_
        refine j_dup C dX0_body_35 36 rfl rfl ?_
        refine j_get C dX0_body_36 39 rfl hiX0 0 rfl rfl 1 (by decide) rfl kX0_body__b11_f25 rfl ?_
        refine j_iconst (v := 1) C dX0_body_39 40 rfl (by decide) ?_
        refine j_iadd C dX0_body_40 41 rfl ?_
        refine j_put C dX0_body_41 44 rfl hiX0 tyX0_ok nmX0 0 rfl rfl 1 (by decide) rfl kX0_body__b11_f25 rfl rfl rfl (Nat.le_of_ble_eq_true rfl) (wA τ a (upd bo (bg).toNatClampNeg 11) (bg + 1) ak an aa ip) rfl ?_
        rw [pr2_mk (upd bo (bg).toNatClampNeg 11) (bg + 1)] at hR
        exact j_lv [0, 1, 2, 3] [(0, .ref (a 0)), (1, .int 11), (2, .int x2), (3, .int x3)] rfl (J21 _ _ (by first | exact hr | exact RBa_s hr (by assumption)) hR)
    · rw [if_neg c2] at hR
      refine j_iconst (v := 0) C dX0_body_13 14 rfl (by decide) ?_
      exact Rt.ret (hR) rfl dX0_body_14

theorem rb_X0_body__b11 {bo : Nat → Int32} {bg : Int32} {ak : Int32} {an : Int32} {aa : Int32} {ip : Int32} {x2 : Int32} {x3 : Int32} (h : RBa bg) : RBa (f_X0_body__b11 bo bg ak an aa ip x2 x3).2.2 := by
  unfold f_X0_body__b11
  simp only [pr1, pr2, pr3, pr4]
  repeat' split
  all_goals with_reducible first | exact h | exact rb_X0_own__o0 h | exact rb_X0_own__o0 (RBa_s h (by assumption)) | exact RBa_s h (by assumption)
theorem rc_X0_body__b11 {bo : Nat → Int32} {bg : Int32} {ak : Int32} {an : Int32} {aa : Int32} {ip : Int32} {x2 : Int32} {x3 : Int32} {r : Int32} {w_bo : Nat → Int32} {w_bg : Int32} (h : RBa bg) (e : f_X0_body__b11 bo bg ak an aa ip x2 x3 = (r, w_bo, w_bg)) : RBa w_bg := by
  have q := rb_X0_body__b11 (bo := bo) (bg := bg) (ak := ak) (an := an) (aa := aa) (ip := ip) (x2 := x2) (x3 := x3) h
  rw [e] at q
  exact q

-- X0_body
def f_X0_body__b20 (bo : Nat → Int32) (bg : Int32) (ak : Int32) (an : Int32) (aa : Int32) (ip : Int32) (x2 : Int32) (x3 : Int32) : Int32 × (Nat → Int32) × Int32 := if (ip = 0) then (if (x3 ≤ 40) then (pr2 (if (30 ≤ bg) then (bo, bg) else ((upd bo (bg).toNatClampNeg 20), (bg + 1))) (fun j21_0 j21_1 => pr3 (f_X0_body__b11 j21_0 j21_1 ak an aa ip x2 (x3 + 1)) (fun r4 bo_4 bg_4 => ((r4 * 2), bo_4, bg_4)))) else ((0 : Int32), bo, bg)) else ((0 : Int32), bo, bg)
theorem kX0_body__b20_f28 : Cond.fieldLink RX0 28 "TwoMinutes$Actor" "isParted" "Z" ∈ wsX0_body := by decide +kernel
theorem kX0_body__b20_f25 : Cond.fieldLink RX0 25 "TwoMinutes$Actor" "begun" "I" ∈ wsX0_body := by decide +kernel
theorem kX0_body__b20_f11 : Cond.fieldLink RX0 11 "TwoMinutes$Actor" "bodies" "[I" ∈ wsX0_body := by decide +kernel
theorem qd_X0_body__b20 : yX0_body.cls = RX0 ∧ yX0_body.cls ≠ "java/lang/invoke/MethodHandle" ∧ yX0_body.cls ≠ "java/lang/invoke/VarHandle" ∧ (parseMethodDescriptor yX0_body.desc).map (fun d => d.parameters.length) = some 3 := by decide +kernel
abbrev rmX0_body__b20 : Room := { frames := 5, cells := 0, slots := 0, locals := 116 }
set_option maxHeartbeats 4000000 in
set_option maxRecDepth 100000 in
theorem c_X0_body__b20 (τ : SX) (a : Nat → Nat) (bo : Nat → Int32) (bg : Int32) (ak : Int32) (an : Int32) (aa : Int32) (ip : Int32) (x2 : Int32) (x3 : Int32) (hr : RBa bg) (hk : ak = 0 ∨ ak = 1 ∨ ak = 2 ∨ ak = 3 ∨ ak = 4 ∨ ak = 5) (sz : Nat) : McI τ yX0_body wsX0_body rmX0_body__b20 .int [.ref (a 0), .int 20, .int x2, .int x3] (wA τ a bo bg ak an aa ip) (fun u : (Nat → Int32) × Int32 => (wA τ a u.1 u.2 ak an aa ip)) (f_X0_body__b20 bo bg ak an aa ip x2 x3) sz := by
  refine mc_I (cc := cX0_body) (own := RX0) [(0, .ref (a 0)), (1, .int 20), (2, .int x2), (3, .int x3)] rfl (by decide) rfl rfl (Nat.le_of_ble_eq_true rfl) (fun κ C hR => ?_)
  have hiX0 : ∀ w ∈ wsX00, w ∈ wsX0_body := fun w h => List.mem_cons_of_mem _ (List.mem_append_right _ h)
  unfold f_X0_body__b20 at hR
  refine j_aload_n C dX0_body_0 1 rfl rfl 0 rfl ?_
  refine j_get C dX0_body_1 4 rfl hiX0 0 rfl rfl 5 (by decide) rfl kX0_body__b20_f28 rfl ?_
  refine j_if_ne C dX0_body_4 13 rfl 7 rfl (fun c1 => ?_) (fun c1 => ?_)
  · rw [if_neg c1] at hR
    refine j_iconst (v := 0) C dX0_body_13 14 rfl (by decide) ?_
    exact Rt.ret (hR) rfl dX0_body_14
  · rw [if_pos c1] at hR
    refine j_iload_n C dX0_body_7 8 rfl rfl 3 rfl ?_
    refine j_bipush (v := 40) C dX0_body_8 10 rfl (by decide) ?_
    refine j_icmp_le C dX0_body_10 15 rfl 13 rfl (fun c2 => ?_) (fun c2 => ?_)
    · rw [if_pos c2] at hR
      refine j_aload_n C dX0_body_15 16 rfl rfl 0 rfl ?_
      refine j_get C dX0_body_16 19 rfl hiX0 0 rfl rfl 1 (by decide) rfl kX0_body__b20_f25 rfl ?_
      refine j_bipush (v := 30) C dX0_body_19 21 rfl (by decide) ?_
      have J21 : ∀ (j21_0 : Nat → Int32) (j21_1 : Int32), (RBa j21_1) → Rt τ κ cX0_body .int (fun u : (Nat → Int32) × Int32 => (wA τ a u.1 u.2 ak an aa ip)) (pr3 (f_X0_body__b11 j21_0 j21_1 ak an aa ip x2 (x3 + 1)) (fun r4 bo_4 bg_4 => ((r4 * 2), bo_4, bg_4))) → J τ κ 0 0 (wA τ a j21_0 j21_1 ak an aa ip) [(0, .ref (a 0)), (1, .int 20), (2, .int x2), (3, .int x3)] 44 [] := by
        intro j21_0 j21_1 hj hR
        refine j_iload_n C dX0_body_44 45 rfl rfl 1 rfl ?_
        refine j_tabIn C dX0_body_45 (by decide) (by decide) (by rfl) 317 rfl ?_
        refine j_aload_n C dX0_body_317 318 rfl rfl 0 rfl ?_
        refine j_bipush (v := 11) C dX0_body_318 320 rfl (by decide) ?_
        refine j_iload_n C dX0_body_320 321 rfl rfl 2 rfl ?_
        refine j_iload_n C dX0_body_321 322 rfl rfl 3 rfl ?_
        refine j_iconst (v := 1) C dX0_body_322 323 rfl (by decide) ?_
        refine j_iadd C dX0_body_323 324 rfl ?_
        refine j_cv0I (na := 3) C dX0_body_324 327 rfl (c_X0_body__b11 τ a j21_0 j21_1 ak an aa ip x2 (x3 + 1) (by first | assumption | exact RBa0 | (unfold vp_in; decide) | decide) (by first | assumption | exact RBa0 | (unfold vp_in; decide) | decide)) gX0_body_X0_body rfl rfl rfl qd_X0_body__b11 rfl ⟨by decide, by decide⟩ ⟨by decide, by decide⟩ rfl (Nat.le_of_ble_eq_true rfl) rfl 0 0 rfl rfl (fun r4 u4 hX4 hn4 => ?_)
        obtain ⟨bo_4, bg_4⟩ := u4
        rw [hX4] at hR; rw [pr3_mk r4 bo_4 bg_4] at hR
        have hr4 : RBa bg_4 := rc_X0_body__b11 (by first | assumption | exact RBa0) hX4
        refine j_iconst (v := 2) C dX0_body_327 328 rfl (by decide) ?_
        refine j_imul C dX0_body_328 329 rfl ?_
        exact Rt.ret (hR) rfl dX0_body_329
      refine j_icmp_ge C dX0_body_21 44 rfl 24 rfl (fun c3 => ?_) (fun c3 => ?_)
      · rw [if_pos c3] at hR
        rw [pr2_mk bo bg] at hR
        exact j_lv [0, 1, 2, 3] [(0, .ref (a 0)), (1, .int 20), (2, .int x2), (3, .int x3)] rfl (J21 _ _ (by first | exact hr | exact RBa_s hr (by assumption)) hR)
      · rw [if_neg c3] at hR
        refine j_aload_n C dX0_body_24 25 rfl rfl 0 rfl ?_
        refine j_get C dX0_body_25 28 rfl hiX0 0 rfl rfl 0 (by decide) rfl kX0_body__b20_f11 rfl ?_
        refine j_aload_n C dX0_body_28 29 rfl rfl 0 rfl ?_
        refine j_get C dX0_body_29 32 rfl hiX0 0 rfl rfl 1 (by decide) rfl kX0_body__b20_f25 rfl ?_
        refine j_iload_n C dX0_body_32 33 rfl rfl 1 rfl ?_
        refine j_iast C dX0_body_33 34 rfl 1 rfl (RBa_in hr (by assumption)) (bg).toNatClampNeg rfl (wA τ a (upd bo (bg).toNatClampNeg 20) bg ak an aa ip) rfl ?_
        refine j_aload_n C dX0_body_34 35 rfl rfl 0 rfl ?_
        refine j_dup C dX0_body_35 36 rfl rfl ?_
        refine j_get C dX0_body_36 39 rfl hiX0 0 rfl rfl 1 (by decide) rfl kX0_body__b20_f25 rfl ?_
        refine j_iconst (v := 1) C dX0_body_39 40 rfl (by decide) ?_
        refine j_iadd C dX0_body_40 41 rfl ?_
        refine j_put C dX0_body_41 44 rfl hiX0 tyX0_ok nmX0 0 rfl rfl 1 (by decide) rfl kX0_body__b20_f25 rfl rfl rfl (Nat.le_of_ble_eq_true rfl) (wA τ a (upd bo (bg).toNatClampNeg 20) (bg + 1) ak an aa ip) rfl ?_
        rw [pr2_mk (upd bo (bg).toNatClampNeg 20) (bg + 1)] at hR
        exact j_lv [0, 1, 2, 3] [(0, .ref (a 0)), (1, .int 20), (2, .int x2), (3, .int x3)] rfl (J21 _ _ (by first | exact hr | exact RBa_s hr (by assumption)) hR)
    · rw [if_neg c2] at hR
      refine j_iconst (v := 0) C dX0_body_13 14 rfl (by decide) ?_
      exact Rt.ret (hR) rfl dX0_body_14

theorem rb_X0_body__b20 {bo : Nat → Int32} {bg : Int32} {ak : Int32} {an : Int32} {aa : Int32} {ip : Int32} {x2 : Int32} {x3 : Int32} (h : RBa bg) : RBa (f_X0_body__b20 bo bg ak an aa ip x2 x3).2.2 := by
  unfold f_X0_body__b20
  simp only [pr1, pr2, pr3, pr4]
  repeat' split
  all_goals with_reducible first | exact h | exact rb_X0_body__b11 h | exact rb_X0_body__b11 (RBa_s h (by assumption)) | exact RBa_s h (by assumption)
theorem rc_X0_body__b20 {bo : Nat → Int32} {bg : Int32} {ak : Int32} {an : Int32} {aa : Int32} {ip : Int32} {x2 : Int32} {x3 : Int32} {r : Int32} {w_bo : Nat → Int32} {w_bg : Int32} (h : RBa bg) (e : f_X0_body__b20 bo bg ak an aa ip x2 x3 = (r, w_bo, w_bg)) : RBa w_bg := by
  have q := rb_X0_body__b20 (bo := bo) (bg := bg) (ak := ak) (an := an) (aa := aa) (ip := ip) (x2 := x2) (x3 := x3) h
  rw [e] at q
  exact q

-- X0_body
def f_X0_body__b41 (bo : Nat → Int32) (bg : Int32) (ak : Int32) (an : Int32) (aa : Int32) (ip : Int32) (x2 : Int32) (x3 : Int32) : Int32 × (Nat → Int32) × Int32 := if (ip = 0) then (if (x3 ≤ 40) then (pr2 (if (30 ≤ bg) then (bo, bg) else ((upd bo (bg).toNatClampNeg 41), (bg + 1))) (fun j21_0 j21_1 => pr3 (f_X0_body__b11 j21_0 j21_1 ak an aa ip x2 (x3 + 1)) (fun r4 bo_4 bg_4 => pr3 (f_X0_own__o0 bo_4 bg_4 ak an aa ip aa x3) (fun r5 bo_5 bg_5 => ((r4 ^^^ r5), bo_5, bg_5))))) else ((0 : Int32), bo, bg)) else ((0 : Int32), bo, bg)
theorem kX0_body__b41_f28 : Cond.fieldLink RX0 28 "TwoMinutes$Actor" "isParted" "Z" ∈ wsX0_body := by decide +kernel
theorem kX0_body__b41_f25 : Cond.fieldLink RX0 25 "TwoMinutes$Actor" "begun" "I" ∈ wsX0_body := by decide +kernel
theorem kX0_body__b41_f11 : Cond.fieldLink RX0 11 "TwoMinutes$Actor" "bodies" "[I" ∈ wsX0_body := by decide +kernel
theorem kX0_body__b41_f22 : Cond.fieldLink RX0 22 "TwoMinutes$Actor" "a" "I" ∈ wsX0_body := by decide +kernel
theorem qd_X0_body__b41 : yX0_body.cls = RX0 ∧ yX0_body.cls ≠ "java/lang/invoke/MethodHandle" ∧ yX0_body.cls ≠ "java/lang/invoke/VarHandle" ∧ (parseMethodDescriptor yX0_body.desc).map (fun d => d.parameters.length) = some 3 := by decide +kernel
abbrev rmX0_body__b41 : Room := { frames := 5, cells := 0, slots := 0, locals := 116 }
set_option maxHeartbeats 4000000 in
set_option maxRecDepth 100000 in
theorem c_X0_body__b41 (τ : SX) (a : Nat → Nat) (bo : Nat → Int32) (bg : Int32) (ak : Int32) (an : Int32) (aa : Int32) (ip : Int32) (x2 : Int32) (x3 : Int32) (hr : RBa bg) (hk : ak = 0 ∨ ak = 1 ∨ ak = 2 ∨ ak = 3 ∨ ak = 4 ∨ ak = 5) (sz : Nat) : McI τ yX0_body wsX0_body rmX0_body__b41 .int [.ref (a 0), .int 41, .int x2, .int x3] (wA τ a bo bg ak an aa ip) (fun u : (Nat → Int32) × Int32 => (wA τ a u.1 u.2 ak an aa ip)) (f_X0_body__b41 bo bg ak an aa ip x2 x3) sz := by
  refine mc_I (cc := cX0_body) (own := RX0) [(0, .ref (a 0)), (1, .int 41), (2, .int x2), (3, .int x3)] rfl (by decide) rfl rfl (Nat.le_of_ble_eq_true rfl) (fun κ C hR => ?_)
  have hiX0 : ∀ w ∈ wsX00, w ∈ wsX0_body := fun w h => List.mem_cons_of_mem _ (List.mem_append_right _ h)
  unfold f_X0_body__b41 at hR
  refine j_aload_n C dX0_body_0 1 rfl rfl 0 rfl ?_
  refine j_get C dX0_body_1 4 rfl hiX0 0 rfl rfl 5 (by decide) rfl kX0_body__b41_f28 rfl ?_
  refine j_if_ne C dX0_body_4 13 rfl 7 rfl (fun c1 => ?_) (fun c1 => ?_)
  · rw [if_neg c1] at hR
    refine j_iconst (v := 0) C dX0_body_13 14 rfl (by decide) ?_
    exact Rt.ret (hR) rfl dX0_body_14
  · rw [if_pos c1] at hR
    refine j_iload_n C dX0_body_7 8 rfl rfl 3 rfl ?_
    refine j_bipush (v := 40) C dX0_body_8 10 rfl (by decide) ?_
    refine j_icmp_le C dX0_body_10 15 rfl 13 rfl (fun c2 => ?_) (fun c2 => ?_)
    · rw [if_pos c2] at hR
      refine j_aload_n C dX0_body_15 16 rfl rfl 0 rfl ?_
      refine j_get C dX0_body_16 19 rfl hiX0 0 rfl rfl 1 (by decide) rfl kX0_body__b41_f25 rfl ?_
      refine j_bipush (v := 30) C dX0_body_19 21 rfl (by decide) ?_
      have J21 : ∀ (j21_0 : Nat → Int32) (j21_1 : Int32), (RBa j21_1) → Rt τ κ cX0_body .int (fun u : (Nat → Int32) × Int32 => (wA τ a u.1 u.2 ak an aa ip)) (pr3 (f_X0_body__b11 j21_0 j21_1 ak an aa ip x2 (x3 + 1)) (fun r4 bo_4 bg_4 => pr3 (f_X0_own__o0 bo_4 bg_4 ak an aa ip aa x3) (fun r5 bo_5 bg_5 => ((r4 ^^^ r5), bo_5, bg_5)))) → J τ κ 0 0 (wA τ a j21_0 j21_1 ak an aa ip) [(0, .ref (a 0)), (1, .int 41), (2, .int x2), (3, .int x3)] 44 [] := by
        intro j21_0 j21_1 hj hR
        refine j_iload_n C dX0_body_44 45 rfl rfl 1 rfl ?_
        refine j_tabIn C dX0_body_45 (by decide) (by decide) (by rfl) 379 rfl ?_
        refine j_aload_n C dX0_body_379 380 rfl rfl 0 rfl ?_
        refine j_bipush (v := 11) C dX0_body_380 382 rfl (by decide) ?_
        refine j_iload_n C dX0_body_382 383 rfl rfl 2 rfl ?_
        refine j_iload_n C dX0_body_383 384 rfl rfl 3 rfl ?_
        refine j_iconst (v := 1) C dX0_body_384 385 rfl (by decide) ?_
        refine j_iadd C dX0_body_385 386 rfl ?_
        refine j_cv0I (na := 3) C dX0_body_386 389 rfl (c_X0_body__b11 τ a j21_0 j21_1 ak an aa ip x2 (x3 + 1) (by first | assumption | exact RBa0 | (unfold vp_in; decide) | decide) (by first | assumption | exact RBa0 | (unfold vp_in; decide) | decide)) gX0_body_X0_body rfl rfl rfl qd_X0_body__b11 rfl ⟨by decide, by decide⟩ ⟨by decide, by decide⟩ rfl (Nat.le_of_ble_eq_true rfl) rfl 0 0 rfl rfl (fun r4 u4 hX4 hn4 => ?_)
        obtain ⟨bo_4, bg_4⟩ := u4
        rw [hX4] at hR; rw [pr3_mk r4 bo_4 bg_4] at hR
        have hr4 : RBa bg_4 := rc_X0_body__b11 (by first | assumption | exact RBa0) hX4
        refine j_aload_n C dX0_body_389 390 rfl rfl 0 rfl ?_
        refine j_iconst (v := 0) C dX0_body_390 391 rfl (by decide) ?_
        refine j_aload_n C dX0_body_391 392 rfl rfl 0 rfl ?_
        refine j_get C dX0_body_392 395 rfl hiX0 0 rfl rfl 4 (by decide) rfl kX0_body__b41_f22 rfl ?_
        refine j_iload_n C dX0_body_395 396 rfl rfl 3 rfl ?_
        refine j_cv0I (na := 3) C dX0_body_396 399 rfl (c_X0_own__o0 τ a bo_4 bg_4 ak an aa ip aa x3 (by first | assumption | exact RBa0 | (unfold vp_in; decide) | decide) (by first | assumption | exact RBa0 | (unfold vp_in; decide) | decide)) gX0_body_X0_own rfl rfl rfl qd_X0_own__o0 rfl ⟨by decide, by decide⟩ ⟨by decide, by decide⟩ rfl (Nat.le_of_ble_eq_true rfl) rfl 0 0 rfl rfl (fun r5 u5 hX5 hn5 => ?_)
        obtain ⟨bo_5, bg_5⟩ := u5
        rw [hX5] at hR; rw [pr3_mk r5 bo_5 bg_5] at hR
        have hr5 : RBa bg_5 := rc_X0_own__o0 (by first | assumption | exact RBa0) hX5
        refine j_ixor C dX0_body_399 400 rfl ?_
        exact Rt.ret (hR) rfl dX0_body_400
      refine j_icmp_ge C dX0_body_21 44 rfl 24 rfl (fun c3 => ?_) (fun c3 => ?_)
      · rw [if_pos c3] at hR
        rw [pr2_mk bo bg] at hR
        exact j_lv [0, 1, 2, 3] [(0, .ref (a 0)), (1, .int 41), (2, .int x2), (3, .int x3)] rfl (J21 _ _ (by first | exact hr | exact RBa_s hr (by assumption)) hR)
      · rw [if_neg c3] at hR
        refine j_aload_n C dX0_body_24 25 rfl rfl 0 rfl ?_
        refine j_get C dX0_body_25 28 rfl hiX0 0 rfl rfl 0 (by decide) rfl kX0_body__b41_f11 rfl ?_
        refine j_aload_n C dX0_body_28 29 rfl rfl 0 rfl ?_
        refine j_get C dX0_body_29 32 rfl hiX0 0 rfl rfl 1 (by decide) rfl kX0_body__b41_f25 rfl ?_
        refine j_iload_n C dX0_body_32 33 rfl rfl 1 rfl ?_
        refine j_iast C dX0_body_33 34 rfl 1 rfl (RBa_in hr (by assumption)) (bg).toNatClampNeg rfl (wA τ a (upd bo (bg).toNatClampNeg 41) bg ak an aa ip) rfl ?_
        refine j_aload_n C dX0_body_34 35 rfl rfl 0 rfl ?_
        refine j_dup C dX0_body_35 36 rfl rfl ?_
        refine j_get C dX0_body_36 39 rfl hiX0 0 rfl rfl 1 (by decide) rfl kX0_body__b41_f25 rfl ?_
        refine j_iconst (v := 1) C dX0_body_39 40 rfl (by decide) ?_
        refine j_iadd C dX0_body_40 41 rfl ?_
        refine j_put C dX0_body_41 44 rfl hiX0 tyX0_ok nmX0 0 rfl rfl 1 (by decide) rfl kX0_body__b41_f25 rfl rfl rfl (Nat.le_of_ble_eq_true rfl) (wA τ a (upd bo (bg).toNatClampNeg 41) (bg + 1) ak an aa ip) rfl ?_
        rw [pr2_mk (upd bo (bg).toNatClampNeg 41) (bg + 1)] at hR
        exact j_lv [0, 1, 2, 3] [(0, .ref (a 0)), (1, .int 41), (2, .int x2), (3, .int x3)] rfl (J21 _ _ (by first | exact hr | exact RBa_s hr (by assumption)) hR)
    · rw [if_neg c2] at hR
      refine j_iconst (v := 0) C dX0_body_13 14 rfl (by decide) ?_
      exact Rt.ret (hR) rfl dX0_body_14

theorem rb_X0_body__b41 {bo : Nat → Int32} {bg : Int32} {ak : Int32} {an : Int32} {aa : Int32} {ip : Int32} {x2 : Int32} {x3 : Int32} (h : RBa bg) : RBa (f_X0_body__b41 bo bg ak an aa ip x2 x3).2.2 := by
  unfold f_X0_body__b41
  simp only [pr1, pr2, pr3, pr4]
  repeat' split
  all_goals with_reducible first | exact h | exact rb_X0_own__o0 (rb_X0_body__b11 h) | exact rb_X0_own__o0 (rb_X0_body__b11 (RBa_s h (by assumption))) | exact RBa_s h (by assumption)
theorem rc_X0_body__b41 {bo : Nat → Int32} {bg : Int32} {ak : Int32} {an : Int32} {aa : Int32} {ip : Int32} {x2 : Int32} {x3 : Int32} {r : Int32} {w_bo : Nat → Int32} {w_bg : Int32} (h : RBa bg) (e : f_X0_body__b41 bo bg ak an aa ip x2 x3 = (r, w_bo, w_bg)) : RBa w_bg := by
  have q := rb_X0_body__b41 (bo := bo) (bg := bg) (ak := ak) (an := an) (aa := aa) (ip := ip) (x2 := x2) (x3 := x3) h
  rw [e] at q
  exact q

-- X0_own
def f_X0_own__o1 (bo : Nat → Int32) (bg : Int32) (ak : Int32) (an : Int32) (aa : Int32) (ip : Int32) (x2 : Int32) (x3 : Int32) : Int32 × (Nat → Int32) × Int32 := (if ak = 0 then (if ((f_X5_isIn (1 : Int32) (0 : Int32) (23 : Int32)) = 0) then ((0 : Int32), bo, bg) else (pr3 (f_X0_body__b11 bo bg (0 : Int32) an aa ip x2 (x3 + 1)) (fun r3 bo_3 bg_3 => (r3, bo_3, bg_3)))) else (if ak = 1 then (if ((f_X5_isIn (5 : Int32) (0 : Int32) (23 : Int32)) = 0) then ((0 : Int32), bo, bg) else (pr3 (f_X0_body__b20 bo bg (1 : Int32) an aa ip x2 (x3 + 1)) (fun r6 bo_6 bg_6 => (r6, bo_6, bg_6)))) else (if ak = 2 then (if ((f_X5_isIn (9 : Int32) (0 : Int32) (23 : Int32)) = 0) then ((0 : Int32), bo, bg) else (pr3 (f_X0_body__b11 bo bg (2 : Int32) an aa ip x2 (x3 + 1)) (fun r9 bo_9 bg_9 => (r9, bo_9, bg_9)))) else (if ak = 3 then (if ((f_X5_isIn (13 : Int32) (0 : Int32) (23 : Int32)) = 0) then ((0 : Int32), bo, bg) else (pr3 (f_X0_body__b20 bo bg (3 : Int32) an aa ip x2 (x3 + 1)) (fun r12 bo_12 bg_12 => (r12, bo_12, bg_12)))) else (if ak = 4 then (if ((f_X5_isIn (17 : Int32) (0 : Int32) (23 : Int32)) = 0) then ((0 : Int32), bo, bg) else (pr3 (f_X0_body__b41 bo bg (4 : Int32) an aa ip x2 (x3 + 1)) (fun r15 bo_15 bg_15 => (r15, bo_15, bg_15)))) else (if ((f_X5_isIn (21 : Int32) (0 : Int32) (23 : Int32)) = 0) then ((0 : Int32), bo, bg) else (pr3 (f_X0_body__b11 bo bg (5 : Int32) an aa ip x2 (x3 + 1)) (fun r18 bo_18 bg_18 => (r18, bo_18, bg_18)))))))))
theorem kX0_own__o1_f15 : Cond.fieldLink RX0 15 "TwoMinutes$Actor" "kind" "I" ∈ wsX0_own := by decide +kernel
theorem kX0_own__o1_f36 : Cond.fieldLink RX0 36 "TwoMinutes$Actor" "BODY_OF" "[I" ∈ wsX0_own := by decide +kernel
theorem kX0_own__o1_iRX5 : Cond.initialized yX5_isIn.cls ∈ wsX0_own := by decide +kernel
theorem kX0_own__o1_sX5_isIn : Cond.static yX5_isIn ∈ wsX0_own := by decide +kernel
theorem qd_X0_own__o1 : yX0_own.cls = RX0 ∧ yX0_own.cls ≠ "java/lang/invoke/MethodHandle" ∧ yX0_own.cls ≠ "java/lang/invoke/VarHandle" ∧ (parseMethodDescriptor yX0_own.desc).map (fun d => d.parameters.length) = some 3 := by decide +kernel
abbrev rmX0_own__o1 : Room := { frames := 6, cells := 0, slots := 0, locals := 139 }
set_option maxHeartbeats 4000000 in
set_option maxRecDepth 100000 in
theorem c_X0_own__o1 (τ : SX) (a : Nat → Nat) (bo : Nat → Int32) (bg : Int32) (ak : Int32) (an : Int32) (aa : Int32) (ip : Int32) (x2 : Int32) (x3 : Int32) (hr : RBa bg) (hk : ak = 0 ∨ ak = 1 ∨ ak = 2 ∨ ak = 3 ∨ ak = 4 ∨ ak = 5) (sz : Nat) : McI τ yX0_own wsX0_own rmX0_own__o1 .int [.ref (a 0), .int 1, .int x2, .int x3] (wA τ a bo bg ak an aa ip) (fun u : (Nat → Int32) × Int32 => (wA τ a u.1 u.2 ak an aa ip)) (f_X0_own__o1 bo bg ak an aa ip x2 x3) sz := by
  refine mc_I (cc := cX0_own) (own := RX0) [(0, .ref (a 0)), (1, .int 1), (2, .int x2), (3, .int x3)] rfl (by decide) rfl rfl (Nat.le_of_ble_eq_true rfl) (fun κ C hR => ?_)
  have hiX0 : ∀ w ∈ wsX00, w ∈ wsX0_own := fun w h => List.mem_cons_of_mem _ (List.mem_append_right _ h)
  unfold f_X0_own__o1 at hR
  rcases hk with rfl | rfl | rfl | rfl | rfl | rfl
  · rw [if_pos rfl] at hR
    refine j_aload_n C dX0_own_0 1 rfl rfl 0 rfl ?_
    refine j_get C dX0_own_1 4 rfl hiX0 0 rfl rfl 2 (by decide) rfl kX0_own__o1_f15 rfl ?_
    refine j_iconst (v := 4) C dX0_own_4 5 rfl (by decide) ?_
    refine j_imul C dX0_own_5 6 rfl ?_
    refine j_vi (v := 0) (by decide) ?_
    refine j_iload_n C dX0_own_6 7 rfl rfl 1 rfl ?_
    refine j_iadd C dX0_own_7 8 rfl ?_
    refine j_vi (v := 1) (by decide) ?_
    refine j_istore C dX0_own_8 10 rfl (by decide) [(4, .int 1), (0, .ref (a 0)), (1, .int 1), (2, .int x2), (3, .int x3)] rfl ?_
    refine j_iload C dX0_own_10 12 rfl 0 rfl ?_
    refine j_iconst (v := 0) C dX0_own_12 13 rfl (by decide) ?_
    refine j_gets C dX0_own_13 16 rfl 4 rfl rfl rfl rfl kX0_own__o1_f36 ?_
    refine j_slen (v := 24) C dX0_own_16 17 rfl 4 rfl (by decide) ?_
    refine j_iconst (v := 1) C dX0_own_17 18 rfl (by decide) ?_
    refine j_isub C dX0_own_18 19 rfl ?_
    refine j_vi (v := 23) (by decide) ?_
    refine j_csN (na := 3) C dX0_own_19 22 rfl (c_X5_isIn τ  (1 : Int32) (0 : Int32) (23 : Int32) ) rfl ggX0_own_X5_isIn rfl rfl rfl kX0_own__o1_iRX5 (host := RX5) (by decide +kernel) kX0_own__o1_sX5_isIn qd_X5_isIn rfl ⟨by decide, by decide⟩ ⟨by decide, by decide⟩ rfl (Nat.le_of_ble_eq_true rfl) (fun r1 u1 hX1 hn1 => ?_)
    obtain rfl := (Prod.mk.inj hX1).1
    refine j_if_eq C dX0_own_22 42 rfl 25 rfl (fun c2 => ?_) (fun c2 => ?_)
    · rw [if_pos c2] at hR
      refine j_iconst (v := 0) C dX0_own_42 43 rfl (by decide) ?_
      exact Rt.ret (hR) rfl dX0_own_43
    · rw [if_neg c2] at hR
      refine j_aload_n C dX0_own_25 26 rfl rfl 1 rfl ?_
      refine j_gets C dX0_own_26 29 rfl 4 rfl rfl rfl rfl kX0_own__o1_f36 ?_
      refine j_iload C dX0_own_29 31 rfl 0 rfl ?_
      refine j_sald C dX0_own_31 32 rfl 4 rfl (by unfold vp_in; decide) 1 rfl ?_
      refine j_vi (v := 11) (by decide) ?_
      refine j_iload_n C dX0_own_32 33 rfl rfl 3 rfl ?_
      refine j_iload_n C dX0_own_33 34 rfl rfl 4 rfl ?_
      refine j_iconst (v := 1) C dX0_own_34 35 rfl (by decide) ?_
      refine j_iadd C dX0_own_35 36 rfl ?_
      refine j_cv0I (na := 3) C dX0_own_36 39 rfl (c_X0_body__b11 τ a bo bg 0 an aa ip x2 (x3 + 1) (by first | assumption | exact RBa0 | (unfold vp_in; decide) | decide) (by first | assumption | exact RBa0 | (unfold vp_in; decide) | decide)) gX0_own_X0_body rfl rfl rfl qd_X0_body__b11 rfl ⟨by decide, by decide⟩ ⟨by decide, by decide⟩ rfl (Nat.le_of_ble_eq_true rfl) rfl 0 0 rfl rfl (fun r3 u3 hX3 hn3 => ?_)
      obtain ⟨bo_3, bg_3⟩ := u3
      rw [hX3] at hR; rw [pr3_mk r3 bo_3 bg_3] at hR
      have hr3 : RBa bg_3 := rc_X0_body__b11 (by first | assumption | exact RBa0) hX3
      refine j_goto C dX0_own_39 43 rfl ?_
      exact Rt.ret (hR) rfl dX0_own_43
  · rw [if_neg (by decide), if_pos rfl] at hR
    refine j_aload_n C dX0_own_0 1 rfl rfl 0 rfl ?_
    refine j_get C dX0_own_1 4 rfl hiX0 0 rfl rfl 2 (by decide) rfl kX0_own__o1_f15 rfl ?_
    refine j_iconst (v := 4) C dX0_own_4 5 rfl (by decide) ?_
    refine j_imul C dX0_own_5 6 rfl ?_
    refine j_vi (v := 4) (by decide) ?_
    refine j_iload_n C dX0_own_6 7 rfl rfl 1 rfl ?_
    refine j_iadd C dX0_own_7 8 rfl ?_
    refine j_vi (v := 5) (by decide) ?_
    refine j_istore C dX0_own_8 10 rfl (by decide) [(4, .int 5), (0, .ref (a 0)), (1, .int 1), (2, .int x2), (3, .int x3)] rfl ?_
    refine j_iload C dX0_own_10 12 rfl 0 rfl ?_
    refine j_iconst (v := 0) C dX0_own_12 13 rfl (by decide) ?_
    refine j_gets C dX0_own_13 16 rfl 4 rfl rfl rfl rfl kX0_own__o1_f36 ?_
    refine j_slen (v := 24) C dX0_own_16 17 rfl 4 rfl (by decide) ?_
    refine j_iconst (v := 1) C dX0_own_17 18 rfl (by decide) ?_
    refine j_isub C dX0_own_18 19 rfl ?_
    refine j_vi (v := 23) (by decide) ?_
    refine j_csN (na := 3) C dX0_own_19 22 rfl (c_X5_isIn τ  (5 : Int32) (0 : Int32) (23 : Int32) ) rfl ggX0_own_X5_isIn rfl rfl rfl kX0_own__o1_iRX5 (host := RX5) (by decide +kernel) kX0_own__o1_sX5_isIn qd_X5_isIn rfl ⟨by decide, by decide⟩ ⟨by decide, by decide⟩ rfl (Nat.le_of_ble_eq_true rfl) (fun r4 u4 hX4 hn4 => ?_)
    obtain rfl := (Prod.mk.inj hX4).1
    refine j_if_eq C dX0_own_22 42 rfl 25 rfl (fun c5 => ?_) (fun c5 => ?_)
    · rw [if_pos c5] at hR
      refine j_iconst (v := 0) C dX0_own_42 43 rfl (by decide) ?_
      exact Rt.ret (hR) rfl dX0_own_43
    · rw [if_neg c5] at hR
      refine j_aload_n C dX0_own_25 26 rfl rfl 1 rfl ?_
      refine j_gets C dX0_own_26 29 rfl 4 rfl rfl rfl rfl kX0_own__o1_f36 ?_
      refine j_iload C dX0_own_29 31 rfl 0 rfl ?_
      refine j_sald C dX0_own_31 32 rfl 4 rfl (by unfold vp_in; decide) 5 rfl ?_
      refine j_vi (v := 20) (by decide) ?_
      refine j_iload_n C dX0_own_32 33 rfl rfl 3 rfl ?_
      refine j_iload_n C dX0_own_33 34 rfl rfl 4 rfl ?_
      refine j_iconst (v := 1) C dX0_own_34 35 rfl (by decide) ?_
      refine j_iadd C dX0_own_35 36 rfl ?_
      refine j_cv0I (na := 3) C dX0_own_36 39 rfl (c_X0_body__b20 τ a bo bg 1 an aa ip x2 (x3 + 1) (by first | assumption | exact RBa0 | (unfold vp_in; decide) | decide) (by first | assumption | exact RBa0 | (unfold vp_in; decide) | decide)) gX0_own_X0_body rfl rfl rfl qd_X0_body__b20 rfl ⟨by decide, by decide⟩ ⟨by decide, by decide⟩ rfl (Nat.le_of_ble_eq_true rfl) rfl 0 0 rfl rfl (fun r6 u6 hX6 hn6 => ?_)
      obtain ⟨bo_6, bg_6⟩ := u6
      rw [hX6] at hR; rw [pr3_mk r6 bo_6 bg_6] at hR
      have hr6 : RBa bg_6 := rc_X0_body__b20 (by first | assumption | exact RBa0) hX6
      refine j_goto C dX0_own_39 43 rfl ?_
      exact Rt.ret (hR) rfl dX0_own_43
  · rw [if_neg (by decide), if_neg (by decide), if_pos rfl] at hR
    refine j_aload_n C dX0_own_0 1 rfl rfl 0 rfl ?_
    refine j_get C dX0_own_1 4 rfl hiX0 0 rfl rfl 2 (by decide) rfl kX0_own__o1_f15 rfl ?_
    refine j_iconst (v := 4) C dX0_own_4 5 rfl (by decide) ?_
    refine j_imul C dX0_own_5 6 rfl ?_
    refine j_vi (v := 8) (by decide) ?_
    refine j_iload_n C dX0_own_6 7 rfl rfl 1 rfl ?_
    refine j_iadd C dX0_own_7 8 rfl ?_
    refine j_vi (v := 9) (by decide) ?_
    refine j_istore C dX0_own_8 10 rfl (by decide) [(4, .int 9), (0, .ref (a 0)), (1, .int 1), (2, .int x2), (3, .int x3)] rfl ?_
    refine j_iload C dX0_own_10 12 rfl 0 rfl ?_
    refine j_iconst (v := 0) C dX0_own_12 13 rfl (by decide) ?_
    refine j_gets C dX0_own_13 16 rfl 4 rfl rfl rfl rfl kX0_own__o1_f36 ?_
    refine j_slen (v := 24) C dX0_own_16 17 rfl 4 rfl (by decide) ?_
    refine j_iconst (v := 1) C dX0_own_17 18 rfl (by decide) ?_
    refine j_isub C dX0_own_18 19 rfl ?_
    refine j_vi (v := 23) (by decide) ?_
    refine j_csN (na := 3) C dX0_own_19 22 rfl (c_X5_isIn τ  (9 : Int32) (0 : Int32) (23 : Int32) ) rfl ggX0_own_X5_isIn rfl rfl rfl kX0_own__o1_iRX5 (host := RX5) (by decide +kernel) kX0_own__o1_sX5_isIn qd_X5_isIn rfl ⟨by decide, by decide⟩ ⟨by decide, by decide⟩ rfl (Nat.le_of_ble_eq_true rfl) (fun r7 u7 hX7 hn7 => ?_)
    obtain rfl := (Prod.mk.inj hX7).1
    refine j_if_eq C dX0_own_22 42 rfl 25 rfl (fun c8 => ?_) (fun c8 => ?_)
    · rw [if_pos c8] at hR
      refine j_iconst (v := 0) C dX0_own_42 43 rfl (by decide) ?_
      exact Rt.ret (hR) rfl dX0_own_43
    · rw [if_neg c8] at hR
      refine j_aload_n C dX0_own_25 26 rfl rfl 1 rfl ?_
      refine j_gets C dX0_own_26 29 rfl 4 rfl rfl rfl rfl kX0_own__o1_f36 ?_
      refine j_iload C dX0_own_29 31 rfl 0 rfl ?_
      refine j_sald C dX0_own_31 32 rfl 4 rfl (by unfold vp_in; decide) 9 rfl ?_
      refine j_vi (v := 11) (by decide) ?_
      refine j_iload_n C dX0_own_32 33 rfl rfl 3 rfl ?_
      refine j_iload_n C dX0_own_33 34 rfl rfl 4 rfl ?_
      refine j_iconst (v := 1) C dX0_own_34 35 rfl (by decide) ?_
      refine j_iadd C dX0_own_35 36 rfl ?_
      refine j_cv0I (na := 3) C dX0_own_36 39 rfl (c_X0_body__b11 τ a bo bg 2 an aa ip x2 (x3 + 1) (by first | assumption | exact RBa0 | (unfold vp_in; decide) | decide) (by first | assumption | exact RBa0 | (unfold vp_in; decide) | decide)) gX0_own_X0_body rfl rfl rfl qd_X0_body__b11 rfl ⟨by decide, by decide⟩ ⟨by decide, by decide⟩ rfl (Nat.le_of_ble_eq_true rfl) rfl 0 0 rfl rfl (fun r9 u9 hX9 hn9 => ?_)
      obtain ⟨bo_9, bg_9⟩ := u9
      rw [hX9] at hR; rw [pr3_mk r9 bo_9 bg_9] at hR
      have hr9 : RBa bg_9 := rc_X0_body__b11 (by first | assumption | exact RBa0) hX9
      refine j_goto C dX0_own_39 43 rfl ?_
      exact Rt.ret (hR) rfl dX0_own_43
  · rw [if_neg (by decide), if_neg (by decide), if_neg (by decide), if_pos rfl] at hR
    refine j_aload_n C dX0_own_0 1 rfl rfl 0 rfl ?_
    refine j_get C dX0_own_1 4 rfl hiX0 0 rfl rfl 2 (by decide) rfl kX0_own__o1_f15 rfl ?_
    refine j_iconst (v := 4) C dX0_own_4 5 rfl (by decide) ?_
    refine j_imul C dX0_own_5 6 rfl ?_
    refine j_vi (v := 12) (by decide) ?_
    refine j_iload_n C dX0_own_6 7 rfl rfl 1 rfl ?_
    refine j_iadd C dX0_own_7 8 rfl ?_
    refine j_vi (v := 13) (by decide) ?_
    refine j_istore C dX0_own_8 10 rfl (by decide) [(4, .int 13), (0, .ref (a 0)), (1, .int 1), (2, .int x2), (3, .int x3)] rfl ?_
    refine j_iload C dX0_own_10 12 rfl 0 rfl ?_
    refine j_iconst (v := 0) C dX0_own_12 13 rfl (by decide) ?_
    refine j_gets C dX0_own_13 16 rfl 4 rfl rfl rfl rfl kX0_own__o1_f36 ?_
    refine j_slen (v := 24) C dX0_own_16 17 rfl 4 rfl (by decide) ?_
    refine j_iconst (v := 1) C dX0_own_17 18 rfl (by decide) ?_
    refine j_isub C dX0_own_18 19 rfl ?_
    refine j_vi (v := 23) (by decide) ?_
    refine j_csN (na := 3) C dX0_own_19 22 rfl (c_X5_isIn τ  (13 : Int32) (0 : Int32) (23 : Int32) ) rfl ggX0_own_X5_isIn rfl rfl rfl kX0_own__o1_iRX5 (host := RX5) (by decide +kernel) kX0_own__o1_sX5_isIn qd_X5_isIn rfl ⟨by decide, by decide⟩ ⟨by decide, by decide⟩ rfl (Nat.le_of_ble_eq_true rfl) (fun r10 u10 hX10 hn10 => ?_)
    obtain rfl := (Prod.mk.inj hX10).1
    refine j_if_eq C dX0_own_22 42 rfl 25 rfl (fun c11 => ?_) (fun c11 => ?_)
    · rw [if_pos c11] at hR
      refine j_iconst (v := 0) C dX0_own_42 43 rfl (by decide) ?_
      exact Rt.ret (hR) rfl dX0_own_43
    · rw [if_neg c11] at hR
      refine j_aload_n C dX0_own_25 26 rfl rfl 1 rfl ?_
      refine j_gets C dX0_own_26 29 rfl 4 rfl rfl rfl rfl kX0_own__o1_f36 ?_
      refine j_iload C dX0_own_29 31 rfl 0 rfl ?_
      refine j_sald C dX0_own_31 32 rfl 4 rfl (by unfold vp_in; decide) 13 rfl ?_
      refine j_vi (v := 20) (by decide) ?_
      refine j_iload_n C dX0_own_32 33 rfl rfl 3 rfl ?_
      refine j_iload_n C dX0_own_33 34 rfl rfl 4 rfl ?_
      refine j_iconst (v := 1) C dX0_own_34 35 rfl (by decide) ?_
      refine j_iadd C dX0_own_35 36 rfl ?_
      refine j_cv0I (na := 3) C dX0_own_36 39 rfl (c_X0_body__b20 τ a bo bg 3 an aa ip x2 (x3 + 1) (by first | assumption | exact RBa0 | (unfold vp_in; decide) | decide) (by first | assumption | exact RBa0 | (unfold vp_in; decide) | decide)) gX0_own_X0_body rfl rfl rfl qd_X0_body__b20 rfl ⟨by decide, by decide⟩ ⟨by decide, by decide⟩ rfl (Nat.le_of_ble_eq_true rfl) rfl 0 0 rfl rfl (fun r12 u12 hX12 hn12 => ?_)
      obtain ⟨bo_12, bg_12⟩ := u12
      rw [hX12] at hR; rw [pr3_mk r12 bo_12 bg_12] at hR
      have hr12 : RBa bg_12 := rc_X0_body__b20 (by first | assumption | exact RBa0) hX12
      refine j_goto C dX0_own_39 43 rfl ?_
      exact Rt.ret (hR) rfl dX0_own_43
  · rw [if_neg (by decide), if_neg (by decide), if_neg (by decide), if_neg (by decide), if_pos rfl] at hR
    refine j_aload_n C dX0_own_0 1 rfl rfl 0 rfl ?_
    refine j_get C dX0_own_1 4 rfl hiX0 0 rfl rfl 2 (by decide) rfl kX0_own__o1_f15 rfl ?_
    refine j_iconst (v := 4) C dX0_own_4 5 rfl (by decide) ?_
    refine j_imul C dX0_own_5 6 rfl ?_
    refine j_vi (v := 16) (by decide) ?_
    refine j_iload_n C dX0_own_6 7 rfl rfl 1 rfl ?_
    refine j_iadd C dX0_own_7 8 rfl ?_
    refine j_vi (v := 17) (by decide) ?_
    refine j_istore C dX0_own_8 10 rfl (by decide) [(4, .int 17), (0, .ref (a 0)), (1, .int 1), (2, .int x2), (3, .int x3)] rfl ?_
    refine j_iload C dX0_own_10 12 rfl 0 rfl ?_
    refine j_iconst (v := 0) C dX0_own_12 13 rfl (by decide) ?_
    refine j_gets C dX0_own_13 16 rfl 4 rfl rfl rfl rfl kX0_own__o1_f36 ?_
    refine j_slen (v := 24) C dX0_own_16 17 rfl 4 rfl (by decide) ?_
    refine j_iconst (v := 1) C dX0_own_17 18 rfl (by decide) ?_
    refine j_isub C dX0_own_18 19 rfl ?_
    refine j_vi (v := 23) (by decide) ?_
    refine j_csN (na := 3) C dX0_own_19 22 rfl (c_X5_isIn τ  (17 : Int32) (0 : Int32) (23 : Int32) ) rfl ggX0_own_X5_isIn rfl rfl rfl kX0_own__o1_iRX5 (host := RX5) (by decide +kernel) kX0_own__o1_sX5_isIn qd_X5_isIn rfl ⟨by decide, by decide⟩ ⟨by decide, by decide⟩ rfl (Nat.le_of_ble_eq_true rfl) (fun r13 u13 hX13 hn13 => ?_)
    obtain rfl := (Prod.mk.inj hX13).1
    refine j_if_eq C dX0_own_22 42 rfl 25 rfl (fun c14 => ?_) (fun c14 => ?_)
    · rw [if_pos c14] at hR
      refine j_iconst (v := 0) C dX0_own_42 43 rfl (by decide) ?_
      exact Rt.ret (hR) rfl dX0_own_43
    · rw [if_neg c14] at hR
      refine j_aload_n C dX0_own_25 26 rfl rfl 1 rfl ?_
      refine j_gets C dX0_own_26 29 rfl 4 rfl rfl rfl rfl kX0_own__o1_f36 ?_
      refine j_iload C dX0_own_29 31 rfl 0 rfl ?_
      refine j_sald C dX0_own_31 32 rfl 4 rfl (by unfold vp_in; decide) 17 rfl ?_
      refine j_vi (v := 41) (by decide) ?_
      refine j_iload_n C dX0_own_32 33 rfl rfl 3 rfl ?_
      refine j_iload_n C dX0_own_33 34 rfl rfl 4 rfl ?_
      refine j_iconst (v := 1) C dX0_own_34 35 rfl (by decide) ?_
      refine j_iadd C dX0_own_35 36 rfl ?_
      refine j_cv0I (na := 3) C dX0_own_36 39 rfl (c_X0_body__b41 τ a bo bg 4 an aa ip x2 (x3 + 1) (by first | assumption | exact RBa0 | (unfold vp_in; decide) | decide) (by first | assumption | exact RBa0 | (unfold vp_in; decide) | decide)) gX0_own_X0_body rfl rfl rfl qd_X0_body__b41 rfl ⟨by decide, by decide⟩ ⟨by decide, by decide⟩ rfl (Nat.le_of_ble_eq_true rfl) rfl 0 0 rfl rfl (fun r15 u15 hX15 hn15 => ?_)
      obtain ⟨bo_15, bg_15⟩ := u15
      rw [hX15] at hR; rw [pr3_mk r15 bo_15 bg_15] at hR
      have hr15 : RBa bg_15 := rc_X0_body__b41 (by first | assumption | exact RBa0) hX15
      refine j_goto C dX0_own_39 43 rfl ?_
      exact Rt.ret (hR) rfl dX0_own_43
  · rw [if_neg (by decide), if_neg (by decide), if_neg (by decide), if_neg (by decide), if_neg (by decide)] at hR
    refine j_aload_n C dX0_own_0 1 rfl rfl 0 rfl ?_
    refine j_get C dX0_own_1 4 rfl hiX0 0 rfl rfl 2 (by decide) rfl kX0_own__o1_f15 rfl ?_
    refine j_iconst (v := 4) C dX0_own_4 5 rfl (by decide) ?_
    refine j_imul C dX0_own_5 6 rfl ?_
    refine j_vi (v := 20) (by decide) ?_
    refine j_iload_n C dX0_own_6 7 rfl rfl 1 rfl ?_
    refine j_iadd C dX0_own_7 8 rfl ?_
    refine j_vi (v := 21) (by decide) ?_
    refine j_istore C dX0_own_8 10 rfl (by decide) [(4, .int 21), (0, .ref (a 0)), (1, .int 1), (2, .int x2), (3, .int x3)] rfl ?_
    refine j_iload C dX0_own_10 12 rfl 0 rfl ?_
    refine j_iconst (v := 0) C dX0_own_12 13 rfl (by decide) ?_
    refine j_gets C dX0_own_13 16 rfl 4 rfl rfl rfl rfl kX0_own__o1_f36 ?_
    refine j_slen (v := 24) C dX0_own_16 17 rfl 4 rfl (by decide) ?_
    refine j_iconst (v := 1) C dX0_own_17 18 rfl (by decide) ?_
    refine j_isub C dX0_own_18 19 rfl ?_
    refine j_vi (v := 23) (by decide) ?_
    refine j_csN (na := 3) C dX0_own_19 22 rfl (c_X5_isIn τ  (21 : Int32) (0 : Int32) (23 : Int32) ) rfl ggX0_own_X5_isIn rfl rfl rfl kX0_own__o1_iRX5 (host := RX5) (by decide +kernel) kX0_own__o1_sX5_isIn qd_X5_isIn rfl ⟨by decide, by decide⟩ ⟨by decide, by decide⟩ rfl (Nat.le_of_ble_eq_true rfl) (fun r16 u16 hX16 hn16 => ?_)
    obtain rfl := (Prod.mk.inj hX16).1
    refine j_if_eq C dX0_own_22 42 rfl 25 rfl (fun c17 => ?_) (fun c17 => ?_)
    · rw [if_pos c17] at hR
      refine j_iconst (v := 0) C dX0_own_42 43 rfl (by decide) ?_
      exact Rt.ret (hR) rfl dX0_own_43
    · rw [if_neg c17] at hR
      refine j_aload_n C dX0_own_25 26 rfl rfl 1 rfl ?_
      refine j_gets C dX0_own_26 29 rfl 4 rfl rfl rfl rfl kX0_own__o1_f36 ?_
      refine j_iload C dX0_own_29 31 rfl 0 rfl ?_
      refine j_sald C dX0_own_31 32 rfl 4 rfl (by unfold vp_in; decide) 21 rfl ?_
      refine j_vi (v := 11) (by decide) ?_
      refine j_iload_n C dX0_own_32 33 rfl rfl 3 rfl ?_
      refine j_iload_n C dX0_own_33 34 rfl rfl 4 rfl ?_
      refine j_iconst (v := 1) C dX0_own_34 35 rfl (by decide) ?_
      refine j_iadd C dX0_own_35 36 rfl ?_
      refine j_cv0I (na := 3) C dX0_own_36 39 rfl (c_X0_body__b11 τ a bo bg 5 an aa ip x2 (x3 + 1) (by first | assumption | exact RBa0 | (unfold vp_in; decide) | decide) (by first | assumption | exact RBa0 | (unfold vp_in; decide) | decide)) gX0_own_X0_body rfl rfl rfl qd_X0_body__b11 rfl ⟨by decide, by decide⟩ ⟨by decide, by decide⟩ rfl (Nat.le_of_ble_eq_true rfl) rfl 0 0 rfl rfl (fun r18 u18 hX18 hn18 => ?_)
      obtain ⟨bo_18, bg_18⟩ := u18
      rw [hX18] at hR; rw [pr3_mk r18 bo_18 bg_18] at hR
      have hr18 : RBa bg_18 := rc_X0_body__b11 (by first | assumption | exact RBa0) hX18
      refine j_goto C dX0_own_39 43 rfl ?_
      exact Rt.ret (hR) rfl dX0_own_43

theorem rb_X0_own__o1 {bo : Nat → Int32} {bg : Int32} {ak : Int32} {an : Int32} {aa : Int32} {ip : Int32} {x2 : Int32} {x3 : Int32} (h : RBa bg) : RBa (f_X0_own__o1 bo bg ak an aa ip x2 x3).2.2 := by
  unfold f_X0_own__o1
  simp only [pr1, pr2, pr3, pr4]
  repeat' split
  all_goals with_reducible first | exact h | exact rb_X0_body__b11 h | exact rb_X0_body__b11 (RBa_s h (by assumption)) | exact rb_X0_body__b20 h | exact rb_X0_body__b20 (RBa_s h (by assumption)) | exact rb_X0_body__b41 h | exact rb_X0_body__b41 (RBa_s h (by assumption)) | exact RBa_s h (by assumption)
theorem rc_X0_own__o1 {bo : Nat → Int32} {bg : Int32} {ak : Int32} {an : Int32} {aa : Int32} {ip : Int32} {x2 : Int32} {x3 : Int32} {r : Int32} {w_bo : Nat → Int32} {w_bg : Int32} (h : RBa bg) (e : f_X0_own__o1 bo bg ak an aa ip x2 x3 = (r, w_bo, w_bg)) : RBa w_bg := by
  have q := rb_X0_own__o1 (bo := bo) (bg := bg) (ak := ak) (an := an) (aa := aa) (ip := ip) (x2 := x2) (x3 := x3) h
  rw [e] at q
  exact q

-- X0_body
def f_X0_body__b12 (bo : Nat → Int32) (bg : Int32) (an : Int32) (aa : Int32) (ip : Int32) (x2 : Int32) (x3 : Int32) : Int32 × (Nat → Int32) × Int32 × Int32 := if (ip = 0) then (if (x3 ≤ 40) then (pr2 (if (30 ≤ bg) then (bo, bg) else ((upd bo (bg).toNatClampNeg 12), (bg + 1))) (fun j21_0 j21_1 => pr2 (f_X0_parted ip x2 (aa - an)) (fun r4 ip_4 => (r4, j21_0, j21_1, ip_4)))) else ((0 : Int32), bo, bg, ip)) else ((0 : Int32), bo, bg, ip)
theorem kX0_body__b12_f28 : Cond.fieldLink RX0 28 "TwoMinutes$Actor" "isParted" "Z" ∈ wsX0_body := by decide +kernel
theorem kX0_body__b12_f25 : Cond.fieldLink RX0 25 "TwoMinutes$Actor" "begun" "I" ∈ wsX0_body := by decide +kernel
theorem kX0_body__b12_f11 : Cond.fieldLink RX0 11 "TwoMinutes$Actor" "bodies" "[I" ∈ wsX0_body := by decide +kernel
theorem kX0_body__b12_f22 : Cond.fieldLink RX0 22 "TwoMinutes$Actor" "a" "I" ∈ wsX0_body := by decide +kernel
theorem kX0_body__b12_f19 : Cond.fieldLink RX0 19 "TwoMinutes$Actor" "n" "I" ∈ wsX0_body := by decide +kernel
theorem qd_X0_body__b12 : yX0_body.cls = RX0 ∧ yX0_body.cls ≠ "java/lang/invoke/MethodHandle" ∧ yX0_body.cls ≠ "java/lang/invoke/VarHandle" ∧ (parseMethodDescriptor yX0_body.desc).map (fun d => d.parameters.length) = some 3 := by decide +kernel
abbrev rmX0_body__b12 : Room := { frames := 1, cells := 0, slots := 0, locals := 22 }
set_option maxHeartbeats 4000000 in
set_option maxRecDepth 100000 in
theorem c_X0_body__b12 (τ : SX) (a : Nat → Nat) (bo : Nat → Int32) (bg : Int32) (ak : Int32) (an : Int32) (aa : Int32) (ip : Int32) (x2 : Int32) (x3 : Int32) (hr : RBa bg) (hk : ak = 0 ∨ ak = 1 ∨ ak = 2 ∨ ak = 3 ∨ ak = 4 ∨ ak = 5) (sz : Nat) : McI τ yX0_body wsX0_body rmX0_body__b12 .int [.ref (a 0), .int 12, .int x2, .int x3] (wA τ a bo bg ak an aa ip) (fun u : (Nat → Int32) × Int32 × Int32 => (wA τ a u.1 u.2.1 ak an aa u.2.2)) (f_X0_body__b12 bo bg an aa ip x2 x3) sz := by
  refine mc_I (cc := cX0_body) (own := RX0) [(0, .ref (a 0)), (1, .int 12), (2, .int x2), (3, .int x3)] rfl (by decide) rfl rfl (Nat.le_of_ble_eq_true rfl) (fun κ C hR => ?_)
  have hiX0 : ∀ w ∈ wsX00, w ∈ wsX0_body := fun w h => List.mem_cons_of_mem _ (List.mem_append_right _ h)
  unfold f_X0_body__b12 at hR
  refine j_aload_n C dX0_body_0 1 rfl rfl 0 rfl ?_
  refine j_get C dX0_body_1 4 rfl hiX0 0 rfl rfl 5 (by decide) rfl kX0_body__b12_f28 rfl ?_
  refine j_if_ne C dX0_body_4 13 rfl 7 rfl (fun c1 => ?_) (fun c1 => ?_)
  · rw [if_neg c1] at hR
    refine j_iconst (v := 0) C dX0_body_13 14 rfl (by decide) ?_
    exact Rt.ret (hR) rfl dX0_body_14
  · rw [if_pos c1] at hR
    refine j_iload_n C dX0_body_7 8 rfl rfl 3 rfl ?_
    refine j_bipush (v := 40) C dX0_body_8 10 rfl (by decide) ?_
    refine j_icmp_le C dX0_body_10 15 rfl 13 rfl (fun c2 => ?_) (fun c2 => ?_)
    · rw [if_pos c2] at hR
      refine j_aload_n C dX0_body_15 16 rfl rfl 0 rfl ?_
      refine j_get C dX0_body_16 19 rfl hiX0 0 rfl rfl 1 (by decide) rfl kX0_body__b12_f25 rfl ?_
      refine j_bipush (v := 30) C dX0_body_19 21 rfl (by decide) ?_
      have J21 : ∀ (j21_0 : Nat → Int32) (j21_1 : Int32), (RBa j21_1) → Rt τ κ cX0_body .int (fun u : (Nat → Int32) × Int32 × Int32 => (wA τ a u.1 u.2.1 ak an aa u.2.2)) (pr2 (f_X0_parted ip x2 (aa - an)) (fun r4 ip_4 => (r4, j21_0, j21_1, ip_4))) → J τ κ 0 0 (wA τ a j21_0 j21_1 ak an aa ip) [(0, .ref (a 0)), (1, .int 12), (2, .int x2), (3, .int x3)] 44 [] := by
        intro j21_0 j21_1 hj hR
        refine j_iload_n C dX0_body_44 45 rfl rfl 1 rfl ?_
        refine j_tabIn C dX0_body_45 (by decide) (by decide) (by rfl) 291 rfl ?_
        refine j_aload_n C dX0_body_291 292 rfl rfl 0 rfl ?_
        refine j_iload_n C dX0_body_292 293 rfl rfl 2 rfl ?_
        refine j_aload_n C dX0_body_293 294 rfl rfl 0 rfl ?_
        refine j_get C dX0_body_294 297 rfl hiX0 0 rfl rfl 4 (by decide) rfl kX0_body__b12_f22 rfl ?_
        refine j_aload_n C dX0_body_297 298 rfl rfl 0 rfl ?_
        refine j_get C dX0_body_298 301 rfl hiX0 0 rfl rfl 3 (by decide) rfl kX0_body__b12_f19 rfl ?_
        refine j_isub C dX0_body_301 302 rfl ?_
        refine j_cv0I (na := 2) C dX0_body_302 305 rfl (c_X0_parted τ a j21_0 j21_1 ak an aa ip x2 (aa - an) ) gX0_body_X0_parted rfl rfl rfl qd_X0_parted rfl ⟨by decide, by decide⟩ ⟨by decide, by decide⟩ rfl (Nat.le_of_ble_eq_true rfl) rfl 0 0 rfl rfl (fun r4 u4 hX4 hn4 => ?_)
        obtain ⟨ip_4, rfl⟩ : ∃ z, z = u4 := ⟨_, rfl⟩
        rw [hX4] at hR; rw [pr2_mk r4 ip_4] at hR
        exact Rt.ret (hR) rfl dX0_body_305
      refine j_icmp_ge C dX0_body_21 44 rfl 24 rfl (fun c3 => ?_) (fun c3 => ?_)
      · rw [if_pos c3] at hR
        rw [pr2_mk bo bg] at hR
        exact j_lv [0, 1, 2, 3] [(0, .ref (a 0)), (1, .int 12), (2, .int x2), (3, .int x3)] rfl (J21 _ _ (by first | exact hr | exact RBa_s hr (by assumption)) hR)
      · rw [if_neg c3] at hR
        refine j_aload_n C dX0_body_24 25 rfl rfl 0 rfl ?_
        refine j_get C dX0_body_25 28 rfl hiX0 0 rfl rfl 0 (by decide) rfl kX0_body__b12_f11 rfl ?_
        refine j_aload_n C dX0_body_28 29 rfl rfl 0 rfl ?_
        refine j_get C dX0_body_29 32 rfl hiX0 0 rfl rfl 1 (by decide) rfl kX0_body__b12_f25 rfl ?_
        refine j_iload_n C dX0_body_32 33 rfl rfl 1 rfl ?_
        refine j_iast C dX0_body_33 34 rfl 1 rfl (RBa_in hr (by assumption)) (bg).toNatClampNeg rfl (wA τ a (upd bo (bg).toNatClampNeg 12) bg ak an aa ip) rfl ?_
        refine j_aload_n C dX0_body_34 35 rfl rfl 0 rfl ?_
        refine j_dup C dX0_body_35 36 rfl rfl ?_
        refine j_get C dX0_body_36 39 rfl hiX0 0 rfl rfl 1 (by decide) rfl kX0_body__b12_f25 rfl ?_
        refine j_iconst (v := 1) C dX0_body_39 40 rfl (by decide) ?_
        refine j_iadd C dX0_body_40 41 rfl ?_
        refine j_put C dX0_body_41 44 rfl hiX0 tyX0_ok nmX0 0 rfl rfl 1 (by decide) rfl kX0_body__b12_f25 rfl rfl rfl (Nat.le_of_ble_eq_true rfl) (wA τ a (upd bo (bg).toNatClampNeg 12) (bg + 1) ak an aa ip) rfl ?_
        rw [pr2_mk (upd bo (bg).toNatClampNeg 12) (bg + 1)] at hR
        exact j_lv [0, 1, 2, 3] [(0, .ref (a 0)), (1, .int 12), (2, .int x2), (3, .int x3)] rfl (J21 _ _ (by first | exact hr | exact RBa_s hr (by assumption)) hR)
    · rw [if_neg c2] at hR
      refine j_iconst (v := 0) C dX0_body_13 14 rfl (by decide) ?_
      exact Rt.ret (hR) rfl dX0_body_14

theorem rb_X0_body__b12 {bo : Nat → Int32} {bg : Int32} {an : Int32} {aa : Int32} {ip : Int32} {x2 : Int32} {x3 : Int32} (h : RBa bg) : RBa (f_X0_body__b12 bo bg an aa ip x2 x3).2.2.1 := by
  unfold f_X0_body__b12
  simp only [pr1, pr2, pr3, pr4]
  repeat' split
  all_goals with_reducible first | exact h | exact RBa_s h (by assumption)
theorem rc_X0_body__b12 {bo : Nat → Int32} {bg : Int32} {an : Int32} {aa : Int32} {ip : Int32} {x2 : Int32} {x3 : Int32} {r : Int32} {w_bo : Nat → Int32} {w_bg : Int32} {w_ip : Int32} (h : RBa bg) (e : f_X0_body__b12 bo bg an aa ip x2 x3 = (r, w_bo, w_bg, w_ip)) : RBa w_bg := by
  have q := rb_X0_body__b12 (bo := bo) (bg := bg) (an := an) (aa := aa) (ip := ip) (x2 := x2) (x3 := x3) h
  rw [e] at q
  exact q

-- X0_body
def f_X0_body__b50 (bo : Nat → Int32) (bg : Int32) (an : Int32) (aa : Int32) (ip : Int32) (x2 : Int32) (x3 : Int32) : Int32 × (Nat → Int32) × Int32 × Int32 := if (ip = 0) then (if (x3 ≤ 40) then (pr2 (if (30 ≤ bg) then (bo, bg) else ((upd bo (bg).toNatClampNeg 50), (bg + 1))) (fun j21_0 j21_1 => pr4 (f_X0_body__b12 j21_0 j21_1 an aa ip (x2 * 5) (x3 + 1)) (fun r4 bo_4 bg_4 ip_4 => ((r4 + an), bo_4, bg_4, ip_4)))) else ((0 : Int32), bo, bg, ip)) else ((0 : Int32), bo, bg, ip)
theorem kX0_body__b50_f28 : Cond.fieldLink RX0 28 "TwoMinutes$Actor" "isParted" "Z" ∈ wsX0_body := by decide +kernel
theorem kX0_body__b50_f25 : Cond.fieldLink RX0 25 "TwoMinutes$Actor" "begun" "I" ∈ wsX0_body := by decide +kernel
theorem kX0_body__b50_f11 : Cond.fieldLink RX0 11 "TwoMinutes$Actor" "bodies" "[I" ∈ wsX0_body := by decide +kernel
theorem kX0_body__b50_f19 : Cond.fieldLink RX0 19 "TwoMinutes$Actor" "n" "I" ∈ wsX0_body := by decide +kernel
theorem qd_X0_body__b50 : yX0_body.cls = RX0 ∧ yX0_body.cls ≠ "java/lang/invoke/MethodHandle" ∧ yX0_body.cls ≠ "java/lang/invoke/VarHandle" ∧ (parseMethodDescriptor yX0_body.desc).map (fun d => d.parameters.length) = some 3 := by decide +kernel
abbrev rmX0_body__b50 : Room := { frames := 2, cells := 0, slots := 0, locals := 45 }
set_option maxHeartbeats 4000000 in
set_option maxRecDepth 100000 in
theorem c_X0_body__b50 (τ : SX) (a : Nat → Nat) (bo : Nat → Int32) (bg : Int32) (ak : Int32) (an : Int32) (aa : Int32) (ip : Int32) (x2 : Int32) (x3 : Int32) (hr : RBa bg) (hk : ak = 0 ∨ ak = 1 ∨ ak = 2 ∨ ak = 3 ∨ ak = 4 ∨ ak = 5) (sz : Nat) : McI τ yX0_body wsX0_body rmX0_body__b50 .int [.ref (a 0), .int 50, .int x2, .int x3] (wA τ a bo bg ak an aa ip) (fun u : (Nat → Int32) × Int32 × Int32 => (wA τ a u.1 u.2.1 ak an aa u.2.2)) (f_X0_body__b50 bo bg an aa ip x2 x3) sz := by
  refine mc_I (cc := cX0_body) (own := RX0) [(0, .ref (a 0)), (1, .int 50), (2, .int x2), (3, .int x3)] rfl (by decide) rfl rfl (Nat.le_of_ble_eq_true rfl) (fun κ C hR => ?_)
  have hiX0 : ∀ w ∈ wsX00, w ∈ wsX0_body := fun w h => List.mem_cons_of_mem _ (List.mem_append_right _ h)
  unfold f_X0_body__b50 at hR
  refine j_aload_n C dX0_body_0 1 rfl rfl 0 rfl ?_
  refine j_get C dX0_body_1 4 rfl hiX0 0 rfl rfl 5 (by decide) rfl kX0_body__b50_f28 rfl ?_
  refine j_if_ne C dX0_body_4 13 rfl 7 rfl (fun c1 => ?_) (fun c1 => ?_)
  · rw [if_neg c1] at hR
    refine j_iconst (v := 0) C dX0_body_13 14 rfl (by decide) ?_
    exact Rt.ret (hR) rfl dX0_body_14
  · rw [if_pos c1] at hR
    refine j_iload_n C dX0_body_7 8 rfl rfl 3 rfl ?_
    refine j_bipush (v := 40) C dX0_body_8 10 rfl (by decide) ?_
    refine j_icmp_le C dX0_body_10 15 rfl 13 rfl (fun c2 => ?_) (fun c2 => ?_)
    · rw [if_pos c2] at hR
      refine j_aload_n C dX0_body_15 16 rfl rfl 0 rfl ?_
      refine j_get C dX0_body_16 19 rfl hiX0 0 rfl rfl 1 (by decide) rfl kX0_body__b50_f25 rfl ?_
      refine j_bipush (v := 30) C dX0_body_19 21 rfl (by decide) ?_
      have J21 : ∀ (j21_0 : Nat → Int32) (j21_1 : Int32), (RBa j21_1) → Rt τ κ cX0_body .int (fun u : (Nat → Int32) × Int32 × Int32 => (wA τ a u.1 u.2.1 ak an aa u.2.2)) (pr4 (f_X0_body__b12 j21_0 j21_1 an aa ip (x2 * 5) (x3 + 1)) (fun r4 bo_4 bg_4 ip_4 => ((r4 + an), bo_4, bg_4, ip_4))) → J τ κ 0 0 (wA τ a j21_0 j21_1 ak an aa ip) [(0, .ref (a 0)), (1, .int 50), (2, .int x2), (3, .int x3)] 44 [] := by
        intro j21_0 j21_1 hj hR
        refine j_iload_n C dX0_body_44 45 rfl rfl 1 rfl ?_
        refine j_tabIn C dX0_body_45 (by decide) (by decide) (by rfl) 401 rfl ?_
        refine j_aload_n C dX0_body_401 402 rfl rfl 0 rfl ?_
        refine j_bipush (v := 12) C dX0_body_402 404 rfl (by decide) ?_
        refine j_iload_n C dX0_body_404 405 rfl rfl 2 rfl ?_
        refine j_iconst (v := 5) C dX0_body_405 406 rfl (by decide) ?_
        refine j_imul C dX0_body_406 407 rfl ?_
        refine j_iload_n C dX0_body_407 408 rfl rfl 3 rfl ?_
        refine j_iconst (v := 1) C dX0_body_408 409 rfl (by decide) ?_
        refine j_iadd C dX0_body_409 410 rfl ?_
        refine j_cv0I (na := 3) C dX0_body_410 413 rfl (c_X0_body__b12 τ a j21_0 j21_1 ak an aa ip (x2 * 5) (x3 + 1) (by first | assumption | exact RBa0 | (unfold vp_in; decide) | decide) (by first | assumption | exact RBa0 | (unfold vp_in; decide) | decide)) gX0_body_X0_body rfl rfl rfl qd_X0_body__b12 rfl ⟨by decide, by decide⟩ ⟨by decide, by decide⟩ rfl (Nat.le_of_ble_eq_true rfl) rfl 0 0 rfl rfl (fun r4 u4 hX4 hn4 => ?_)
        obtain ⟨bo_4, bg_4, ip_4⟩ := u4
        rw [hX4] at hR; rw [pr4_mk r4 bo_4 bg_4 ip_4] at hR
        have hr4 : RBa bg_4 := rc_X0_body__b12 (by first | assumption | exact RBa0) hX4
        refine j_aload_n C dX0_body_413 414 rfl rfl 0 rfl ?_
        refine j_get C dX0_body_414 417 rfl hiX0 0 rfl rfl 3 (by decide) rfl kX0_body__b50_f19 rfl ?_
        refine j_iadd C dX0_body_417 418 rfl ?_
        exact Rt.ret (hR) rfl dX0_body_418
      refine j_icmp_ge C dX0_body_21 44 rfl 24 rfl (fun c3 => ?_) (fun c3 => ?_)
      · rw [if_pos c3] at hR
        rw [pr2_mk bo bg] at hR
        exact j_lv [0, 1, 2, 3] [(0, .ref (a 0)), (1, .int 50), (2, .int x2), (3, .int x3)] rfl (J21 _ _ (by first | exact hr | exact RBa_s hr (by assumption)) hR)
      · rw [if_neg c3] at hR
        refine j_aload_n C dX0_body_24 25 rfl rfl 0 rfl ?_
        refine j_get C dX0_body_25 28 rfl hiX0 0 rfl rfl 0 (by decide) rfl kX0_body__b50_f11 rfl ?_
        refine j_aload_n C dX0_body_28 29 rfl rfl 0 rfl ?_
        refine j_get C dX0_body_29 32 rfl hiX0 0 rfl rfl 1 (by decide) rfl kX0_body__b50_f25 rfl ?_
        refine j_iload_n C dX0_body_32 33 rfl rfl 1 rfl ?_
        refine j_iast C dX0_body_33 34 rfl 1 rfl (RBa_in hr (by assumption)) (bg).toNatClampNeg rfl (wA τ a (upd bo (bg).toNatClampNeg 50) bg ak an aa ip) rfl ?_
        refine j_aload_n C dX0_body_34 35 rfl rfl 0 rfl ?_
        refine j_dup C dX0_body_35 36 rfl rfl ?_
        refine j_get C dX0_body_36 39 rfl hiX0 0 rfl rfl 1 (by decide) rfl kX0_body__b50_f25 rfl ?_
        refine j_iconst (v := 1) C dX0_body_39 40 rfl (by decide) ?_
        refine j_iadd C dX0_body_40 41 rfl ?_
        refine j_put C dX0_body_41 44 rfl hiX0 tyX0_ok nmX0 0 rfl rfl 1 (by decide) rfl kX0_body__b50_f25 rfl rfl rfl (Nat.le_of_ble_eq_true rfl) (wA τ a (upd bo (bg).toNatClampNeg 50) (bg + 1) ak an aa ip) rfl ?_
        rw [pr2_mk (upd bo (bg).toNatClampNeg 50) (bg + 1)] at hR
        exact j_lv [0, 1, 2, 3] [(0, .ref (a 0)), (1, .int 50), (2, .int x2), (3, .int x3)] rfl (J21 _ _ (by first | exact hr | exact RBa_s hr (by assumption)) hR)
    · rw [if_neg c2] at hR
      refine j_iconst (v := 0) C dX0_body_13 14 rfl (by decide) ?_
      exact Rt.ret (hR) rfl dX0_body_14

theorem rb_X0_body__b50 {bo : Nat → Int32} {bg : Int32} {an : Int32} {aa : Int32} {ip : Int32} {x2 : Int32} {x3 : Int32} (h : RBa bg) : RBa (f_X0_body__b50 bo bg an aa ip x2 x3).2.2.1 := by
  unfold f_X0_body__b50
  simp only [pr1, pr2, pr3, pr4]
  repeat' split
  all_goals with_reducible first | exact h | exact rb_X0_body__b12 h | exact rb_X0_body__b12 (RBa_s h (by assumption)) | exact RBa_s h (by assumption)
theorem rc_X0_body__b50 {bo : Nat → Int32} {bg : Int32} {an : Int32} {aa : Int32} {ip : Int32} {x2 : Int32} {x3 : Int32} {r : Int32} {w_bo : Nat → Int32} {w_bg : Int32} {w_ip : Int32} (h : RBa bg) (e : f_X0_body__b50 bo bg an aa ip x2 x3 = (r, w_bo, w_bg, w_ip)) : RBa w_bg := by
  have q := rb_X0_body__b50 (bo := bo) (bg := bg) (an := an) (aa := aa) (ip := ip) (x2 := x2) (x3 := x3) h
  rw [e] at q
  exact q

-- X0_body
def f_X0_body__b61 (bo : Nat → Int32) (bg : Int32) (ak : Int32) (an : Int32) (aa : Int32) (ip : Int32) (x2 : Int32) (x3 : Int32) : Int32 × (Nat → Int32) × Int32 × Int32 := if (ip = 0) then (if (x3 ≤ 40) then (pr2 (if (30 ≤ bg) then (bo, bg) else ((upd bo (bg).toNatClampNeg 61), (bg + 1))) (fun j21_0 j21_1 => pr4 (f_X0_body__b12 j21_0 j21_1 an aa ip x2 (x3 + 1)) (fun r4 bo_4 bg_4 ip_4 => pr3 (f_X0_own__o0 bo_4 bg_4 ak an aa ip_4 an x3) (fun r5 bo_5 bg_5 => ((r4 * r5), bo_5, bg_5, ip_4))))) else ((0 : Int32), bo, bg, ip)) else ((0 : Int32), bo, bg, ip)
theorem kX0_body__b61_f28 : Cond.fieldLink RX0 28 "TwoMinutes$Actor" "isParted" "Z" ∈ wsX0_body := by decide +kernel
theorem kX0_body__b61_f25 : Cond.fieldLink RX0 25 "TwoMinutes$Actor" "begun" "I" ∈ wsX0_body := by decide +kernel
theorem kX0_body__b61_f11 : Cond.fieldLink RX0 11 "TwoMinutes$Actor" "bodies" "[I" ∈ wsX0_body := by decide +kernel
theorem kX0_body__b61_f19 : Cond.fieldLink RX0 19 "TwoMinutes$Actor" "n" "I" ∈ wsX0_body := by decide +kernel
theorem qd_X0_body__b61 : yX0_body.cls = RX0 ∧ yX0_body.cls ≠ "java/lang/invoke/MethodHandle" ∧ yX0_body.cls ≠ "java/lang/invoke/VarHandle" ∧ (parseMethodDescriptor yX0_body.desc).map (fun d => d.parameters.length) = some 3 := by decide +kernel
abbrev rmX0_body__b61 : Room := { frames := 4, cells := 0, slots := 0, locals := 93 }
set_option maxHeartbeats 4000000 in
set_option maxRecDepth 100000 in
theorem c_X0_body__b61 (τ : SX) (a : Nat → Nat) (bo : Nat → Int32) (bg : Int32) (ak : Int32) (an : Int32) (aa : Int32) (ip : Int32) (x2 : Int32) (x3 : Int32) (hr : RBa bg) (hk : ak = 0 ∨ ak = 1 ∨ ak = 2 ∨ ak = 3 ∨ ak = 4 ∨ ak = 5) (sz : Nat) : McI τ yX0_body wsX0_body rmX0_body__b61 .int [.ref (a 0), .int 61, .int x2, .int x3] (wA τ a bo bg ak an aa ip) (fun u : (Nat → Int32) × Int32 × Int32 => (wA τ a u.1 u.2.1 ak an aa u.2.2)) (f_X0_body__b61 bo bg ak an aa ip x2 x3) sz := by
  refine mc_I (cc := cX0_body) (own := RX0) [(0, .ref (a 0)), (1, .int 61), (2, .int x2), (3, .int x3)] rfl (by decide) rfl rfl (Nat.le_of_ble_eq_true rfl) (fun κ C hR => ?_)
  have hiX0 : ∀ w ∈ wsX00, w ∈ wsX0_body := fun w h => List.mem_cons_of_mem _ (List.mem_append_right _ h)
  unfold f_X0_body__b61 at hR
  refine j_aload_n C dX0_body_0 1 rfl rfl 0 rfl ?_
  refine j_get C dX0_body_1 4 rfl hiX0 0 rfl rfl 5 (by decide) rfl kX0_body__b61_f28 rfl ?_
  refine j_if_ne C dX0_body_4 13 rfl 7 rfl (fun c1 => ?_) (fun c1 => ?_)
  · rw [if_neg c1] at hR
    refine j_iconst (v := 0) C dX0_body_13 14 rfl (by decide) ?_
    exact Rt.ret (hR) rfl dX0_body_14
  · rw [if_pos c1] at hR
    refine j_iload_n C dX0_body_7 8 rfl rfl 3 rfl ?_
    refine j_bipush (v := 40) C dX0_body_8 10 rfl (by decide) ?_
    refine j_icmp_le C dX0_body_10 15 rfl 13 rfl (fun c2 => ?_) (fun c2 => ?_)
    · rw [if_pos c2] at hR
      refine j_aload_n C dX0_body_15 16 rfl rfl 0 rfl ?_
      refine j_get C dX0_body_16 19 rfl hiX0 0 rfl rfl 1 (by decide) rfl kX0_body__b61_f25 rfl ?_
      refine j_bipush (v := 30) C dX0_body_19 21 rfl (by decide) ?_
      have J21 : ∀ (j21_0 : Nat → Int32) (j21_1 : Int32), (RBa j21_1) → Rt τ κ cX0_body .int (fun u : (Nat → Int32) × Int32 × Int32 => (wA τ a u.1 u.2.1 ak an aa u.2.2)) (pr4 (f_X0_body__b12 j21_0 j21_1 an aa ip x2 (x3 + 1)) (fun r4 bo_4 bg_4 ip_4 => pr3 (f_X0_own__o0 bo_4 bg_4 ak an aa ip_4 an x3) (fun r5 bo_5 bg_5 => ((r4 * r5), bo_5, bg_5, ip_4)))) → J τ κ 0 0 (wA τ a j21_0 j21_1 ak an aa ip) [(0, .ref (a 0)), (1, .int 61), (2, .int x2), (3, .int x3)] 44 [] := by
        intro j21_0 j21_1 hj hR
        refine j_iload_n C dX0_body_44 45 rfl rfl 1 rfl ?_
        refine j_tabIn C dX0_body_45 (by decide) (by decide) (by rfl) 448 rfl ?_
        refine j_aload_n C dX0_body_448 449 rfl rfl 0 rfl ?_
        refine j_bipush (v := 12) C dX0_body_449 451 rfl (by decide) ?_
        refine j_iload_n C dX0_body_451 452 rfl rfl 2 rfl ?_
        refine j_iload_n C dX0_body_452 453 rfl rfl 3 rfl ?_
        refine j_iconst (v := 1) C dX0_body_453 454 rfl (by decide) ?_
        refine j_iadd C dX0_body_454 455 rfl ?_
        refine j_cv0I (na := 3) C dX0_body_455 458 rfl (c_X0_body__b12 τ a j21_0 j21_1 ak an aa ip x2 (x3 + 1) (by first | assumption | exact RBa0 | (unfold vp_in; decide) | decide) (by first | assumption | exact RBa0 | (unfold vp_in; decide) | decide)) gX0_body_X0_body rfl rfl rfl qd_X0_body__b12 rfl ⟨by decide, by decide⟩ ⟨by decide, by decide⟩ rfl (Nat.le_of_ble_eq_true rfl) rfl 0 0 rfl rfl (fun r4 u4 hX4 hn4 => ?_)
        obtain ⟨bo_4, bg_4, ip_4⟩ := u4
        rw [hX4] at hR; rw [pr4_mk r4 bo_4 bg_4 ip_4] at hR
        have hr4 : RBa bg_4 := rc_X0_body__b12 (by first | assumption | exact RBa0) hX4
        refine j_aload_n C dX0_body_458 459 rfl rfl 0 rfl ?_
        refine j_iconst (v := 0) C dX0_body_459 460 rfl (by decide) ?_
        refine j_aload_n C dX0_body_460 461 rfl rfl 0 rfl ?_
        refine j_get C dX0_body_461 464 rfl hiX0 0 rfl rfl 3 (by decide) rfl kX0_body__b61_f19 rfl ?_
        refine j_iload_n C dX0_body_464 465 rfl rfl 3 rfl ?_
        refine j_cv0I (na := 3) C dX0_body_465 468 rfl (c_X0_own__o0 τ a bo_4 bg_4 ak an aa ip_4 an x3 (by first | assumption | exact RBa0 | (unfold vp_in; decide) | decide) (by first | assumption | exact RBa0 | (unfold vp_in; decide) | decide)) gX0_body_X0_own rfl rfl rfl qd_X0_own__o0 rfl ⟨by decide, by decide⟩ ⟨by decide, by decide⟩ rfl (Nat.le_of_ble_eq_true rfl) rfl 0 0 rfl rfl (fun r5 u5 hX5 hn5 => ?_)
        obtain ⟨bo_5, bg_5⟩ := u5
        rw [hX5] at hR; rw [pr3_mk r5 bo_5 bg_5] at hR
        have hr5 : RBa bg_5 := rc_X0_own__o0 (by first | assumption | exact RBa0) hX5
        refine j_imul C dX0_body_468 469 rfl ?_
        exact Rt.ret (hR) rfl dX0_body_469
      refine j_icmp_ge C dX0_body_21 44 rfl 24 rfl (fun c3 => ?_) (fun c3 => ?_)
      · rw [if_pos c3] at hR
        rw [pr2_mk bo bg] at hR
        exact j_lv [0, 1, 2, 3] [(0, .ref (a 0)), (1, .int 61), (2, .int x2), (3, .int x3)] rfl (J21 _ _ (by first | exact hr | exact RBa_s hr (by assumption)) hR)
      · rw [if_neg c3] at hR
        refine j_aload_n C dX0_body_24 25 rfl rfl 0 rfl ?_
        refine j_get C dX0_body_25 28 rfl hiX0 0 rfl rfl 0 (by decide) rfl kX0_body__b61_f11 rfl ?_
        refine j_aload_n C dX0_body_28 29 rfl rfl 0 rfl ?_
        refine j_get C dX0_body_29 32 rfl hiX0 0 rfl rfl 1 (by decide) rfl kX0_body__b61_f25 rfl ?_
        refine j_iload_n C dX0_body_32 33 rfl rfl 1 rfl ?_
        refine j_iast C dX0_body_33 34 rfl 1 rfl (RBa_in hr (by assumption)) (bg).toNatClampNeg rfl (wA τ a (upd bo (bg).toNatClampNeg 61) bg ak an aa ip) rfl ?_
        refine j_aload_n C dX0_body_34 35 rfl rfl 0 rfl ?_
        refine j_dup C dX0_body_35 36 rfl rfl ?_
        refine j_get C dX0_body_36 39 rfl hiX0 0 rfl rfl 1 (by decide) rfl kX0_body__b61_f25 rfl ?_
        refine j_iconst (v := 1) C dX0_body_39 40 rfl (by decide) ?_
        refine j_iadd C dX0_body_40 41 rfl ?_
        refine j_put C dX0_body_41 44 rfl hiX0 tyX0_ok nmX0 0 rfl rfl 1 (by decide) rfl kX0_body__b61_f25 rfl rfl rfl (Nat.le_of_ble_eq_true rfl) (wA τ a (upd bo (bg).toNatClampNeg 61) (bg + 1) ak an aa ip) rfl ?_
        rw [pr2_mk (upd bo (bg).toNatClampNeg 61) (bg + 1)] at hR
        exact j_lv [0, 1, 2, 3] [(0, .ref (a 0)), (1, .int 61), (2, .int x2), (3, .int x3)] rfl (J21 _ _ (by first | exact hr | exact RBa_s hr (by assumption)) hR)
    · rw [if_neg c2] at hR
      refine j_iconst (v := 0) C dX0_body_13 14 rfl (by decide) ?_
      exact Rt.ret (hR) rfl dX0_body_14

theorem rb_X0_body__b61 {bo : Nat → Int32} {bg : Int32} {ak : Int32} {an : Int32} {aa : Int32} {ip : Int32} {x2 : Int32} {x3 : Int32} (h : RBa bg) : RBa (f_X0_body__b61 bo bg ak an aa ip x2 x3).2.2.1 := by
  unfold f_X0_body__b61
  simp only [pr1, pr2, pr3, pr4]
  repeat' split
  all_goals with_reducible first | exact h | exact rb_X0_own__o0 (rb_X0_body__b12 h) | exact rb_X0_own__o0 (rb_X0_body__b12 (RBa_s h (by assumption))) | exact RBa_s h (by assumption)
theorem rc_X0_body__b61 {bo : Nat → Int32} {bg : Int32} {ak : Int32} {an : Int32} {aa : Int32} {ip : Int32} {x2 : Int32} {x3 : Int32} {r : Int32} {w_bo : Nat → Int32} {w_bg : Int32} {w_ip : Int32} (h : RBa bg) (e : f_X0_body__b61 bo bg ak an aa ip x2 x3 = (r, w_bo, w_bg, w_ip)) : RBa w_bg := by
  have q := rb_X0_body__b61 (bo := bo) (bg := bg) (ak := ak) (an := an) (aa := aa) (ip := ip) (x2 := x2) (x3 := x3) h
  rw [e] at q
  exact q

-- X0_own
def f_X0_own__o2 (bo : Nat → Int32) (bg : Int32) (ak : Int32) (an : Int32) (aa : Int32) (ip : Int32) (x2 : Int32) (x3 : Int32) : Int32 × (Nat → Int32) × Int32 × Int32 := (if ak = 0 then (if ((f_X5_isIn (2 : Int32) (0 : Int32) (23 : Int32)) = 0) then ((0 : Int32), bo, bg, ip) else (pr4 (f_X0_body__b12 bo bg an aa ip x2 (x3 + 1)) (fun r3 bo_3 bg_3 ip_3 => (r3, bo_3, bg_3, ip_3)))) else (if ak = 1 then (if ((f_X5_isIn (6 : Int32) (0 : Int32) (23 : Int32)) = 0) then ((0 : Int32), bo, bg, ip) else (pr4 (f_X0_body__b12 bo bg an aa ip x2 (x3 + 1)) (fun r6 bo_6 bg_6 ip_6 => (r6, bo_6, bg_6, ip_6)))) else (if ak = 2 then (if ((f_X5_isIn (10 : Int32) (0 : Int32) (23 : Int32)) = 0) then ((0 : Int32), bo, bg, ip) else (pr4 (f_X0_body__b12 bo bg an aa ip x2 (x3 + 1)) (fun r9 bo_9 bg_9 ip_9 => (r9, bo_9, bg_9, ip_9)))) else (if ak = 3 then (if ((f_X5_isIn (14 : Int32) (0 : Int32) (23 : Int32)) = 0) then ((0 : Int32), bo, bg, ip) else (pr4 (f_X0_body__b50 bo bg an aa ip x2 (x3 + 1)) (fun r12 bo_12 bg_12 ip_12 => (r12, bo_12, bg_12, ip_12)))) else (if ak = 4 then (if ((f_X5_isIn (18 : Int32) (0 : Int32) (23 : Int32)) = 0) then ((0 : Int32), bo, bg, ip) else (pr4 (f_X0_body__b12 bo bg an aa ip x2 (x3 + 1)) (fun r15 bo_15 bg_15 ip_15 => (r15, bo_15, bg_15, ip_15)))) else (if ((f_X5_isIn (22 : Int32) (0 : Int32) (23 : Int32)) = 0) then ((0 : Int32), bo, bg, ip) else (pr4 (f_X0_body__b61 bo bg (5 : Int32) an aa ip x2 (x3 + 1)) (fun r18 bo_18 bg_18 ip_18 => (r18, bo_18, bg_18, ip_18)))))))))
theorem kX0_own__o2_f15 : Cond.fieldLink RX0 15 "TwoMinutes$Actor" "kind" "I" ∈ wsX0_own := by decide +kernel
theorem kX0_own__o2_f36 : Cond.fieldLink RX0 36 "TwoMinutes$Actor" "BODY_OF" "[I" ∈ wsX0_own := by decide +kernel
theorem kX0_own__o2_iRX5 : Cond.initialized yX5_isIn.cls ∈ wsX0_own := by decide +kernel
theorem kX0_own__o2_sX5_isIn : Cond.static yX5_isIn ∈ wsX0_own := by decide +kernel
theorem qd_X0_own__o2 : yX0_own.cls = RX0 ∧ yX0_own.cls ≠ "java/lang/invoke/MethodHandle" ∧ yX0_own.cls ≠ "java/lang/invoke/VarHandle" ∧ (parseMethodDescriptor yX0_own.desc).map (fun d => d.parameters.length) = some 3 := by decide +kernel
abbrev rmX0_own__o2 : Room := { frames := 5, cells := 0, slots := 0, locals := 116 }
set_option maxHeartbeats 4000000 in
set_option maxRecDepth 100000 in
theorem c_X0_own__o2 (τ : SX) (a : Nat → Nat) (bo : Nat → Int32) (bg : Int32) (ak : Int32) (an : Int32) (aa : Int32) (ip : Int32) (x2 : Int32) (x3 : Int32) (hr : RBa bg) (hk : ak = 0 ∨ ak = 1 ∨ ak = 2 ∨ ak = 3 ∨ ak = 4 ∨ ak = 5) (sz : Nat) : McI τ yX0_own wsX0_own rmX0_own__o2 .int [.ref (a 0), .int 2, .int x2, .int x3] (wA τ a bo bg ak an aa ip) (fun u : (Nat → Int32) × Int32 × Int32 => (wA τ a u.1 u.2.1 ak an aa u.2.2)) (f_X0_own__o2 bo bg ak an aa ip x2 x3) sz := by
  refine mc_I (cc := cX0_own) (own := RX0) [(0, .ref (a 0)), (1, .int 2), (2, .int x2), (3, .int x3)] rfl (by decide) rfl rfl (Nat.le_of_ble_eq_true rfl) (fun κ C hR => ?_)
  have hiX0 : ∀ w ∈ wsX00, w ∈ wsX0_own := fun w h => List.mem_cons_of_mem _ (List.mem_append_right _ h)
  unfold f_X0_own__o2 at hR
  rcases hk with rfl | rfl | rfl | rfl | rfl | rfl
  · rw [if_pos rfl] at hR
    refine j_aload_n C dX0_own_0 1 rfl rfl 0 rfl ?_
    refine j_get C dX0_own_1 4 rfl hiX0 0 rfl rfl 2 (by decide) rfl kX0_own__o2_f15 rfl ?_
    refine j_iconst (v := 4) C dX0_own_4 5 rfl (by decide) ?_
    refine j_imul C dX0_own_5 6 rfl ?_
    refine j_vi (v := 0) (by decide) ?_
    refine j_iload_n C dX0_own_6 7 rfl rfl 1 rfl ?_
    refine j_iadd C dX0_own_7 8 rfl ?_
    refine j_vi (v := 2) (by decide) ?_
    refine j_istore C dX0_own_8 10 rfl (by decide) [(4, .int 2), (0, .ref (a 0)), (1, .int 2), (2, .int x2), (3, .int x3)] rfl ?_
    refine j_iload C dX0_own_10 12 rfl 0 rfl ?_
    refine j_iconst (v := 0) C dX0_own_12 13 rfl (by decide) ?_
    refine j_gets C dX0_own_13 16 rfl 4 rfl rfl rfl rfl kX0_own__o2_f36 ?_
    refine j_slen (v := 24) C dX0_own_16 17 rfl 4 rfl (by decide) ?_
    refine j_iconst (v := 1) C dX0_own_17 18 rfl (by decide) ?_
    refine j_isub C dX0_own_18 19 rfl ?_
    refine j_vi (v := 23) (by decide) ?_
    refine j_csN (na := 3) C dX0_own_19 22 rfl (c_X5_isIn τ  (2 : Int32) (0 : Int32) (23 : Int32) ) rfl ggX0_own_X5_isIn rfl rfl rfl kX0_own__o2_iRX5 (host := RX5) (by decide +kernel) kX0_own__o2_sX5_isIn qd_X5_isIn rfl ⟨by decide, by decide⟩ ⟨by decide, by decide⟩ rfl (Nat.le_of_ble_eq_true rfl) (fun r1 u1 hX1 hn1 => ?_)
    obtain rfl := (Prod.mk.inj hX1).1
    refine j_if_eq C dX0_own_22 42 rfl 25 rfl (fun c2 => ?_) (fun c2 => ?_)
    · rw [if_pos c2] at hR
      refine j_iconst (v := 0) C dX0_own_42 43 rfl (by decide) ?_
      exact Rt.ret (hR) rfl dX0_own_43
    · rw [if_neg c2] at hR
      refine j_aload_n C dX0_own_25 26 rfl rfl 1 rfl ?_
      refine j_gets C dX0_own_26 29 rfl 4 rfl rfl rfl rfl kX0_own__o2_f36 ?_
      refine j_iload C dX0_own_29 31 rfl 0 rfl ?_
      refine j_sald C dX0_own_31 32 rfl 4 rfl (by unfold vp_in; decide) 2 rfl ?_
      refine j_vi (v := 12) (by decide) ?_
      refine j_iload_n C dX0_own_32 33 rfl rfl 3 rfl ?_
      refine j_iload_n C dX0_own_33 34 rfl rfl 4 rfl ?_
      refine j_iconst (v := 1) C dX0_own_34 35 rfl (by decide) ?_
      refine j_iadd C dX0_own_35 36 rfl ?_
      refine j_cv0I (na := 3) C dX0_own_36 39 rfl (c_X0_body__b12 τ a bo bg 0 an aa ip x2 (x3 + 1) (by first | assumption | exact RBa0 | (unfold vp_in; decide) | decide) (by first | assumption | exact RBa0 | (unfold vp_in; decide) | decide)) gX0_own_X0_body rfl rfl rfl qd_X0_body__b12 rfl ⟨by decide, by decide⟩ ⟨by decide, by decide⟩ rfl (Nat.le_of_ble_eq_true rfl) rfl 0 0 rfl rfl (fun r3 u3 hX3 hn3 => ?_)
      obtain ⟨bo_3, bg_3, ip_3⟩ := u3
      rw [hX3] at hR; rw [pr4_mk r3 bo_3 bg_3 ip_3] at hR
      have hr3 : RBa bg_3 := rc_X0_body__b12 (by first | assumption | exact RBa0) hX3
      refine j_goto C dX0_own_39 43 rfl ?_
      exact Rt.ret (hR) rfl dX0_own_43
  · rw [if_neg (by decide), if_pos rfl] at hR
    refine j_aload_n C dX0_own_0 1 rfl rfl 0 rfl ?_
    refine j_get C dX0_own_1 4 rfl hiX0 0 rfl rfl 2 (by decide) rfl kX0_own__o2_f15 rfl ?_
    refine j_iconst (v := 4) C dX0_own_4 5 rfl (by decide) ?_
    refine j_imul C dX0_own_5 6 rfl ?_
    refine j_vi (v := 4) (by decide) ?_
    refine j_iload_n C dX0_own_6 7 rfl rfl 1 rfl ?_
    refine j_iadd C dX0_own_7 8 rfl ?_
    refine j_vi (v := 6) (by decide) ?_
    refine j_istore C dX0_own_8 10 rfl (by decide) [(4, .int 6), (0, .ref (a 0)), (1, .int 2), (2, .int x2), (3, .int x3)] rfl ?_
    refine j_iload C dX0_own_10 12 rfl 0 rfl ?_
    refine j_iconst (v := 0) C dX0_own_12 13 rfl (by decide) ?_
    refine j_gets C dX0_own_13 16 rfl 4 rfl rfl rfl rfl kX0_own__o2_f36 ?_
    refine j_slen (v := 24) C dX0_own_16 17 rfl 4 rfl (by decide) ?_
    refine j_iconst (v := 1) C dX0_own_17 18 rfl (by decide) ?_
    refine j_isub C dX0_own_18 19 rfl ?_
    refine j_vi (v := 23) (by decide) ?_
    refine j_csN (na := 3) C dX0_own_19 22 rfl (c_X5_isIn τ  (6 : Int32) (0 : Int32) (23 : Int32) ) rfl ggX0_own_X5_isIn rfl rfl rfl kX0_own__o2_iRX5 (host := RX5) (by decide +kernel) kX0_own__o2_sX5_isIn qd_X5_isIn rfl ⟨by decide, by decide⟩ ⟨by decide, by decide⟩ rfl (Nat.le_of_ble_eq_true rfl) (fun r4 u4 hX4 hn4 => ?_)
    obtain rfl := (Prod.mk.inj hX4).1
    refine j_if_eq C dX0_own_22 42 rfl 25 rfl (fun c5 => ?_) (fun c5 => ?_)
    · rw [if_pos c5] at hR
      refine j_iconst (v := 0) C dX0_own_42 43 rfl (by decide) ?_
      exact Rt.ret (hR) rfl dX0_own_43
    · rw [if_neg c5] at hR
      refine j_aload_n C dX0_own_25 26 rfl rfl 1 rfl ?_
      refine j_gets C dX0_own_26 29 rfl 4 rfl rfl rfl rfl kX0_own__o2_f36 ?_
      refine j_iload C dX0_own_29 31 rfl 0 rfl ?_
      refine j_sald C dX0_own_31 32 rfl 4 rfl (by unfold vp_in; decide) 6 rfl ?_
      refine j_vi (v := 12) (by decide) ?_
      refine j_iload_n C dX0_own_32 33 rfl rfl 3 rfl ?_
      refine j_iload_n C dX0_own_33 34 rfl rfl 4 rfl ?_
      refine j_iconst (v := 1) C dX0_own_34 35 rfl (by decide) ?_
      refine j_iadd C dX0_own_35 36 rfl ?_
      refine j_cv0I (na := 3) C dX0_own_36 39 rfl (c_X0_body__b12 τ a bo bg 1 an aa ip x2 (x3 + 1) (by first | assumption | exact RBa0 | (unfold vp_in; decide) | decide) (by first | assumption | exact RBa0 | (unfold vp_in; decide) | decide)) gX0_own_X0_body rfl rfl rfl qd_X0_body__b12 rfl ⟨by decide, by decide⟩ ⟨by decide, by decide⟩ rfl (Nat.le_of_ble_eq_true rfl) rfl 0 0 rfl rfl (fun r6 u6 hX6 hn6 => ?_)
      obtain ⟨bo_6, bg_6, ip_6⟩ := u6
      rw [hX6] at hR; rw [pr4_mk r6 bo_6 bg_6 ip_6] at hR
      have hr6 : RBa bg_6 := rc_X0_body__b12 (by first | assumption | exact RBa0) hX6
      refine j_goto C dX0_own_39 43 rfl ?_
      exact Rt.ret (hR) rfl dX0_own_43
  · rw [if_neg (by decide), if_neg (by decide), if_pos rfl] at hR
    refine j_aload_n C dX0_own_0 1 rfl rfl 0 rfl ?_
    refine j_get C dX0_own_1 4 rfl hiX0 0 rfl rfl 2 (by decide) rfl kX0_own__o2_f15 rfl ?_
    refine j_iconst (v := 4) C dX0_own_4 5 rfl (by decide) ?_
    refine j_imul C dX0_own_5 6 rfl ?_
    refine j_vi (v := 8) (by decide) ?_
    refine j_iload_n C dX0_own_6 7 rfl rfl 1 rfl ?_
    refine j_iadd C dX0_own_7 8 rfl ?_
    refine j_vi (v := 10) (by decide) ?_
    refine j_istore C dX0_own_8 10 rfl (by decide) [(4, .int 10), (0, .ref (a 0)), (1, .int 2), (2, .int x2), (3, .int x3)] rfl ?_
    refine j_iload C dX0_own_10 12 rfl 0 rfl ?_
    refine j_iconst (v := 0) C dX0_own_12 13 rfl (by decide) ?_
    refine j_gets C dX0_own_13 16 rfl 4 rfl rfl rfl rfl kX0_own__o2_f36 ?_
    refine j_slen (v := 24) C dX0_own_16 17 rfl 4 rfl (by decide) ?_
    refine j_iconst (v := 1) C dX0_own_17 18 rfl (by decide) ?_
    refine j_isub C dX0_own_18 19 rfl ?_
    refine j_vi (v := 23) (by decide) ?_
    refine j_csN (na := 3) C dX0_own_19 22 rfl (c_X5_isIn τ  (10 : Int32) (0 : Int32) (23 : Int32) ) rfl ggX0_own_X5_isIn rfl rfl rfl kX0_own__o2_iRX5 (host := RX5) (by decide +kernel) kX0_own__o2_sX5_isIn qd_X5_isIn rfl ⟨by decide, by decide⟩ ⟨by decide, by decide⟩ rfl (Nat.le_of_ble_eq_true rfl) (fun r7 u7 hX7 hn7 => ?_)
    obtain rfl := (Prod.mk.inj hX7).1
    refine j_if_eq C dX0_own_22 42 rfl 25 rfl (fun c8 => ?_) (fun c8 => ?_)
    · rw [if_pos c8] at hR
      refine j_iconst (v := 0) C dX0_own_42 43 rfl (by decide) ?_
      exact Rt.ret (hR) rfl dX0_own_43
    · rw [if_neg c8] at hR
      refine j_aload_n C dX0_own_25 26 rfl rfl 1 rfl ?_
      refine j_gets C dX0_own_26 29 rfl 4 rfl rfl rfl rfl kX0_own__o2_f36 ?_
      refine j_iload C dX0_own_29 31 rfl 0 rfl ?_
      refine j_sald C dX0_own_31 32 rfl 4 rfl (by unfold vp_in; decide) 10 rfl ?_
      refine j_vi (v := 12) (by decide) ?_
      refine j_iload_n C dX0_own_32 33 rfl rfl 3 rfl ?_
      refine j_iload_n C dX0_own_33 34 rfl rfl 4 rfl ?_
      refine j_iconst (v := 1) C dX0_own_34 35 rfl (by decide) ?_
      refine j_iadd C dX0_own_35 36 rfl ?_
      refine j_cv0I (na := 3) C dX0_own_36 39 rfl (c_X0_body__b12 τ a bo bg 2 an aa ip x2 (x3 + 1) (by first | assumption | exact RBa0 | (unfold vp_in; decide) | decide) (by first | assumption | exact RBa0 | (unfold vp_in; decide) | decide)) gX0_own_X0_body rfl rfl rfl qd_X0_body__b12 rfl ⟨by decide, by decide⟩ ⟨by decide, by decide⟩ rfl (Nat.le_of_ble_eq_true rfl) rfl 0 0 rfl rfl (fun r9 u9 hX9 hn9 => ?_)
      obtain ⟨bo_9, bg_9, ip_9⟩ := u9
      rw [hX9] at hR; rw [pr4_mk r9 bo_9 bg_9 ip_9] at hR
      have hr9 : RBa bg_9 := rc_X0_body__b12 (by first | assumption | exact RBa0) hX9
      refine j_goto C dX0_own_39 43 rfl ?_
      exact Rt.ret (hR) rfl dX0_own_43
  · rw [if_neg (by decide), if_neg (by decide), if_neg (by decide), if_pos rfl] at hR
    refine j_aload_n C dX0_own_0 1 rfl rfl 0 rfl ?_
    refine j_get C dX0_own_1 4 rfl hiX0 0 rfl rfl 2 (by decide) rfl kX0_own__o2_f15 rfl ?_
    refine j_iconst (v := 4) C dX0_own_4 5 rfl (by decide) ?_
    refine j_imul C dX0_own_5 6 rfl ?_
    refine j_vi (v := 12) (by decide) ?_
    refine j_iload_n C dX0_own_6 7 rfl rfl 1 rfl ?_
    refine j_iadd C dX0_own_7 8 rfl ?_
    refine j_vi (v := 14) (by decide) ?_
    refine j_istore C dX0_own_8 10 rfl (by decide) [(4, .int 14), (0, .ref (a 0)), (1, .int 2), (2, .int x2), (3, .int x3)] rfl ?_
    refine j_iload C dX0_own_10 12 rfl 0 rfl ?_
    refine j_iconst (v := 0) C dX0_own_12 13 rfl (by decide) ?_
    refine j_gets C dX0_own_13 16 rfl 4 rfl rfl rfl rfl kX0_own__o2_f36 ?_
    refine j_slen (v := 24) C dX0_own_16 17 rfl 4 rfl (by decide) ?_
    refine j_iconst (v := 1) C dX0_own_17 18 rfl (by decide) ?_
    refine j_isub C dX0_own_18 19 rfl ?_
    refine j_vi (v := 23) (by decide) ?_
    refine j_csN (na := 3) C dX0_own_19 22 rfl (c_X5_isIn τ  (14 : Int32) (0 : Int32) (23 : Int32) ) rfl ggX0_own_X5_isIn rfl rfl rfl kX0_own__o2_iRX5 (host := RX5) (by decide +kernel) kX0_own__o2_sX5_isIn qd_X5_isIn rfl ⟨by decide, by decide⟩ ⟨by decide, by decide⟩ rfl (Nat.le_of_ble_eq_true rfl) (fun r10 u10 hX10 hn10 => ?_)
    obtain rfl := (Prod.mk.inj hX10).1
    refine j_if_eq C dX0_own_22 42 rfl 25 rfl (fun c11 => ?_) (fun c11 => ?_)
    · rw [if_pos c11] at hR
      refine j_iconst (v := 0) C dX0_own_42 43 rfl (by decide) ?_
      exact Rt.ret (hR) rfl dX0_own_43
    · rw [if_neg c11] at hR
      refine j_aload_n C dX0_own_25 26 rfl rfl 1 rfl ?_
      refine j_gets C dX0_own_26 29 rfl 4 rfl rfl rfl rfl kX0_own__o2_f36 ?_
      refine j_iload C dX0_own_29 31 rfl 0 rfl ?_
      refine j_sald C dX0_own_31 32 rfl 4 rfl (by unfold vp_in; decide) 14 rfl ?_
      refine j_vi (v := 50) (by decide) ?_
      refine j_iload_n C dX0_own_32 33 rfl rfl 3 rfl ?_
      refine j_iload_n C dX0_own_33 34 rfl rfl 4 rfl ?_
      refine j_iconst (v := 1) C dX0_own_34 35 rfl (by decide) ?_
      refine j_iadd C dX0_own_35 36 rfl ?_
      refine j_cv0I (na := 3) C dX0_own_36 39 rfl (c_X0_body__b50 τ a bo bg 3 an aa ip x2 (x3 + 1) (by first | assumption | exact RBa0 | (unfold vp_in; decide) | decide) (by first | assumption | exact RBa0 | (unfold vp_in; decide) | decide)) gX0_own_X0_body rfl rfl rfl qd_X0_body__b50 rfl ⟨by decide, by decide⟩ ⟨by decide, by decide⟩ rfl (Nat.le_of_ble_eq_true rfl) rfl 0 0 rfl rfl (fun r12 u12 hX12 hn12 => ?_)
      obtain ⟨bo_12, bg_12, ip_12⟩ := u12
      rw [hX12] at hR; rw [pr4_mk r12 bo_12 bg_12 ip_12] at hR
      have hr12 : RBa bg_12 := rc_X0_body__b50 (by first | assumption | exact RBa0) hX12
      refine j_goto C dX0_own_39 43 rfl ?_
      exact Rt.ret (hR) rfl dX0_own_43
  · rw [if_neg (by decide), if_neg (by decide), if_neg (by decide), if_neg (by decide), if_pos rfl] at hR
    refine j_aload_n C dX0_own_0 1 rfl rfl 0 rfl ?_
    refine j_get C dX0_own_1 4 rfl hiX0 0 rfl rfl 2 (by decide) rfl kX0_own__o2_f15 rfl ?_
    refine j_iconst (v := 4) C dX0_own_4 5 rfl (by decide) ?_
    refine j_imul C dX0_own_5 6 rfl ?_
    refine j_vi (v := 16) (by decide) ?_
    refine j_iload_n C dX0_own_6 7 rfl rfl 1 rfl ?_
    refine j_iadd C dX0_own_7 8 rfl ?_
    refine j_vi (v := 18) (by decide) ?_
    refine j_istore C dX0_own_8 10 rfl (by decide) [(4, .int 18), (0, .ref (a 0)), (1, .int 2), (2, .int x2), (3, .int x3)] rfl ?_
    refine j_iload C dX0_own_10 12 rfl 0 rfl ?_
    refine j_iconst (v := 0) C dX0_own_12 13 rfl (by decide) ?_
    refine j_gets C dX0_own_13 16 rfl 4 rfl rfl rfl rfl kX0_own__o2_f36 ?_
    refine j_slen (v := 24) C dX0_own_16 17 rfl 4 rfl (by decide) ?_
    refine j_iconst (v := 1) C dX0_own_17 18 rfl (by decide) ?_
    refine j_isub C dX0_own_18 19 rfl ?_
    refine j_vi (v := 23) (by decide) ?_
    refine j_csN (na := 3) C dX0_own_19 22 rfl (c_X5_isIn τ  (18 : Int32) (0 : Int32) (23 : Int32) ) rfl ggX0_own_X5_isIn rfl rfl rfl kX0_own__o2_iRX5 (host := RX5) (by decide +kernel) kX0_own__o2_sX5_isIn qd_X5_isIn rfl ⟨by decide, by decide⟩ ⟨by decide, by decide⟩ rfl (Nat.le_of_ble_eq_true rfl) (fun r13 u13 hX13 hn13 => ?_)
    obtain rfl := (Prod.mk.inj hX13).1
    refine j_if_eq C dX0_own_22 42 rfl 25 rfl (fun c14 => ?_) (fun c14 => ?_)
    · rw [if_pos c14] at hR
      refine j_iconst (v := 0) C dX0_own_42 43 rfl (by decide) ?_
      exact Rt.ret (hR) rfl dX0_own_43
    · rw [if_neg c14] at hR
      refine j_aload_n C dX0_own_25 26 rfl rfl 1 rfl ?_
      refine j_gets C dX0_own_26 29 rfl 4 rfl rfl rfl rfl kX0_own__o2_f36 ?_
      refine j_iload C dX0_own_29 31 rfl 0 rfl ?_
      refine j_sald C dX0_own_31 32 rfl 4 rfl (by unfold vp_in; decide) 18 rfl ?_
      refine j_vi (v := 12) (by decide) ?_
      refine j_iload_n C dX0_own_32 33 rfl rfl 3 rfl ?_
      refine j_iload_n C dX0_own_33 34 rfl rfl 4 rfl ?_
      refine j_iconst (v := 1) C dX0_own_34 35 rfl (by decide) ?_
      refine j_iadd C dX0_own_35 36 rfl ?_
      refine j_cv0I (na := 3) C dX0_own_36 39 rfl (c_X0_body__b12 τ a bo bg 4 an aa ip x2 (x3 + 1) (by first | assumption | exact RBa0 | (unfold vp_in; decide) | decide) (by first | assumption | exact RBa0 | (unfold vp_in; decide) | decide)) gX0_own_X0_body rfl rfl rfl qd_X0_body__b12 rfl ⟨by decide, by decide⟩ ⟨by decide, by decide⟩ rfl (Nat.le_of_ble_eq_true rfl) rfl 0 0 rfl rfl (fun r15 u15 hX15 hn15 => ?_)
      obtain ⟨bo_15, bg_15, ip_15⟩ := u15
      rw [hX15] at hR; rw [pr4_mk r15 bo_15 bg_15 ip_15] at hR
      have hr15 : RBa bg_15 := rc_X0_body__b12 (by first | assumption | exact RBa0) hX15
      refine j_goto C dX0_own_39 43 rfl ?_
      exact Rt.ret (hR) rfl dX0_own_43
  · rw [if_neg (by decide), if_neg (by decide), if_neg (by decide), if_neg (by decide), if_neg (by decide)] at hR
    refine j_aload_n C dX0_own_0 1 rfl rfl 0 rfl ?_
    refine j_get C dX0_own_1 4 rfl hiX0 0 rfl rfl 2 (by decide) rfl kX0_own__o2_f15 rfl ?_
    refine j_iconst (v := 4) C dX0_own_4 5 rfl (by decide) ?_
    refine j_imul C dX0_own_5 6 rfl ?_
    refine j_vi (v := 20) (by decide) ?_
    refine j_iload_n C dX0_own_6 7 rfl rfl 1 rfl ?_
    refine j_iadd C dX0_own_7 8 rfl ?_
    refine j_vi (v := 22) (by decide) ?_
    refine j_istore C dX0_own_8 10 rfl (by decide) [(4, .int 22), (0, .ref (a 0)), (1, .int 2), (2, .int x2), (3, .int x3)] rfl ?_
    refine j_iload C dX0_own_10 12 rfl 0 rfl ?_
    refine j_iconst (v := 0) C dX0_own_12 13 rfl (by decide) ?_
    refine j_gets C dX0_own_13 16 rfl 4 rfl rfl rfl rfl kX0_own__o2_f36 ?_
    refine j_slen (v := 24) C dX0_own_16 17 rfl 4 rfl (by decide) ?_
    refine j_iconst (v := 1) C dX0_own_17 18 rfl (by decide) ?_
    refine j_isub C dX0_own_18 19 rfl ?_
    refine j_vi (v := 23) (by decide) ?_
    refine j_csN (na := 3) C dX0_own_19 22 rfl (c_X5_isIn τ  (22 : Int32) (0 : Int32) (23 : Int32) ) rfl ggX0_own_X5_isIn rfl rfl rfl kX0_own__o2_iRX5 (host := RX5) (by decide +kernel) kX0_own__o2_sX5_isIn qd_X5_isIn rfl ⟨by decide, by decide⟩ ⟨by decide, by decide⟩ rfl (Nat.le_of_ble_eq_true rfl) (fun r16 u16 hX16 hn16 => ?_)
    obtain rfl := (Prod.mk.inj hX16).1
    refine j_if_eq C dX0_own_22 42 rfl 25 rfl (fun c17 => ?_) (fun c17 => ?_)
    · rw [if_pos c17] at hR
      refine j_iconst (v := 0) C dX0_own_42 43 rfl (by decide) ?_
      exact Rt.ret (hR) rfl dX0_own_43
    · rw [if_neg c17] at hR
      refine j_aload_n C dX0_own_25 26 rfl rfl 1 rfl ?_
      refine j_gets C dX0_own_26 29 rfl 4 rfl rfl rfl rfl kX0_own__o2_f36 ?_
      refine j_iload C dX0_own_29 31 rfl 0 rfl ?_
      refine j_sald C dX0_own_31 32 rfl 4 rfl (by unfold vp_in; decide) 22 rfl ?_
      refine j_vi (v := 61) (by decide) ?_
      refine j_iload_n C dX0_own_32 33 rfl rfl 3 rfl ?_
      refine j_iload_n C dX0_own_33 34 rfl rfl 4 rfl ?_
      refine j_iconst (v := 1) C dX0_own_34 35 rfl (by decide) ?_
      refine j_iadd C dX0_own_35 36 rfl ?_
      refine j_cv0I (na := 3) C dX0_own_36 39 rfl (c_X0_body__b61 τ a bo bg 5 an aa ip x2 (x3 + 1) (by first | assumption | exact RBa0 | (unfold vp_in; decide) | decide) (by first | assumption | exact RBa0 | (unfold vp_in; decide) | decide)) gX0_own_X0_body rfl rfl rfl qd_X0_body__b61 rfl ⟨by decide, by decide⟩ ⟨by decide, by decide⟩ rfl (Nat.le_of_ble_eq_true rfl) rfl 0 0 rfl rfl (fun r18 u18 hX18 hn18 => ?_)
      obtain ⟨bo_18, bg_18, ip_18⟩ := u18
      rw [hX18] at hR; rw [pr4_mk r18 bo_18 bg_18 ip_18] at hR
      have hr18 : RBa bg_18 := rc_X0_body__b61 (by first | assumption | exact RBa0) hX18
      refine j_goto C dX0_own_39 43 rfl ?_
      exact Rt.ret (hR) rfl dX0_own_43

theorem rb_X0_own__o2 {bo : Nat → Int32} {bg : Int32} {ak : Int32} {an : Int32} {aa : Int32} {ip : Int32} {x2 : Int32} {x3 : Int32} (h : RBa bg) : RBa (f_X0_own__o2 bo bg ak an aa ip x2 x3).2.2.1 := by
  unfold f_X0_own__o2
  simp only [pr1, pr2, pr3, pr4]
  repeat' split
  all_goals with_reducible first | exact h | exact rb_X0_body__b12 h | exact rb_X0_body__b12 (RBa_s h (by assumption)) | exact rb_X0_body__b50 h | exact rb_X0_body__b50 (RBa_s h (by assumption)) | exact rb_X0_body__b61 h | exact rb_X0_body__b61 (RBa_s h (by assumption)) | exact RBa_s h (by assumption)
theorem rc_X0_own__o2 {bo : Nat → Int32} {bg : Int32} {ak : Int32} {an : Int32} {aa : Int32} {ip : Int32} {x2 : Int32} {x3 : Int32} {r : Int32} {w_bo : Nat → Int32} {w_bg : Int32} {w_ip : Int32} (h : RBa bg) (e : f_X0_own__o2 bo bg ak an aa ip x2 x3 = (r, w_bo, w_bg, w_ip)) : RBa w_bg := by
  have q := rb_X0_own__o2 (bo := bo) (bg := bg) (ak := ak) (an := an) (aa := aa) (ip := ip) (x2 := x2) (x3 := x3) h
  rw [e] at q
  exact q

-- X0_body
def f_X0_body__b13 (bo : Nat → Int32) (bg : Int32) (ak : Int32) (an : Int32) (aa : Int32) (ip : Int32) (x2 : Int32) (x3 : Int32) : Int32 × (Nat → Int32) × Int32 := if (ip = 0) then (if (x3 ≤ 40) then (pr2 (if (30 ≤ bg) then (bo, bg) else ((upd bo (bg).toNatClampNeg 13), (bg + 1))) (fun j21_0 j21_1 => pr3 (f_X0_own__o1 j21_0 j21_1 ak an aa ip x2 x3) (fun r4 bo_4 bg_4 => ((r4 ^^^ 100), bo_4, bg_4)))) else ((0 : Int32), bo, bg)) else ((0 : Int32), bo, bg)
theorem kX0_body__b13_f28 : Cond.fieldLink RX0 28 "TwoMinutes$Actor" "isParted" "Z" ∈ wsX0_body := by decide +kernel
theorem kX0_body__b13_f25 : Cond.fieldLink RX0 25 "TwoMinutes$Actor" "begun" "I" ∈ wsX0_body := by decide +kernel
theorem kX0_body__b13_f11 : Cond.fieldLink RX0 11 "TwoMinutes$Actor" "bodies" "[I" ∈ wsX0_body := by decide +kernel
theorem qd_X0_body__b13 : yX0_body.cls = RX0 ∧ yX0_body.cls ≠ "java/lang/invoke/MethodHandle" ∧ yX0_body.cls ≠ "java/lang/invoke/VarHandle" ∧ (parseMethodDescriptor yX0_body.desc).map (fun d => d.parameters.length) = some 3 := by decide +kernel
abbrev rmX0_body__b13 : Room := { frames := 7, cells := 0, slots := 0, locals := 163 }
set_option maxHeartbeats 4000000 in
set_option maxRecDepth 100000 in
theorem c_X0_body__b13 (τ : SX) (a : Nat → Nat) (bo : Nat → Int32) (bg : Int32) (ak : Int32) (an : Int32) (aa : Int32) (ip : Int32) (x2 : Int32) (x3 : Int32) (hr : RBa bg) (hk : ak = 0 ∨ ak = 1 ∨ ak = 2 ∨ ak = 3 ∨ ak = 4 ∨ ak = 5) (sz : Nat) : McI τ yX0_body wsX0_body rmX0_body__b13 .int [.ref (a 0), .int 13, .int x2, .int x3] (wA τ a bo bg ak an aa ip) (fun u : (Nat → Int32) × Int32 => (wA τ a u.1 u.2 ak an aa ip)) (f_X0_body__b13 bo bg ak an aa ip x2 x3) sz := by
  refine mc_I (cc := cX0_body) (own := RX0) [(0, .ref (a 0)), (1, .int 13), (2, .int x2), (3, .int x3)] rfl (by decide) rfl rfl (Nat.le_of_ble_eq_true rfl) (fun κ C hR => ?_)
  have hiX0 : ∀ w ∈ wsX00, w ∈ wsX0_body := fun w h => List.mem_cons_of_mem _ (List.mem_append_right _ h)
  unfold f_X0_body__b13 at hR
  refine j_aload_n C dX0_body_0 1 rfl rfl 0 rfl ?_
  refine j_get C dX0_body_1 4 rfl hiX0 0 rfl rfl 5 (by decide) rfl kX0_body__b13_f28 rfl ?_
  refine j_if_ne C dX0_body_4 13 rfl 7 rfl (fun c1 => ?_) (fun c1 => ?_)
  · rw [if_neg c1] at hR
    refine j_iconst (v := 0) C dX0_body_13 14 rfl (by decide) ?_
    exact Rt.ret (hR) rfl dX0_body_14
  · rw [if_pos c1] at hR
    refine j_iload_n C dX0_body_7 8 rfl rfl 3 rfl ?_
    refine j_bipush (v := 40) C dX0_body_8 10 rfl (by decide) ?_
    refine j_icmp_le C dX0_body_10 15 rfl 13 rfl (fun c2 => ?_) (fun c2 => ?_)
    · rw [if_pos c2] at hR
      refine j_aload_n C dX0_body_15 16 rfl rfl 0 rfl ?_
      refine j_get C dX0_body_16 19 rfl hiX0 0 rfl rfl 1 (by decide) rfl kX0_body__b13_f25 rfl ?_
      refine j_bipush (v := 30) C dX0_body_19 21 rfl (by decide) ?_
      have J21 : ∀ (j21_0 : Nat → Int32) (j21_1 : Int32), (RBa j21_1) → Rt τ κ cX0_body .int (fun u : (Nat → Int32) × Int32 => (wA τ a u.1 u.2 ak an aa ip)) (pr3 (f_X0_own__o1 j21_0 j21_1 ak an aa ip x2 x3) (fun r4 bo_4 bg_4 => ((r4 ^^^ 100), bo_4, bg_4))) → J τ κ 0 0 (wA τ a j21_0 j21_1 ak an aa ip) [(0, .ref (a 0)), (1, .int 13), (2, .int x2), (3, .int x3)] 44 [] := by
        intro j21_0 j21_1 hj hR
        refine j_iload_n C dX0_body_44 45 rfl rfl 1 rfl ?_
        refine j_tabIn C dX0_body_45 (by decide) (by decide) (by rfl) 306 rfl ?_
        refine j_aload_n C dX0_body_306 307 rfl rfl 0 rfl ?_
        refine j_iconst (v := 1) C dX0_body_307 308 rfl (by decide) ?_
        refine j_iload_n C dX0_body_308 309 rfl rfl 2 rfl ?_
        refine j_iload_n C dX0_body_309 310 rfl rfl 3 rfl ?_
        refine j_cv0I (na := 3) C dX0_body_310 313 rfl (c_X0_own__o1 τ a j21_0 j21_1 ak an aa ip x2 x3 (by first | assumption | exact RBa0 | (unfold vp_in; decide) | decide) (by first | assumption | exact RBa0 | (unfold vp_in; decide) | decide)) gX0_body_X0_own rfl rfl rfl qd_X0_own__o1 rfl ⟨by decide, by decide⟩ ⟨by decide, by decide⟩ rfl (Nat.le_of_ble_eq_true rfl) rfl 0 0 rfl rfl (fun r4 u4 hX4 hn4 => ?_)
        obtain ⟨bo_4, bg_4⟩ := u4
        rw [hX4] at hR; rw [pr3_mk r4 bo_4 bg_4] at hR
        have hr4 : RBa bg_4 := rc_X0_own__o1 (by first | assumption | exact RBa0) hX4
        refine j_bipush (v := 100) C dX0_body_313 315 rfl (by decide) ?_
        refine j_ixor C dX0_body_315 316 rfl ?_
        exact Rt.ret (hR) rfl dX0_body_316
      refine j_icmp_ge C dX0_body_21 44 rfl 24 rfl (fun c3 => ?_) (fun c3 => ?_)
      · rw [if_pos c3] at hR
        rw [pr2_mk bo bg] at hR
        exact j_lv [0, 1, 2, 3] [(0, .ref (a 0)), (1, .int 13), (2, .int x2), (3, .int x3)] rfl (J21 _ _ (by first | exact hr | exact RBa_s hr (by assumption)) hR)
      · rw [if_neg c3] at hR
        refine j_aload_n C dX0_body_24 25 rfl rfl 0 rfl ?_
        refine j_get C dX0_body_25 28 rfl hiX0 0 rfl rfl 0 (by decide) rfl kX0_body__b13_f11 rfl ?_
        refine j_aload_n C dX0_body_28 29 rfl rfl 0 rfl ?_
        refine j_get C dX0_body_29 32 rfl hiX0 0 rfl rfl 1 (by decide) rfl kX0_body__b13_f25 rfl ?_
        refine j_iload_n C dX0_body_32 33 rfl rfl 1 rfl ?_
        refine j_iast C dX0_body_33 34 rfl 1 rfl (RBa_in hr (by assumption)) (bg).toNatClampNeg rfl (wA τ a (upd bo (bg).toNatClampNeg 13) bg ak an aa ip) rfl ?_
        refine j_aload_n C dX0_body_34 35 rfl rfl 0 rfl ?_
        refine j_dup C dX0_body_35 36 rfl rfl ?_
        refine j_get C dX0_body_36 39 rfl hiX0 0 rfl rfl 1 (by decide) rfl kX0_body__b13_f25 rfl ?_
        refine j_iconst (v := 1) C dX0_body_39 40 rfl (by decide) ?_
        refine j_iadd C dX0_body_40 41 rfl ?_
        refine j_put C dX0_body_41 44 rfl hiX0 tyX0_ok nmX0 0 rfl rfl 1 (by decide) rfl kX0_body__b13_f25 rfl rfl rfl (Nat.le_of_ble_eq_true rfl) (wA τ a (upd bo (bg).toNatClampNeg 13) (bg + 1) ak an aa ip) rfl ?_
        rw [pr2_mk (upd bo (bg).toNatClampNeg 13) (bg + 1)] at hR
        exact j_lv [0, 1, 2, 3] [(0, .ref (a 0)), (1, .int 13), (2, .int x2), (3, .int x3)] rfl (J21 _ _ (by first | exact hr | exact RBa_s hr (by assumption)) hR)
    · rw [if_neg c2] at hR
      refine j_iconst (v := 0) C dX0_body_13 14 rfl (by decide) ?_
      exact Rt.ret (hR) rfl dX0_body_14

theorem rb_X0_body__b13 {bo : Nat → Int32} {bg : Int32} {ak : Int32} {an : Int32} {aa : Int32} {ip : Int32} {x2 : Int32} {x3 : Int32} (h : RBa bg) : RBa (f_X0_body__b13 bo bg ak an aa ip x2 x3).2.2 := by
  unfold f_X0_body__b13
  simp only [pr1, pr2, pr3, pr4]
  repeat' split
  all_goals with_reducible first | exact h | exact rb_X0_own__o1 h | exact rb_X0_own__o1 (RBa_s h (by assumption)) | exact RBa_s h (by assumption)
theorem rc_X0_body__b13 {bo : Nat → Int32} {bg : Int32} {ak : Int32} {an : Int32} {aa : Int32} {ip : Int32} {x2 : Int32} {x3 : Int32} {r : Int32} {w_bo : Nat → Int32} {w_bg : Int32} (h : RBa bg) (e : f_X0_body__b13 bo bg ak an aa ip x2 x3 = (r, w_bo, w_bg)) : RBa w_bg := by
  have q := rb_X0_body__b13 (bo := bo) (bg := bg) (ak := ak) (an := an) (aa := aa) (ip := ip) (x2 := x2) (x3 := x3) h
  rw [e] at q
  exact q

-- X0_body
def f_X0_body__b31 (bo : Nat → Int32) (bg : Int32) (ak : Int32) (an : Int32) (aa : Int32) (ip : Int32) (x2 : Int32) (x3 : Int32) : Int32 × (Nat → Int32) × Int32 × Int32 := if (ip = 0) then (if (x3 ≤ 40) then (pr2 (if (30 ≤ bg) then (bo, bg) else ((upd bo (bg).toNatClampNeg 31), (bg + 1))) (fun j21_0 j21_1 => pr3 (f_X0_body__b13 j21_0 j21_1 ak an aa ip x2 (x3 + 1)) (fun r4 bo_4 bg_4 => pr4 (f_X0_own__o2 bo_4 bg_4 ak an aa ip an x3) (fun r5 bo_5 bg_5 ip_5 => ((r4 + r5), bo_5, bg_5, ip_5))))) else ((0 : Int32), bo, bg, ip)) else ((0 : Int32), bo, bg, ip)
theorem kX0_body__b31_f28 : Cond.fieldLink RX0 28 "TwoMinutes$Actor" "isParted" "Z" ∈ wsX0_body := by decide +kernel
theorem kX0_body__b31_f25 : Cond.fieldLink RX0 25 "TwoMinutes$Actor" "begun" "I" ∈ wsX0_body := by decide +kernel
theorem kX0_body__b31_f11 : Cond.fieldLink RX0 11 "TwoMinutes$Actor" "bodies" "[I" ∈ wsX0_body := by decide +kernel
theorem kX0_body__b31_f19 : Cond.fieldLink RX0 19 "TwoMinutes$Actor" "n" "I" ∈ wsX0_body := by decide +kernel
theorem qd_X0_body__b31 : yX0_body.cls = RX0 ∧ yX0_body.cls ≠ "java/lang/invoke/MethodHandle" ∧ yX0_body.cls ≠ "java/lang/invoke/VarHandle" ∧ (parseMethodDescriptor yX0_body.desc).map (fun d => d.parameters.length) = some 3 := by decide +kernel
abbrev rmX0_body__b31 : Room := { frames := 8, cells := 0, slots := 0, locals := 186 }
set_option maxHeartbeats 4000000 in
set_option maxRecDepth 100000 in
theorem c_X0_body__b31 (τ : SX) (a : Nat → Nat) (bo : Nat → Int32) (bg : Int32) (ak : Int32) (an : Int32) (aa : Int32) (ip : Int32) (x2 : Int32) (x3 : Int32) (hr : RBa bg) (hk : ak = 0 ∨ ak = 1 ∨ ak = 2 ∨ ak = 3 ∨ ak = 4 ∨ ak = 5) (sz : Nat) : McI τ yX0_body wsX0_body rmX0_body__b31 .int [.ref (a 0), .int 31, .int x2, .int x3] (wA τ a bo bg ak an aa ip) (fun u : (Nat → Int32) × Int32 × Int32 => (wA τ a u.1 u.2.1 ak an aa u.2.2)) (f_X0_body__b31 bo bg ak an aa ip x2 x3) sz := by
  refine mc_I (cc := cX0_body) (own := RX0) [(0, .ref (a 0)), (1, .int 31), (2, .int x2), (3, .int x3)] rfl (by decide) rfl rfl (Nat.le_of_ble_eq_true rfl) (fun κ C hR => ?_)
  have hiX0 : ∀ w ∈ wsX00, w ∈ wsX0_body := fun w h => List.mem_cons_of_mem _ (List.mem_append_right _ h)
  unfold f_X0_body__b31 at hR
  refine j_aload_n C dX0_body_0 1 rfl rfl 0 rfl ?_
  refine j_get C dX0_body_1 4 rfl hiX0 0 rfl rfl 5 (by decide) rfl kX0_body__b31_f28 rfl ?_
  refine j_if_ne C dX0_body_4 13 rfl 7 rfl (fun c1 => ?_) (fun c1 => ?_)
  · rw [if_neg c1] at hR
    refine j_iconst (v := 0) C dX0_body_13 14 rfl (by decide) ?_
    exact Rt.ret (hR) rfl dX0_body_14
  · rw [if_pos c1] at hR
    refine j_iload_n C dX0_body_7 8 rfl rfl 3 rfl ?_
    refine j_bipush (v := 40) C dX0_body_8 10 rfl (by decide) ?_
    refine j_icmp_le C dX0_body_10 15 rfl 13 rfl (fun c2 => ?_) (fun c2 => ?_)
    · rw [if_pos c2] at hR
      refine j_aload_n C dX0_body_15 16 rfl rfl 0 rfl ?_
      refine j_get C dX0_body_16 19 rfl hiX0 0 rfl rfl 1 (by decide) rfl kX0_body__b31_f25 rfl ?_
      refine j_bipush (v := 30) C dX0_body_19 21 rfl (by decide) ?_
      have J21 : ∀ (j21_0 : Nat → Int32) (j21_1 : Int32), (RBa j21_1) → Rt τ κ cX0_body .int (fun u : (Nat → Int32) × Int32 × Int32 => (wA τ a u.1 u.2.1 ak an aa u.2.2)) (pr3 (f_X0_body__b13 j21_0 j21_1 ak an aa ip x2 (x3 + 1)) (fun r4 bo_4 bg_4 => pr4 (f_X0_own__o2 bo_4 bg_4 ak an aa ip an x3) (fun r5 bo_5 bg_5 ip_5 => ((r4 + r5), bo_5, bg_5, ip_5)))) → J τ κ 0 0 (wA τ a j21_0 j21_1 ak an aa ip) [(0, .ref (a 0)), (1, .int 31), (2, .int x2), (3, .int x3)] 44 [] := by
        intro j21_0 j21_1 hj hR
        refine j_iload_n C dX0_body_44 45 rfl rfl 1 rfl ?_
        refine j_tabIn C dX0_body_45 (by decide) (by decide) (by rfl) 343 rfl ?_
        refine j_aload_n C dX0_body_343 344 rfl rfl 0 rfl ?_
        refine j_bipush (v := 13) C dX0_body_344 346 rfl (by decide) ?_
        refine j_iload_n C dX0_body_346 347 rfl rfl 2 rfl ?_
        refine j_iload_n C dX0_body_347 348 rfl rfl 3 rfl ?_
        refine j_iconst (v := 1) C dX0_body_348 349 rfl (by decide) ?_
        refine j_iadd C dX0_body_349 350 rfl ?_
        refine j_cv0I (na := 3) C dX0_body_350 353 rfl (c_X0_body__b13 τ a j21_0 j21_1 ak an aa ip x2 (x3 + 1) (by first | assumption | exact RBa0 | (unfold vp_in; decide) | decide) (by first | assumption | exact RBa0 | (unfold vp_in; decide) | decide)) gX0_body_X0_body rfl rfl rfl qd_X0_body__b13 rfl ⟨by decide, by decide⟩ ⟨by decide, by decide⟩ rfl (Nat.le_of_ble_eq_true rfl) rfl 0 0 rfl rfl (fun r4 u4 hX4 hn4 => ?_)
        obtain ⟨bo_4, bg_4⟩ := u4
        rw [hX4] at hR; rw [pr3_mk r4 bo_4 bg_4] at hR
        have hr4 : RBa bg_4 := rc_X0_body__b13 (by first | assumption | exact RBa0) hX4
        refine j_aload_n C dX0_body_353 354 rfl rfl 0 rfl ?_
        refine j_iconst (v := 2) C dX0_body_354 355 rfl (by decide) ?_
        refine j_aload_n C dX0_body_355 356 rfl rfl 0 rfl ?_
        refine j_get C dX0_body_356 359 rfl hiX0 0 rfl rfl 3 (by decide) rfl kX0_body__b31_f19 rfl ?_
        refine j_iload_n C dX0_body_359 360 rfl rfl 3 rfl ?_
        refine j_cv0I (na := 3) C dX0_body_360 363 rfl (c_X0_own__o2 τ a bo_4 bg_4 ak an aa ip an x3 (by first | assumption | exact RBa0 | (unfold vp_in; decide) | decide) (by first | assumption | exact RBa0 | (unfold vp_in; decide) | decide)) gX0_body_X0_own rfl rfl rfl qd_X0_own__o2 rfl ⟨by decide, by decide⟩ ⟨by decide, by decide⟩ rfl (Nat.le_of_ble_eq_true rfl) rfl 0 0 rfl rfl (fun r5 u5 hX5 hn5 => ?_)
        obtain ⟨bo_5, bg_5, ip_5⟩ := u5
        rw [hX5] at hR; rw [pr4_mk r5 bo_5 bg_5 ip_5] at hR
        have hr5 : RBa bg_5 := rc_X0_own__o2 (by first | assumption | exact RBa0) hX5
        refine j_iadd C dX0_body_363 364 rfl ?_
        exact Rt.ret (hR) rfl dX0_body_364
      refine j_icmp_ge C dX0_body_21 44 rfl 24 rfl (fun c3 => ?_) (fun c3 => ?_)
      · rw [if_pos c3] at hR
        rw [pr2_mk bo bg] at hR
        exact j_lv [0, 1, 2, 3] [(0, .ref (a 0)), (1, .int 31), (2, .int x2), (3, .int x3)] rfl (J21 _ _ (by first | exact hr | exact RBa_s hr (by assumption)) hR)
      · rw [if_neg c3] at hR
        refine j_aload_n C dX0_body_24 25 rfl rfl 0 rfl ?_
        refine j_get C dX0_body_25 28 rfl hiX0 0 rfl rfl 0 (by decide) rfl kX0_body__b31_f11 rfl ?_
        refine j_aload_n C dX0_body_28 29 rfl rfl 0 rfl ?_
        refine j_get C dX0_body_29 32 rfl hiX0 0 rfl rfl 1 (by decide) rfl kX0_body__b31_f25 rfl ?_
        refine j_iload_n C dX0_body_32 33 rfl rfl 1 rfl ?_
        refine j_iast C dX0_body_33 34 rfl 1 rfl (RBa_in hr (by assumption)) (bg).toNatClampNeg rfl (wA τ a (upd bo (bg).toNatClampNeg 31) bg ak an aa ip) rfl ?_
        refine j_aload_n C dX0_body_34 35 rfl rfl 0 rfl ?_
        refine j_dup C dX0_body_35 36 rfl rfl ?_
        refine j_get C dX0_body_36 39 rfl hiX0 0 rfl rfl 1 (by decide) rfl kX0_body__b31_f25 rfl ?_
        refine j_iconst (v := 1) C dX0_body_39 40 rfl (by decide) ?_
        refine j_iadd C dX0_body_40 41 rfl ?_
        refine j_put C dX0_body_41 44 rfl hiX0 tyX0_ok nmX0 0 rfl rfl 1 (by decide) rfl kX0_body__b31_f25 rfl rfl rfl (Nat.le_of_ble_eq_true rfl) (wA τ a (upd bo (bg).toNatClampNeg 31) (bg + 1) ak an aa ip) rfl ?_
        rw [pr2_mk (upd bo (bg).toNatClampNeg 31) (bg + 1)] at hR
        exact j_lv [0, 1, 2, 3] [(0, .ref (a 0)), (1, .int 31), (2, .int x2), (3, .int x3)] rfl (J21 _ _ (by first | exact hr | exact RBa_s hr (by assumption)) hR)
    · rw [if_neg c2] at hR
      refine j_iconst (v := 0) C dX0_body_13 14 rfl (by decide) ?_
      exact Rt.ret (hR) rfl dX0_body_14

theorem rb_X0_body__b31 {bo : Nat → Int32} {bg : Int32} {ak : Int32} {an : Int32} {aa : Int32} {ip : Int32} {x2 : Int32} {x3 : Int32} (h : RBa bg) : RBa (f_X0_body__b31 bo bg ak an aa ip x2 x3).2.2.1 := by
  unfold f_X0_body__b31
  simp only [pr1, pr2, pr3, pr4]
  repeat' split
  all_goals with_reducible first | exact h | exact rb_X0_own__o2 (rb_X0_body__b13 h) | exact rb_X0_own__o2 (rb_X0_body__b13 (RBa_s h (by assumption))) | exact RBa_s h (by assumption)
theorem rc_X0_body__b31 {bo : Nat → Int32} {bg : Int32} {ak : Int32} {an : Int32} {aa : Int32} {ip : Int32} {x2 : Int32} {x3 : Int32} {r : Int32} {w_bo : Nat → Int32} {w_bg : Int32} {w_ip : Int32} (h : RBa bg) (e : f_X0_body__b31 bo bg ak an aa ip x2 x3 = (r, w_bo, w_bg, w_ip)) : RBa w_bg := by
  have q := rb_X0_body__b31 (bo := bo) (bg := bg) (ak := ak) (an := an) (aa := aa) (ip := ip) (x2 := x2) (x3 := x3) h
  rw [e] at q
  exact q

-- X0_body
def f_X0_body__b60 (bo : Nat → Int32) (bg : Int32) (ak : Int32) (an : Int32) (aa : Int32) (ip : Int32) (x2 : Int32) (x3 : Int32) : Int32 × (Nat → Int32) × Int32 := if (ip = 0) then (if (x3 ≤ 40) then (pr2 (if (30 ≤ bg) then (bo, bg) else ((upd bo (bg).toNatClampNeg 60), (bg + 1))) (fun j21_0 j21_1 => pr3 (f_X0_body__b13 j21_0 j21_1 ak an aa ip x2 (x3 + 1)) (fun r4 bo_4 bg_4 => ((r4 - 1), bo_4, bg_4)))) else ((0 : Int32), bo, bg)) else ((0 : Int32), bo, bg)
theorem kX0_body__b60_f28 : Cond.fieldLink RX0 28 "TwoMinutes$Actor" "isParted" "Z" ∈ wsX0_body := by decide +kernel
theorem kX0_body__b60_f25 : Cond.fieldLink RX0 25 "TwoMinutes$Actor" "begun" "I" ∈ wsX0_body := by decide +kernel
theorem kX0_body__b60_f11 : Cond.fieldLink RX0 11 "TwoMinutes$Actor" "bodies" "[I" ∈ wsX0_body := by decide +kernel
theorem qd_X0_body__b60 : yX0_body.cls = RX0 ∧ yX0_body.cls ≠ "java/lang/invoke/MethodHandle" ∧ yX0_body.cls ≠ "java/lang/invoke/VarHandle" ∧ (parseMethodDescriptor yX0_body.desc).map (fun d => d.parameters.length) = some 3 := by decide +kernel
abbrev rmX0_body__b60 : Room := { frames := 8, cells := 0, slots := 0, locals := 186 }
set_option maxHeartbeats 4000000 in
set_option maxRecDepth 100000 in
theorem c_X0_body__b60 (τ : SX) (a : Nat → Nat) (bo : Nat → Int32) (bg : Int32) (ak : Int32) (an : Int32) (aa : Int32) (ip : Int32) (x2 : Int32) (x3 : Int32) (hr : RBa bg) (hk : ak = 0 ∨ ak = 1 ∨ ak = 2 ∨ ak = 3 ∨ ak = 4 ∨ ak = 5) (sz : Nat) : McI τ yX0_body wsX0_body rmX0_body__b60 .int [.ref (a 0), .int 60, .int x2, .int x3] (wA τ a bo bg ak an aa ip) (fun u : (Nat → Int32) × Int32 => (wA τ a u.1 u.2 ak an aa ip)) (f_X0_body__b60 bo bg ak an aa ip x2 x3) sz := by
  refine mc_I (cc := cX0_body) (own := RX0) [(0, .ref (a 0)), (1, .int 60), (2, .int x2), (3, .int x3)] rfl (by decide) rfl rfl (Nat.le_of_ble_eq_true rfl) (fun κ C hR => ?_)
  have hiX0 : ∀ w ∈ wsX00, w ∈ wsX0_body := fun w h => List.mem_cons_of_mem _ (List.mem_append_right _ h)
  unfold f_X0_body__b60 at hR
  refine j_aload_n C dX0_body_0 1 rfl rfl 0 rfl ?_
  refine j_get C dX0_body_1 4 rfl hiX0 0 rfl rfl 5 (by decide) rfl kX0_body__b60_f28 rfl ?_
  refine j_if_ne C dX0_body_4 13 rfl 7 rfl (fun c1 => ?_) (fun c1 => ?_)
  · rw [if_neg c1] at hR
    refine j_iconst (v := 0) C dX0_body_13 14 rfl (by decide) ?_
    exact Rt.ret (hR) rfl dX0_body_14
  · rw [if_pos c1] at hR
    refine j_iload_n C dX0_body_7 8 rfl rfl 3 rfl ?_
    refine j_bipush (v := 40) C dX0_body_8 10 rfl (by decide) ?_
    refine j_icmp_le C dX0_body_10 15 rfl 13 rfl (fun c2 => ?_) (fun c2 => ?_)
    · rw [if_pos c2] at hR
      refine j_aload_n C dX0_body_15 16 rfl rfl 0 rfl ?_
      refine j_get C dX0_body_16 19 rfl hiX0 0 rfl rfl 1 (by decide) rfl kX0_body__b60_f25 rfl ?_
      refine j_bipush (v := 30) C dX0_body_19 21 rfl (by decide) ?_
      have J21 : ∀ (j21_0 : Nat → Int32) (j21_1 : Int32), (RBa j21_1) → Rt τ κ cX0_body .int (fun u : (Nat → Int32) × Int32 => (wA τ a u.1 u.2 ak an aa ip)) (pr3 (f_X0_body__b13 j21_0 j21_1 ak an aa ip x2 (x3 + 1)) (fun r4 bo_4 bg_4 => ((r4 - 1), bo_4, bg_4))) → J τ κ 0 0 (wA τ a j21_0 j21_1 ak an aa ip) [(0, .ref (a 0)), (1, .int 60), (2, .int x2), (3, .int x3)] 44 [] := by
        intro j21_0 j21_1 hj hR
        refine j_iload_n C dX0_body_44 45 rfl rfl 1 rfl ?_
        refine j_tabIn C dX0_body_45 (by decide) (by decide) (by rfl) 435 rfl ?_
        refine j_aload_n C dX0_body_435 436 rfl rfl 0 rfl ?_
        refine j_bipush (v := 13) C dX0_body_436 438 rfl (by decide) ?_
        refine j_iload_n C dX0_body_438 439 rfl rfl 2 rfl ?_
        refine j_iload_n C dX0_body_439 440 rfl rfl 3 rfl ?_
        refine j_iconst (v := 1) C dX0_body_440 441 rfl (by decide) ?_
        refine j_iadd C dX0_body_441 442 rfl ?_
        refine j_cv0I (na := 3) C dX0_body_442 445 rfl (c_X0_body__b13 τ a j21_0 j21_1 ak an aa ip x2 (x3 + 1) (by first | assumption | exact RBa0 | (unfold vp_in; decide) | decide) (by first | assumption | exact RBa0 | (unfold vp_in; decide) | decide)) gX0_body_X0_body rfl rfl rfl qd_X0_body__b13 rfl ⟨by decide, by decide⟩ ⟨by decide, by decide⟩ rfl (Nat.le_of_ble_eq_true rfl) rfl 0 0 rfl rfl (fun r4 u4 hX4 hn4 => ?_)
        obtain ⟨bo_4, bg_4⟩ := u4
        rw [hX4] at hR; rw [pr3_mk r4 bo_4 bg_4] at hR
        have hr4 : RBa bg_4 := rc_X0_body__b13 (by first | assumption | exact RBa0) hX4
        refine j_iconst (v := 1) C dX0_body_445 446 rfl (by decide) ?_
        refine j_isub C dX0_body_446 447 rfl ?_
        exact Rt.ret (hR) rfl dX0_body_447
      refine j_icmp_ge C dX0_body_21 44 rfl 24 rfl (fun c3 => ?_) (fun c3 => ?_)
      · rw [if_pos c3] at hR
        rw [pr2_mk bo bg] at hR
        exact j_lv [0, 1, 2, 3] [(0, .ref (a 0)), (1, .int 60), (2, .int x2), (3, .int x3)] rfl (J21 _ _ (by first | exact hr | exact RBa_s hr (by assumption)) hR)
      · rw [if_neg c3] at hR
        refine j_aload_n C dX0_body_24 25 rfl rfl 0 rfl ?_
        refine j_get C dX0_body_25 28 rfl hiX0 0 rfl rfl 0 (by decide) rfl kX0_body__b60_f11 rfl ?_
        refine j_aload_n C dX0_body_28 29 rfl rfl 0 rfl ?_
        refine j_get C dX0_body_29 32 rfl hiX0 0 rfl rfl 1 (by decide) rfl kX0_body__b60_f25 rfl ?_
        refine j_iload_n C dX0_body_32 33 rfl rfl 1 rfl ?_
        refine j_iast C dX0_body_33 34 rfl 1 rfl (RBa_in hr (by assumption)) (bg).toNatClampNeg rfl (wA τ a (upd bo (bg).toNatClampNeg 60) bg ak an aa ip) rfl ?_
        refine j_aload_n C dX0_body_34 35 rfl rfl 0 rfl ?_
        refine j_dup C dX0_body_35 36 rfl rfl ?_
        refine j_get C dX0_body_36 39 rfl hiX0 0 rfl rfl 1 (by decide) rfl kX0_body__b60_f25 rfl ?_
        refine j_iconst (v := 1) C dX0_body_39 40 rfl (by decide) ?_
        refine j_iadd C dX0_body_40 41 rfl ?_
        refine j_put C dX0_body_41 44 rfl hiX0 tyX0_ok nmX0 0 rfl rfl 1 (by decide) rfl kX0_body__b60_f25 rfl rfl rfl (Nat.le_of_ble_eq_true rfl) (wA τ a (upd bo (bg).toNatClampNeg 60) (bg + 1) ak an aa ip) rfl ?_
        rw [pr2_mk (upd bo (bg).toNatClampNeg 60) (bg + 1)] at hR
        exact j_lv [0, 1, 2, 3] [(0, .ref (a 0)), (1, .int 60), (2, .int x2), (3, .int x3)] rfl (J21 _ _ (by first | exact hr | exact RBa_s hr (by assumption)) hR)
    · rw [if_neg c2] at hR
      refine j_iconst (v := 0) C dX0_body_13 14 rfl (by decide) ?_
      exact Rt.ret (hR) rfl dX0_body_14

theorem rb_X0_body__b60 {bo : Nat → Int32} {bg : Int32} {ak : Int32} {an : Int32} {aa : Int32} {ip : Int32} {x2 : Int32} {x3 : Int32} (h : RBa bg) : RBa (f_X0_body__b60 bo bg ak an aa ip x2 x3).2.2 := by
  unfold f_X0_body__b60
  simp only [pr1, pr2, pr3, pr4]
  repeat' split
  all_goals with_reducible first | exact h | exact rb_X0_body__b13 h | exact rb_X0_body__b13 (RBa_s h (by assumption)) | exact RBa_s h (by assumption)
theorem rc_X0_body__b60 {bo : Nat → Int32} {bg : Int32} {ak : Int32} {an : Int32} {aa : Int32} {ip : Int32} {x2 : Int32} {x3 : Int32} {r : Int32} {w_bo : Nat → Int32} {w_bg : Int32} (h : RBa bg) (e : f_X0_body__b60 bo bg ak an aa ip x2 x3 = (r, w_bo, w_bg)) : RBa w_bg := by
  have q := rb_X0_body__b60 (bo := bo) (bg := bg) (ak := ak) (an := an) (aa := aa) (ip := ip) (x2 := x2) (x3 := x3) h
  rw [e] at q
  exact q

-- X0_own
def f_X0_own__o3 (bo : Nat → Int32) (bg : Int32) (ak : Int32) (an : Int32) (aa : Int32) (ip : Int32) (x2 : Int32) (x3 : Int32) : Int32 × (Nat → Int32) × Int32 × Int32 := (if ak = 0 then (if ((f_X5_isIn (3 : Int32) (0 : Int32) (23 : Int32)) = 0) then ((0 : Int32), bo, bg, ip) else (pr3 (f_X0_body__b13 bo bg (0 : Int32) an aa ip x2 (x3 + 1)) (fun r3 bo_3 bg_3 => (r3, bo_3, bg_3, ip)))) else (if ak = 1 then (if ((f_X5_isIn (7 : Int32) (0 : Int32) (23 : Int32)) = 0) then ((0 : Int32), bo, bg, ip) else (pr3 (f_X0_body__b13 bo bg (1 : Int32) an aa ip x2 (x3 + 1)) (fun r6 bo_6 bg_6 => (r6, bo_6, bg_6, ip)))) else (if ak = 2 then (if ((f_X5_isIn (11 : Int32) (0 : Int32) (23 : Int32)) = 0) then ((0 : Int32), bo, bg, ip) else (pr4 (f_X0_body__b31 bo bg (2 : Int32) an aa ip x2 (x3 + 1)) (fun r9 bo_9 bg_9 ip_9 => (r9, bo_9, bg_9, ip_9)))) else (if ak = 3 then (if ((f_X5_isIn (15 : Int32) (0 : Int32) (23 : Int32)) = 0) then ((0 : Int32), bo, bg, ip) else (pr3 (f_X0_body__b13 bo bg (3 : Int32) an aa ip x2 (x3 + 1)) (fun r12 bo_12 bg_12 => (r12, bo_12, bg_12, ip)))) else (if ak = 4 then (if ((f_X5_isIn (19 : Int32) (0 : Int32) (23 : Int32)) = 0) then ((0 : Int32), bo, bg, ip) else (pr4 (f_X0_body__b31 bo bg (4 : Int32) an aa ip x2 (x3 + 1)) (fun r15 bo_15 bg_15 ip_15 => (r15, bo_15, bg_15, ip_15)))) else (if ((f_X5_isIn (23 : Int32) (0 : Int32) (23 : Int32)) = 0) then ((0 : Int32), bo, bg, ip) else (pr3 (f_X0_body__b60 bo bg (5 : Int32) an aa ip x2 (x3 + 1)) (fun r18 bo_18 bg_18 => (r18, bo_18, bg_18, ip)))))))))
theorem kX0_own__o3_f15 : Cond.fieldLink RX0 15 "TwoMinutes$Actor" "kind" "I" ∈ wsX0_own := by decide +kernel
theorem kX0_own__o3_f36 : Cond.fieldLink RX0 36 "TwoMinutes$Actor" "BODY_OF" "[I" ∈ wsX0_own := by decide +kernel
theorem kX0_own__o3_iRX5 : Cond.initialized yX5_isIn.cls ∈ wsX0_own := by decide +kernel
theorem kX0_own__o3_sX5_isIn : Cond.static yX5_isIn ∈ wsX0_own := by decide +kernel
theorem qd_X0_own__o3 : yX0_own.cls = RX0 ∧ yX0_own.cls ≠ "java/lang/invoke/MethodHandle" ∧ yX0_own.cls ≠ "java/lang/invoke/VarHandle" ∧ (parseMethodDescriptor yX0_own.desc).map (fun d => d.parameters.length) = some 3 := by decide +kernel
abbrev rmX0_own__o3 : Room := { frames := 9, cells := 0, slots := 0, locals := 209 }
set_option maxHeartbeats 4000000 in
set_option maxRecDepth 100000 in
theorem c_X0_own__o3 (τ : SX) (a : Nat → Nat) (bo : Nat → Int32) (bg : Int32) (ak : Int32) (an : Int32) (aa : Int32) (ip : Int32) (x2 : Int32) (x3 : Int32) (hr : RBa bg) (hk : ak = 0 ∨ ak = 1 ∨ ak = 2 ∨ ak = 3 ∨ ak = 4 ∨ ak = 5) (sz : Nat) : McI τ yX0_own wsX0_own rmX0_own__o3 .int [.ref (a 0), .int 3, .int x2, .int x3] (wA τ a bo bg ak an aa ip) (fun u : (Nat → Int32) × Int32 × Int32 => (wA τ a u.1 u.2.1 ak an aa u.2.2)) (f_X0_own__o3 bo bg ak an aa ip x2 x3) sz := by
  refine mc_I (cc := cX0_own) (own := RX0) [(0, .ref (a 0)), (1, .int 3), (2, .int x2), (3, .int x3)] rfl (by decide) rfl rfl (Nat.le_of_ble_eq_true rfl) (fun κ C hR => ?_)
  have hiX0 : ∀ w ∈ wsX00, w ∈ wsX0_own := fun w h => List.mem_cons_of_mem _ (List.mem_append_right _ h)
  unfold f_X0_own__o3 at hR
  rcases hk with rfl | rfl | rfl | rfl | rfl | rfl
  · rw [if_pos rfl] at hR
    refine j_aload_n C dX0_own_0 1 rfl rfl 0 rfl ?_
    refine j_get C dX0_own_1 4 rfl hiX0 0 rfl rfl 2 (by decide) rfl kX0_own__o3_f15 rfl ?_
    refine j_iconst (v := 4) C dX0_own_4 5 rfl (by decide) ?_
    refine j_imul C dX0_own_5 6 rfl ?_
    refine j_vi (v := 0) (by decide) ?_
    refine j_iload_n C dX0_own_6 7 rfl rfl 1 rfl ?_
    refine j_iadd C dX0_own_7 8 rfl ?_
    refine j_vi (v := 3) (by decide) ?_
    refine j_istore C dX0_own_8 10 rfl (by decide) [(4, .int 3), (0, .ref (a 0)), (1, .int 3), (2, .int x2), (3, .int x3)] rfl ?_
    refine j_iload C dX0_own_10 12 rfl 0 rfl ?_
    refine j_iconst (v := 0) C dX0_own_12 13 rfl (by decide) ?_
    refine j_gets C dX0_own_13 16 rfl 4 rfl rfl rfl rfl kX0_own__o3_f36 ?_
    refine j_slen (v := 24) C dX0_own_16 17 rfl 4 rfl (by decide) ?_
    refine j_iconst (v := 1) C dX0_own_17 18 rfl (by decide) ?_
    refine j_isub C dX0_own_18 19 rfl ?_
    refine j_vi (v := 23) (by decide) ?_
    refine j_csN (na := 3) C dX0_own_19 22 rfl (c_X5_isIn τ  (3 : Int32) (0 : Int32) (23 : Int32) ) rfl ggX0_own_X5_isIn rfl rfl rfl kX0_own__o3_iRX5 (host := RX5) (by decide +kernel) kX0_own__o3_sX5_isIn qd_X5_isIn rfl ⟨by decide, by decide⟩ ⟨by decide, by decide⟩ rfl (Nat.le_of_ble_eq_true rfl) (fun r1 u1 hX1 hn1 => ?_)
    obtain rfl := (Prod.mk.inj hX1).1
    refine j_if_eq C dX0_own_22 42 rfl 25 rfl (fun c2 => ?_) (fun c2 => ?_)
    · rw [if_pos c2] at hR
      refine j_iconst (v := 0) C dX0_own_42 43 rfl (by decide) ?_
      exact Rt.ret (hR) rfl dX0_own_43
    · rw [if_neg c2] at hR
      refine j_aload_n C dX0_own_25 26 rfl rfl 1 rfl ?_
      refine j_gets C dX0_own_26 29 rfl 4 rfl rfl rfl rfl kX0_own__o3_f36 ?_
      refine j_iload C dX0_own_29 31 rfl 0 rfl ?_
      refine j_sald C dX0_own_31 32 rfl 4 rfl (by unfold vp_in; decide) 3 rfl ?_
      refine j_vi (v := 13) (by decide) ?_
      refine j_iload_n C dX0_own_32 33 rfl rfl 3 rfl ?_
      refine j_iload_n C dX0_own_33 34 rfl rfl 4 rfl ?_
      refine j_iconst (v := 1) C dX0_own_34 35 rfl (by decide) ?_
      refine j_iadd C dX0_own_35 36 rfl ?_
      refine j_cv0I (na := 3) C dX0_own_36 39 rfl (c_X0_body__b13 τ a bo bg 0 an aa ip x2 (x3 + 1) (by first | assumption | exact RBa0 | (unfold vp_in; decide) | decide) (by first | assumption | exact RBa0 | (unfold vp_in; decide) | decide)) gX0_own_X0_body rfl rfl rfl qd_X0_body__b13 rfl ⟨by decide, by decide⟩ ⟨by decide, by decide⟩ rfl (Nat.le_of_ble_eq_true rfl) rfl 0 0 rfl rfl (fun r3 u3 hX3 hn3 => ?_)
      obtain ⟨bo_3, bg_3⟩ := u3
      rw [hX3] at hR; rw [pr3_mk r3 bo_3 bg_3] at hR
      have hr3 : RBa bg_3 := rc_X0_body__b13 (by first | assumption | exact RBa0) hX3
      refine j_goto C dX0_own_39 43 rfl ?_
      exact Rt.ret (hR) rfl dX0_own_43
  · rw [if_neg (by decide), if_pos rfl] at hR
    refine j_aload_n C dX0_own_0 1 rfl rfl 0 rfl ?_
    refine j_get C dX0_own_1 4 rfl hiX0 0 rfl rfl 2 (by decide) rfl kX0_own__o3_f15 rfl ?_
    refine j_iconst (v := 4) C dX0_own_4 5 rfl (by decide) ?_
    refine j_imul C dX0_own_5 6 rfl ?_
    refine j_vi (v := 4) (by decide) ?_
    refine j_iload_n C dX0_own_6 7 rfl rfl 1 rfl ?_
    refine j_iadd C dX0_own_7 8 rfl ?_
    refine j_vi (v := 7) (by decide) ?_
    refine j_istore C dX0_own_8 10 rfl (by decide) [(4, .int 7), (0, .ref (a 0)), (1, .int 3), (2, .int x2), (3, .int x3)] rfl ?_
    refine j_iload C dX0_own_10 12 rfl 0 rfl ?_
    refine j_iconst (v := 0) C dX0_own_12 13 rfl (by decide) ?_
    refine j_gets C dX0_own_13 16 rfl 4 rfl rfl rfl rfl kX0_own__o3_f36 ?_
    refine j_slen (v := 24) C dX0_own_16 17 rfl 4 rfl (by decide) ?_
    refine j_iconst (v := 1) C dX0_own_17 18 rfl (by decide) ?_
    refine j_isub C dX0_own_18 19 rfl ?_
    refine j_vi (v := 23) (by decide) ?_
    refine j_csN (na := 3) C dX0_own_19 22 rfl (c_X5_isIn τ  (7 : Int32) (0 : Int32) (23 : Int32) ) rfl ggX0_own_X5_isIn rfl rfl rfl kX0_own__o3_iRX5 (host := RX5) (by decide +kernel) kX0_own__o3_sX5_isIn qd_X5_isIn rfl ⟨by decide, by decide⟩ ⟨by decide, by decide⟩ rfl (Nat.le_of_ble_eq_true rfl) (fun r4 u4 hX4 hn4 => ?_)
    obtain rfl := (Prod.mk.inj hX4).1
    refine j_if_eq C dX0_own_22 42 rfl 25 rfl (fun c5 => ?_) (fun c5 => ?_)
    · rw [if_pos c5] at hR
      refine j_iconst (v := 0) C dX0_own_42 43 rfl (by decide) ?_
      exact Rt.ret (hR) rfl dX0_own_43
    · rw [if_neg c5] at hR
      refine j_aload_n C dX0_own_25 26 rfl rfl 1 rfl ?_
      refine j_gets C dX0_own_26 29 rfl 4 rfl rfl rfl rfl kX0_own__o3_f36 ?_
      refine j_iload C dX0_own_29 31 rfl 0 rfl ?_
      refine j_sald C dX0_own_31 32 rfl 4 rfl (by unfold vp_in; decide) 7 rfl ?_
      refine j_vi (v := 13) (by decide) ?_
      refine j_iload_n C dX0_own_32 33 rfl rfl 3 rfl ?_
      refine j_iload_n C dX0_own_33 34 rfl rfl 4 rfl ?_
      refine j_iconst (v := 1) C dX0_own_34 35 rfl (by decide) ?_
      refine j_iadd C dX0_own_35 36 rfl ?_
      refine j_cv0I (na := 3) C dX0_own_36 39 rfl (c_X0_body__b13 τ a bo bg 1 an aa ip x2 (x3 + 1) (by first | assumption | exact RBa0 | (unfold vp_in; decide) | decide) (by first | assumption | exact RBa0 | (unfold vp_in; decide) | decide)) gX0_own_X0_body rfl rfl rfl qd_X0_body__b13 rfl ⟨by decide, by decide⟩ ⟨by decide, by decide⟩ rfl (Nat.le_of_ble_eq_true rfl) rfl 0 0 rfl rfl (fun r6 u6 hX6 hn6 => ?_)
      obtain ⟨bo_6, bg_6⟩ := u6
      rw [hX6] at hR; rw [pr3_mk r6 bo_6 bg_6] at hR
      have hr6 : RBa bg_6 := rc_X0_body__b13 (by first | assumption | exact RBa0) hX6
      refine j_goto C dX0_own_39 43 rfl ?_
      exact Rt.ret (hR) rfl dX0_own_43
  · rw [if_neg (by decide), if_neg (by decide), if_pos rfl] at hR
    refine j_aload_n C dX0_own_0 1 rfl rfl 0 rfl ?_
    refine j_get C dX0_own_1 4 rfl hiX0 0 rfl rfl 2 (by decide) rfl kX0_own__o3_f15 rfl ?_
    refine j_iconst (v := 4) C dX0_own_4 5 rfl (by decide) ?_
    refine j_imul C dX0_own_5 6 rfl ?_
    refine j_vi (v := 8) (by decide) ?_
    refine j_iload_n C dX0_own_6 7 rfl rfl 1 rfl ?_
    refine j_iadd C dX0_own_7 8 rfl ?_
    refine j_vi (v := 11) (by decide) ?_
    refine j_istore C dX0_own_8 10 rfl (by decide) [(4, .int 11), (0, .ref (a 0)), (1, .int 3), (2, .int x2), (3, .int x3)] rfl ?_
    refine j_iload C dX0_own_10 12 rfl 0 rfl ?_
    refine j_iconst (v := 0) C dX0_own_12 13 rfl (by decide) ?_
    refine j_gets C dX0_own_13 16 rfl 4 rfl rfl rfl rfl kX0_own__o3_f36 ?_
    refine j_slen (v := 24) C dX0_own_16 17 rfl 4 rfl (by decide) ?_
    refine j_iconst (v := 1) C dX0_own_17 18 rfl (by decide) ?_
    refine j_isub C dX0_own_18 19 rfl ?_
    refine j_vi (v := 23) (by decide) ?_
    refine j_csN (na := 3) C dX0_own_19 22 rfl (c_X5_isIn τ  (11 : Int32) (0 : Int32) (23 : Int32) ) rfl ggX0_own_X5_isIn rfl rfl rfl kX0_own__o3_iRX5 (host := RX5) (by decide +kernel) kX0_own__o3_sX5_isIn qd_X5_isIn rfl ⟨by decide, by decide⟩ ⟨by decide, by decide⟩ rfl (Nat.le_of_ble_eq_true rfl) (fun r7 u7 hX7 hn7 => ?_)
    obtain rfl := (Prod.mk.inj hX7).1
    refine j_if_eq C dX0_own_22 42 rfl 25 rfl (fun c8 => ?_) (fun c8 => ?_)
    · rw [if_pos c8] at hR
      refine j_iconst (v := 0) C dX0_own_42 43 rfl (by decide) ?_
      exact Rt.ret (hR) rfl dX0_own_43
    · rw [if_neg c8] at hR
      refine j_aload_n C dX0_own_25 26 rfl rfl 1 rfl ?_
      refine j_gets C dX0_own_26 29 rfl 4 rfl rfl rfl rfl kX0_own__o3_f36 ?_
      refine j_iload C dX0_own_29 31 rfl 0 rfl ?_
      refine j_sald C dX0_own_31 32 rfl 4 rfl (by unfold vp_in; decide) 11 rfl ?_
      refine j_vi (v := 31) (by decide) ?_
      refine j_iload_n C dX0_own_32 33 rfl rfl 3 rfl ?_
      refine j_iload_n C dX0_own_33 34 rfl rfl 4 rfl ?_
      refine j_iconst (v := 1) C dX0_own_34 35 rfl (by decide) ?_
      refine j_iadd C dX0_own_35 36 rfl ?_
      refine j_cv0I (na := 3) C dX0_own_36 39 rfl (c_X0_body__b31 τ a bo bg 2 an aa ip x2 (x3 + 1) (by first | assumption | exact RBa0 | (unfold vp_in; decide) | decide) (by first | assumption | exact RBa0 | (unfold vp_in; decide) | decide)) gX0_own_X0_body rfl rfl rfl qd_X0_body__b31 rfl ⟨by decide, by decide⟩ ⟨by decide, by decide⟩ rfl (Nat.le_of_ble_eq_true rfl) rfl 0 0 rfl rfl (fun r9 u9 hX9 hn9 => ?_)
      obtain ⟨bo_9, bg_9, ip_9⟩ := u9
      rw [hX9] at hR; rw [pr4_mk r9 bo_9 bg_9 ip_9] at hR
      have hr9 : RBa bg_9 := rc_X0_body__b31 (by first | assumption | exact RBa0) hX9
      refine j_goto C dX0_own_39 43 rfl ?_
      exact Rt.ret (hR) rfl dX0_own_43
  · rw [if_neg (by decide), if_neg (by decide), if_neg (by decide), if_pos rfl] at hR
    refine j_aload_n C dX0_own_0 1 rfl rfl 0 rfl ?_
    refine j_get C dX0_own_1 4 rfl hiX0 0 rfl rfl 2 (by decide) rfl kX0_own__o3_f15 rfl ?_
    refine j_iconst (v := 4) C dX0_own_4 5 rfl (by decide) ?_
    refine j_imul C dX0_own_5 6 rfl ?_
    refine j_vi (v := 12) (by decide) ?_
    refine j_iload_n C dX0_own_6 7 rfl rfl 1 rfl ?_
    refine j_iadd C dX0_own_7 8 rfl ?_
    refine j_vi (v := 15) (by decide) ?_
    refine j_istore C dX0_own_8 10 rfl (by decide) [(4, .int 15), (0, .ref (a 0)), (1, .int 3), (2, .int x2), (3, .int x3)] rfl ?_
    refine j_iload C dX0_own_10 12 rfl 0 rfl ?_
    refine j_iconst (v := 0) C dX0_own_12 13 rfl (by decide) ?_
    refine j_gets C dX0_own_13 16 rfl 4 rfl rfl rfl rfl kX0_own__o3_f36 ?_
    refine j_slen (v := 24) C dX0_own_16 17 rfl 4 rfl (by decide) ?_
    refine j_iconst (v := 1) C dX0_own_17 18 rfl (by decide) ?_
    refine j_isub C dX0_own_18 19 rfl ?_
    refine j_vi (v := 23) (by decide) ?_
    refine j_csN (na := 3) C dX0_own_19 22 rfl (c_X5_isIn τ  (15 : Int32) (0 : Int32) (23 : Int32) ) rfl ggX0_own_X5_isIn rfl rfl rfl kX0_own__o3_iRX5 (host := RX5) (by decide +kernel) kX0_own__o3_sX5_isIn qd_X5_isIn rfl ⟨by decide, by decide⟩ ⟨by decide, by decide⟩ rfl (Nat.le_of_ble_eq_true rfl) (fun r10 u10 hX10 hn10 => ?_)
    obtain rfl := (Prod.mk.inj hX10).1
    refine j_if_eq C dX0_own_22 42 rfl 25 rfl (fun c11 => ?_) (fun c11 => ?_)
    · rw [if_pos c11] at hR
      refine j_iconst (v := 0) C dX0_own_42 43 rfl (by decide) ?_
      exact Rt.ret (hR) rfl dX0_own_43
    · rw [if_neg c11] at hR
      refine j_aload_n C dX0_own_25 26 rfl rfl 1 rfl ?_
      refine j_gets C dX0_own_26 29 rfl 4 rfl rfl rfl rfl kX0_own__o3_f36 ?_
      refine j_iload C dX0_own_29 31 rfl 0 rfl ?_
      refine j_sald C dX0_own_31 32 rfl 4 rfl (by unfold vp_in; decide) 15 rfl ?_
      refine j_vi (v := 13) (by decide) ?_
      refine j_iload_n C dX0_own_32 33 rfl rfl 3 rfl ?_
      refine j_iload_n C dX0_own_33 34 rfl rfl 4 rfl ?_
      refine j_iconst (v := 1) C dX0_own_34 35 rfl (by decide) ?_
      refine j_iadd C dX0_own_35 36 rfl ?_
      refine j_cv0I (na := 3) C dX0_own_36 39 rfl (c_X0_body__b13 τ a bo bg 3 an aa ip x2 (x3 + 1) (by first | assumption | exact RBa0 | (unfold vp_in; decide) | decide) (by first | assumption | exact RBa0 | (unfold vp_in; decide) | decide)) gX0_own_X0_body rfl rfl rfl qd_X0_body__b13 rfl ⟨by decide, by decide⟩ ⟨by decide, by decide⟩ rfl (Nat.le_of_ble_eq_true rfl) rfl 0 0 rfl rfl (fun r12 u12 hX12 hn12 => ?_)
      obtain ⟨bo_12, bg_12⟩ := u12
      rw [hX12] at hR; rw [pr3_mk r12 bo_12 bg_12] at hR
      have hr12 : RBa bg_12 := rc_X0_body__b13 (by first | assumption | exact RBa0) hX12
      refine j_goto C dX0_own_39 43 rfl ?_
      exact Rt.ret (hR) rfl dX0_own_43
  · rw [if_neg (by decide), if_neg (by decide), if_neg (by decide), if_neg (by decide), if_pos rfl] at hR
    refine j_aload_n C dX0_own_0 1 rfl rfl 0 rfl ?_
    refine j_get C dX0_own_1 4 rfl hiX0 0 rfl rfl 2 (by decide) rfl kX0_own__o3_f15 rfl ?_
    refine j_iconst (v := 4) C dX0_own_4 5 rfl (by decide) ?_
    refine j_imul C dX0_own_5 6 rfl ?_
    refine j_vi (v := 16) (by decide) ?_
    refine j_iload_n C dX0_own_6 7 rfl rfl 1 rfl ?_
    refine j_iadd C dX0_own_7 8 rfl ?_
    refine j_vi (v := 19) (by decide) ?_
    refine j_istore C dX0_own_8 10 rfl (by decide) [(4, .int 19), (0, .ref (a 0)), (1, .int 3), (2, .int x2), (3, .int x3)] rfl ?_
    refine j_iload C dX0_own_10 12 rfl 0 rfl ?_
    refine j_iconst (v := 0) C dX0_own_12 13 rfl (by decide) ?_
    refine j_gets C dX0_own_13 16 rfl 4 rfl rfl rfl rfl kX0_own__o3_f36 ?_
    refine j_slen (v := 24) C dX0_own_16 17 rfl 4 rfl (by decide) ?_
    refine j_iconst (v := 1) C dX0_own_17 18 rfl (by decide) ?_
    refine j_isub C dX0_own_18 19 rfl ?_
    refine j_vi (v := 23) (by decide) ?_
    refine j_csN (na := 3) C dX0_own_19 22 rfl (c_X5_isIn τ  (19 : Int32) (0 : Int32) (23 : Int32) ) rfl ggX0_own_X5_isIn rfl rfl rfl kX0_own__o3_iRX5 (host := RX5) (by decide +kernel) kX0_own__o3_sX5_isIn qd_X5_isIn rfl ⟨by decide, by decide⟩ ⟨by decide, by decide⟩ rfl (Nat.le_of_ble_eq_true rfl) (fun r13 u13 hX13 hn13 => ?_)
    obtain rfl := (Prod.mk.inj hX13).1
    refine j_if_eq C dX0_own_22 42 rfl 25 rfl (fun c14 => ?_) (fun c14 => ?_)
    · rw [if_pos c14] at hR
      refine j_iconst (v := 0) C dX0_own_42 43 rfl (by decide) ?_
      exact Rt.ret (hR) rfl dX0_own_43
    · rw [if_neg c14] at hR
      refine j_aload_n C dX0_own_25 26 rfl rfl 1 rfl ?_
      refine j_gets C dX0_own_26 29 rfl 4 rfl rfl rfl rfl kX0_own__o3_f36 ?_
      refine j_iload C dX0_own_29 31 rfl 0 rfl ?_
      refine j_sald C dX0_own_31 32 rfl 4 rfl (by unfold vp_in; decide) 19 rfl ?_
      refine j_vi (v := 31) (by decide) ?_
      refine j_iload_n C dX0_own_32 33 rfl rfl 3 rfl ?_
      refine j_iload_n C dX0_own_33 34 rfl rfl 4 rfl ?_
      refine j_iconst (v := 1) C dX0_own_34 35 rfl (by decide) ?_
      refine j_iadd C dX0_own_35 36 rfl ?_
      refine j_cv0I (na := 3) C dX0_own_36 39 rfl (c_X0_body__b31 τ a bo bg 4 an aa ip x2 (x3 + 1) (by first | assumption | exact RBa0 | (unfold vp_in; decide) | decide) (by first | assumption | exact RBa0 | (unfold vp_in; decide) | decide)) gX0_own_X0_body rfl rfl rfl qd_X0_body__b31 rfl ⟨by decide, by decide⟩ ⟨by decide, by decide⟩ rfl (Nat.le_of_ble_eq_true rfl) rfl 0 0 rfl rfl (fun r15 u15 hX15 hn15 => ?_)
      obtain ⟨bo_15, bg_15, ip_15⟩ := u15
      rw [hX15] at hR; rw [pr4_mk r15 bo_15 bg_15 ip_15] at hR
      have hr15 : RBa bg_15 := rc_X0_body__b31 (by first | assumption | exact RBa0) hX15
      refine j_goto C dX0_own_39 43 rfl ?_
      exact Rt.ret (hR) rfl dX0_own_43
  · rw [if_neg (by decide), if_neg (by decide), if_neg (by decide), if_neg (by decide), if_neg (by decide)] at hR
    refine j_aload_n C dX0_own_0 1 rfl rfl 0 rfl ?_
    refine j_get C dX0_own_1 4 rfl hiX0 0 rfl rfl 2 (by decide) rfl kX0_own__o3_f15 rfl ?_
    refine j_iconst (v := 4) C dX0_own_4 5 rfl (by decide) ?_
    refine j_imul C dX0_own_5 6 rfl ?_
    refine j_vi (v := 20) (by decide) ?_
    refine j_iload_n C dX0_own_6 7 rfl rfl 1 rfl ?_
    refine j_iadd C dX0_own_7 8 rfl ?_
    refine j_vi (v := 23) (by decide) ?_
    refine j_istore C dX0_own_8 10 rfl (by decide) [(4, .int 23), (0, .ref (a 0)), (1, .int 3), (2, .int x2), (3, .int x3)] rfl ?_
    refine j_iload C dX0_own_10 12 rfl 0 rfl ?_
    refine j_iconst (v := 0) C dX0_own_12 13 rfl (by decide) ?_
    refine j_gets C dX0_own_13 16 rfl 4 rfl rfl rfl rfl kX0_own__o3_f36 ?_
    refine j_slen (v := 24) C dX0_own_16 17 rfl 4 rfl (by decide) ?_
    refine j_iconst (v := 1) C dX0_own_17 18 rfl (by decide) ?_
    refine j_isub C dX0_own_18 19 rfl ?_
    refine j_vi (v := 23) (by decide) ?_
    refine j_csN (na := 3) C dX0_own_19 22 rfl (c_X5_isIn τ  (23 : Int32) (0 : Int32) (23 : Int32) ) rfl ggX0_own_X5_isIn rfl rfl rfl kX0_own__o3_iRX5 (host := RX5) (by decide +kernel) kX0_own__o3_sX5_isIn qd_X5_isIn rfl ⟨by decide, by decide⟩ ⟨by decide, by decide⟩ rfl (Nat.le_of_ble_eq_true rfl) (fun r16 u16 hX16 hn16 => ?_)
    obtain rfl := (Prod.mk.inj hX16).1
    refine j_if_eq C dX0_own_22 42 rfl 25 rfl (fun c17 => ?_) (fun c17 => ?_)
    · rw [if_pos c17] at hR
      refine j_iconst (v := 0) C dX0_own_42 43 rfl (by decide) ?_
      exact Rt.ret (hR) rfl dX0_own_43
    · rw [if_neg c17] at hR
      refine j_aload_n C dX0_own_25 26 rfl rfl 1 rfl ?_
      refine j_gets C dX0_own_26 29 rfl 4 rfl rfl rfl rfl kX0_own__o3_f36 ?_
      refine j_iload C dX0_own_29 31 rfl 0 rfl ?_
      refine j_sald C dX0_own_31 32 rfl 4 rfl (by unfold vp_in; decide) 23 rfl ?_
      refine j_vi (v := 60) (by decide) ?_
      refine j_iload_n C dX0_own_32 33 rfl rfl 3 rfl ?_
      refine j_iload_n C dX0_own_33 34 rfl rfl 4 rfl ?_
      refine j_iconst (v := 1) C dX0_own_34 35 rfl (by decide) ?_
      refine j_iadd C dX0_own_35 36 rfl ?_
      refine j_cv0I (na := 3) C dX0_own_36 39 rfl (c_X0_body__b60 τ a bo bg 5 an aa ip x2 (x3 + 1) (by first | assumption | exact RBa0 | (unfold vp_in; decide) | decide) (by first | assumption | exact RBa0 | (unfold vp_in; decide) | decide)) gX0_own_X0_body rfl rfl rfl qd_X0_body__b60 rfl ⟨by decide, by decide⟩ ⟨by decide, by decide⟩ rfl (Nat.le_of_ble_eq_true rfl) rfl 0 0 rfl rfl (fun r18 u18 hX18 hn18 => ?_)
      obtain ⟨bo_18, bg_18⟩ := u18
      rw [hX18] at hR; rw [pr3_mk r18 bo_18 bg_18] at hR
      have hr18 : RBa bg_18 := rc_X0_body__b60 (by first | assumption | exact RBa0) hX18
      refine j_goto C dX0_own_39 43 rfl ?_
      exact Rt.ret (hR) rfl dX0_own_43

theorem rb_X0_own__o3 {bo : Nat → Int32} {bg : Int32} {ak : Int32} {an : Int32} {aa : Int32} {ip : Int32} {x2 : Int32} {x3 : Int32} (h : RBa bg) : RBa (f_X0_own__o3 bo bg ak an aa ip x2 x3).2.2.1 := by
  unfold f_X0_own__o3
  simp only [pr1, pr2, pr3, pr4]
  repeat' split
  all_goals with_reducible first | exact h | exact rb_X0_body__b13 h | exact rb_X0_body__b13 (RBa_s h (by assumption)) | exact rb_X0_body__b31 h | exact rb_X0_body__b31 (RBa_s h (by assumption)) | exact rb_X0_body__b60 h | exact rb_X0_body__b60 (RBa_s h (by assumption)) | exact RBa_s h (by assumption)
theorem rc_X0_own__o3 {bo : Nat → Int32} {bg : Int32} {ak : Int32} {an : Int32} {aa : Int32} {ip : Int32} {x2 : Int32} {x3 : Int32} {r : Int32} {w_bo : Nat → Int32} {w_bg : Int32} {w_ip : Int32} (h : RBa bg) (e : f_X0_own__o3 bo bg ak an aa ip x2 x3 = (r, w_bo, w_bg, w_ip)) : RBa w_bg := by
  have q := rb_X0_own__o3 (bo := bo) (bg := bg) (ak := ak) (an := an) (aa := aa) (ip := ip) (x2 := x2) (x3 := x3) h
  rw [e] at q
  exact q

-- X0_play
def f_X0_play (bo : Nat → Int32) (x1 : Int32) (x2 : Int32) (x3 : Int32) (x4 : Int32) (x5 : Int32) : Int32 × (Nat → Int32) × Int32 × Int32 × Int32 × Int32 × Int32 := (if x4 = 0 then (pr3 (f_X0_own__o0 bo (0 : Int32) x1 x2 x3 (0 : Int32) x5 (0 : Int32)) (fun r1 bo_1 bg_1 => (r1, bo_1, bg_1, x1, x2, x3, (0 : Int32)))) else (if x4 = 1 then (pr3 (f_X0_own__o1 bo (0 : Int32) x1 x2 x3 (0 : Int32) x5 (0 : Int32)) (fun r2 bo_2 bg_2 => (r2, bo_2, bg_2, x1, x2, x3, (0 : Int32)))) else (if x4 = 2 then (pr4 (f_X0_own__o2 bo (0 : Int32) x1 x2 x3 (0 : Int32) x5 (0 : Int32)) (fun r3 bo_3 bg_3 ip_3 => if (ip_3 = 0) then (r3, bo_3, bg_3, x1, x2, x3, ip_3) else (((-15) : Int32), bo_3, bg_3, x1, x2, x3, ip_3))) else (pr4 (f_X0_own__o3 bo (0 : Int32) x1 x2 x3 (0 : Int32) x5 (0 : Int32)) (fun r5 bo_5 bg_5 ip_5 => if (ip_5 = 0) then (r5, bo_5, bg_5, x1, x2, x3, ip_5) else (((-15) : Int32), bo_5, bg_5, x1, x2, x3, ip_5))))))
theorem kX0_play_f15 : Cond.fieldLink RX0 15 "TwoMinutes$Actor" "kind" "I" ∈ wsX0_play := by decide +kernel
theorem kX0_play_f19 : Cond.fieldLink RX0 19 "TwoMinutes$Actor" "n" "I" ∈ wsX0_play := by decide +kernel
theorem kX0_play_f22 : Cond.fieldLink RX0 22 "TwoMinutes$Actor" "a" "I" ∈ wsX0_play := by decide +kernel
theorem kX0_play_f25 : Cond.fieldLink RX0 25 "TwoMinutes$Actor" "begun" "I" ∈ wsX0_play := by decide +kernel
theorem kX0_play_f28 : Cond.fieldLink RX0 28 "TwoMinutes$Actor" "isParted" "Z" ∈ wsX0_play := by decide +kernel
theorem qd_X0_play : yX0_play.cls = RX0 ∧ yX0_play.cls ≠ "java/lang/invoke/MethodHandle" ∧ yX0_play.cls ≠ "java/lang/invoke/VarHandle" ∧ (parseMethodDescriptor yX0_play.desc).map (fun d => d.parameters.length) = some 5 := by decide +kernel
abbrev rmX0_play : Room := { frames := 10, cells := 0, slots := 0, locals := 233 }
set_option maxHeartbeats 4000000 in
set_option maxRecDepth 100000 in
theorem c_X0_play (τ : SX) (a : Nat → Nat) (bo : Nat → Int32) (bg : Int32) (ak : Int32) (an : Int32) (aa : Int32) (ip : Int32) (x1 : Int32) (x2 : Int32) (x3 : Int32) (x4 : Int32) (x5 : Int32) (hk : x1 = 0 ∨ x1 = 1 ∨ x1 = 2 ∨ x1 = 3 ∨ x1 = 4 ∨ x1 = 5) (ha : x4 = 0 ∨ x4 = 1 ∨ x4 = 2 ∨ x4 = 3) (sz : Nat) : McI τ yX0_play wsX0_play rmX0_play .int [.ref (a 0), .int x1, .int x2, .int x3, .int x4, .int x5] (wA τ a bo bg ak an aa ip) (fun u : (Nat → Int32) × Int32 × Int32 × Int32 × Int32 × Int32 => (wA τ a u.1 u.2.1 u.2.2.1 u.2.2.2.1 u.2.2.2.2.1 u.2.2.2.2.2)) (f_X0_play bo x1 x2 x3 x4 x5) sz := by
  refine mc_I (cc := cX0_play) (own := RX0) [(0, .ref (a 0)), (1, .int x1), (2, .int x2), (3, .int x3), (4, .int x4), (5, .int x5)] rfl (by decide) rfl rfl (Nat.le_of_ble_eq_true rfl) (fun κ C hR => ?_)
  have hiX0 : ∀ w ∈ wsX00, w ∈ wsX0_play := fun w h => List.mem_cons_of_mem _ (List.mem_append_right _ h)
  unfold f_X0_play at hR
  rcases ha with rfl | rfl | rfl | rfl
  · rw [if_pos rfl] at hR
    refine j_aload_n C dX0_play_0 1 rfl rfl 0 rfl ?_
    refine j_iload_n C dX0_play_1 2 rfl rfl 1 rfl ?_
    refine j_put C dX0_play_2 5 rfl hiX0 tyX0_ok nmX0 0 rfl rfl 2 (by decide) rfl kX0_play_f15 rfl rfl rfl (Nat.le_of_ble_eq_true rfl) (wA τ a bo bg x1 an aa ip) rfl ?_
    refine j_aload_n C dX0_play_5 6 rfl rfl 0 rfl ?_
    refine j_iload_n C dX0_play_6 7 rfl rfl 2 rfl ?_
    refine j_put C dX0_play_7 10 rfl hiX0 tyX0_ok nmX0 0 rfl rfl 3 (by decide) rfl kX0_play_f19 rfl rfl rfl (Nat.le_of_ble_eq_true rfl) (wA τ a bo bg x1 x2 aa ip) rfl ?_
    refine j_aload_n C dX0_play_10 11 rfl rfl 0 rfl ?_
    refine j_iload_n C dX0_play_11 12 rfl rfl 3 rfl ?_
    refine j_put C dX0_play_12 15 rfl hiX0 tyX0_ok nmX0 0 rfl rfl 4 (by decide) rfl kX0_play_f22 rfl rfl rfl (Nat.le_of_ble_eq_true rfl) (wA τ a bo bg x1 x2 x3 ip) rfl ?_
    refine j_aload_n C dX0_play_15 16 rfl rfl 0 rfl ?_
    refine j_iconst (v := 0) C dX0_play_16 17 rfl (by decide) ?_
    refine j_put C dX0_play_17 20 rfl hiX0 tyX0_ok nmX0 0 rfl rfl 1 (by decide) rfl kX0_play_f25 rfl rfl rfl (Nat.le_of_ble_eq_true rfl) (wA τ a bo 0 x1 x2 x3 ip) rfl ?_
    refine j_aload_n C dX0_play_20 21 rfl rfl 0 rfl ?_
    refine j_iconst (v := 0) C dX0_play_21 22 rfl (by decide) ?_
    refine j_put C dX0_play_22 25 rfl hiX0 tyX0_ok nmX0 0 rfl rfl 5 (by decide) rfl kX0_play_f28 rfl rfl rfl (Nat.le_of_ble_eq_true rfl) (wA τ a bo 0 x1 x2 x3 0) rfl ?_
    refine j_aload_n C dX0_play_25 26 rfl rfl 0 rfl ?_
    refine j_iload C dX0_play_26 28 rfl 4 rfl ?_
    refine j_iload C dX0_play_28 30 rfl 5 rfl ?_
    refine j_iconst (v := 0) C dX0_play_30 31 rfl (by decide) ?_
    refine j_cv0I (na := 3) C dX0_play_31 34 rfl (c_X0_own__o0 τ a bo 0 x1 x2 x3 0 x5 (0 : Int32) (by first | assumption | exact RBa0 | (unfold vp_in; decide) | decide) (by first | assumption | exact RBa0 | (unfold vp_in; decide) | decide)) gX0_play_X0_own rfl rfl rfl qd_X0_own__o0 rfl ⟨by decide, by decide⟩ ⟨by decide, by decide⟩ rfl (Nat.le_of_ble_eq_true rfl) rfl 0 0 rfl rfl (fun r1 u1 hX1 hn1 => ?_)
    obtain ⟨bo_1, bg_1⟩ := u1
    rw [hX1] at hR; rw [pr3_mk r1 bo_1 bg_1] at hR
    have hr1 : RBa bg_1 := rc_X0_own__o0 (by first | assumption | exact RBa0) hX1
    refine j_istore C dX0_play_34 36 rfl (by decide) [(6, .int r1), (0, .ref (a 0)), (1, .int x1), (2, .int x2), (3, .int x3), (4, .int 0), (5, .int x5)] rfl ?_
    refine j_aload_n C dX0_play_36 37 rfl rfl 1 rfl ?_
    refine j_get C dX0_play_37 40 rfl hiX0 0 rfl rfl 5 (by decide) rfl kX0_play_f28 rfl ?_
    refine j_if_eq C dX0_play_40 48 rfl 43 rfl (fun _ => ?_) (fun c => absurd (by decide) c)
    refine j_iload C dX0_play_48 50 rfl 0 rfl ?_
    exact Rt.ret (hR) rfl dX0_play_50
  · rw [if_neg (by decide), if_pos rfl] at hR
    refine j_aload_n C dX0_play_0 1 rfl rfl 0 rfl ?_
    refine j_iload_n C dX0_play_1 2 rfl rfl 1 rfl ?_
    refine j_put C dX0_play_2 5 rfl hiX0 tyX0_ok nmX0 0 rfl rfl 2 (by decide) rfl kX0_play_f15 rfl rfl rfl (Nat.le_of_ble_eq_true rfl) (wA τ a bo bg x1 an aa ip) rfl ?_
    refine j_aload_n C dX0_play_5 6 rfl rfl 0 rfl ?_
    refine j_iload_n C dX0_play_6 7 rfl rfl 2 rfl ?_
    refine j_put C dX0_play_7 10 rfl hiX0 tyX0_ok nmX0 0 rfl rfl 3 (by decide) rfl kX0_play_f19 rfl rfl rfl (Nat.le_of_ble_eq_true rfl) (wA τ a bo bg x1 x2 aa ip) rfl ?_
    refine j_aload_n C dX0_play_10 11 rfl rfl 0 rfl ?_
    refine j_iload_n C dX0_play_11 12 rfl rfl 3 rfl ?_
    refine j_put C dX0_play_12 15 rfl hiX0 tyX0_ok nmX0 0 rfl rfl 4 (by decide) rfl kX0_play_f22 rfl rfl rfl (Nat.le_of_ble_eq_true rfl) (wA τ a bo bg x1 x2 x3 ip) rfl ?_
    refine j_aload_n C dX0_play_15 16 rfl rfl 0 rfl ?_
    refine j_iconst (v := 0) C dX0_play_16 17 rfl (by decide) ?_
    refine j_put C dX0_play_17 20 rfl hiX0 tyX0_ok nmX0 0 rfl rfl 1 (by decide) rfl kX0_play_f25 rfl rfl rfl (Nat.le_of_ble_eq_true rfl) (wA τ a bo 0 x1 x2 x3 ip) rfl ?_
    refine j_aload_n C dX0_play_20 21 rfl rfl 0 rfl ?_
    refine j_iconst (v := 0) C dX0_play_21 22 rfl (by decide) ?_
    refine j_put C dX0_play_22 25 rfl hiX0 tyX0_ok nmX0 0 rfl rfl 5 (by decide) rfl kX0_play_f28 rfl rfl rfl (Nat.le_of_ble_eq_true rfl) (wA τ a bo 0 x1 x2 x3 0) rfl ?_
    refine j_aload_n C dX0_play_25 26 rfl rfl 0 rfl ?_
    refine j_iload C dX0_play_26 28 rfl 4 rfl ?_
    refine j_iload C dX0_play_28 30 rfl 5 rfl ?_
    refine j_iconst (v := 0) C dX0_play_30 31 rfl (by decide) ?_
    refine j_cv0I (na := 3) C dX0_play_31 34 rfl (c_X0_own__o1 τ a bo 0 x1 x2 x3 0 x5 (0 : Int32) (by first | assumption | exact RBa0 | (unfold vp_in; decide) | decide) (by first | assumption | exact RBa0 | (unfold vp_in; decide) | decide)) gX0_play_X0_own rfl rfl rfl qd_X0_own__o1 rfl ⟨by decide, by decide⟩ ⟨by decide, by decide⟩ rfl (Nat.le_of_ble_eq_true rfl) rfl 0 0 rfl rfl (fun r2 u2 hX2 hn2 => ?_)
    obtain ⟨bo_2, bg_2⟩ := u2
    rw [hX2] at hR; rw [pr3_mk r2 bo_2 bg_2] at hR
    have hr2 : RBa bg_2 := rc_X0_own__o1 (by first | assumption | exact RBa0) hX2
    refine j_istore C dX0_play_34 36 rfl (by decide) [(6, .int r2), (0, .ref (a 0)), (1, .int x1), (2, .int x2), (3, .int x3), (4, .int 1), (5, .int x5)] rfl ?_
    refine j_aload_n C dX0_play_36 37 rfl rfl 1 rfl ?_
    refine j_get C dX0_play_37 40 rfl hiX0 0 rfl rfl 5 (by decide) rfl kX0_play_f28 rfl ?_
    refine j_if_eq C dX0_play_40 48 rfl 43 rfl (fun _ => ?_) (fun c => absurd (by decide) c)
    refine j_iload C dX0_play_48 50 rfl 0 rfl ?_
    exact Rt.ret (hR) rfl dX0_play_50
  · rw [if_neg (by decide), if_neg (by decide), if_pos rfl] at hR
    refine j_aload_n C dX0_play_0 1 rfl rfl 0 rfl ?_
    refine j_iload_n C dX0_play_1 2 rfl rfl 1 rfl ?_
    refine j_put C dX0_play_2 5 rfl hiX0 tyX0_ok nmX0 0 rfl rfl 2 (by decide) rfl kX0_play_f15 rfl rfl rfl (Nat.le_of_ble_eq_true rfl) (wA τ a bo bg x1 an aa ip) rfl ?_
    refine j_aload_n C dX0_play_5 6 rfl rfl 0 rfl ?_
    refine j_iload_n C dX0_play_6 7 rfl rfl 2 rfl ?_
    refine j_put C dX0_play_7 10 rfl hiX0 tyX0_ok nmX0 0 rfl rfl 3 (by decide) rfl kX0_play_f19 rfl rfl rfl (Nat.le_of_ble_eq_true rfl) (wA τ a bo bg x1 x2 aa ip) rfl ?_
    refine j_aload_n C dX0_play_10 11 rfl rfl 0 rfl ?_
    refine j_iload_n C dX0_play_11 12 rfl rfl 3 rfl ?_
    refine j_put C dX0_play_12 15 rfl hiX0 tyX0_ok nmX0 0 rfl rfl 4 (by decide) rfl kX0_play_f22 rfl rfl rfl (Nat.le_of_ble_eq_true rfl) (wA τ a bo bg x1 x2 x3 ip) rfl ?_
    refine j_aload_n C dX0_play_15 16 rfl rfl 0 rfl ?_
    refine j_iconst (v := 0) C dX0_play_16 17 rfl (by decide) ?_
    refine j_put C dX0_play_17 20 rfl hiX0 tyX0_ok nmX0 0 rfl rfl 1 (by decide) rfl kX0_play_f25 rfl rfl rfl (Nat.le_of_ble_eq_true rfl) (wA τ a bo 0 x1 x2 x3 ip) rfl ?_
    refine j_aload_n C dX0_play_20 21 rfl rfl 0 rfl ?_
    refine j_iconst (v := 0) C dX0_play_21 22 rfl (by decide) ?_
    refine j_put C dX0_play_22 25 rfl hiX0 tyX0_ok nmX0 0 rfl rfl 5 (by decide) rfl kX0_play_f28 rfl rfl rfl (Nat.le_of_ble_eq_true rfl) (wA τ a bo 0 x1 x2 x3 0) rfl ?_
    refine j_aload_n C dX0_play_25 26 rfl rfl 0 rfl ?_
    refine j_iload C dX0_play_26 28 rfl 4 rfl ?_
    refine j_iload C dX0_play_28 30 rfl 5 rfl ?_
    refine j_iconst (v := 0) C dX0_play_30 31 rfl (by decide) ?_
    refine j_cv0I (na := 3) C dX0_play_31 34 rfl (c_X0_own__o2 τ a bo 0 x1 x2 x3 0 x5 (0 : Int32) (by first | assumption | exact RBa0 | (unfold vp_in; decide) | decide) (by first | assumption | exact RBa0 | (unfold vp_in; decide) | decide)) gX0_play_X0_own rfl rfl rfl qd_X0_own__o2 rfl ⟨by decide, by decide⟩ ⟨by decide, by decide⟩ rfl (Nat.le_of_ble_eq_true rfl) rfl 0 0 rfl rfl (fun r3 u3 hX3 hn3 => ?_)
    obtain ⟨bo_3, bg_3, ip_3⟩ := u3
    rw [hX3] at hR; rw [pr4_mk r3 bo_3 bg_3 ip_3] at hR
    have hr3 : RBa bg_3 := rc_X0_own__o2 (by first | assumption | exact RBa0) hX3
    refine j_istore C dX0_play_34 36 rfl (by decide) [(6, .int r3), (0, .ref (a 0)), (1, .int x1), (2, .int x2), (3, .int x3), (4, .int 2), (5, .int x5)] rfl ?_
    refine j_aload_n C dX0_play_36 37 rfl rfl 1 rfl ?_
    refine j_get C dX0_play_37 40 rfl hiX0 0 rfl rfl 5 (by decide) rfl kX0_play_f28 rfl ?_
    refine j_if_eq C dX0_play_40 48 rfl 43 rfl (fun c4 => ?_) (fun c4 => ?_)
    · rw [if_pos c4] at hR
      refine j_iload C dX0_play_48 50 rfl 0 rfl ?_
      exact Rt.ret (hR) rfl dX0_play_50
    · rw [if_neg c4] at hR
      refine j_bipush (v := (-15)) C dX0_play_43 45 rfl (by decide) ?_
      refine j_goto C dX0_play_45 50 rfl ?_
      exact Rt.ret (hR) rfl dX0_play_50
  · rw [if_neg (by decide), if_neg (by decide), if_neg (by decide)] at hR
    refine j_aload_n C dX0_play_0 1 rfl rfl 0 rfl ?_
    refine j_iload_n C dX0_play_1 2 rfl rfl 1 rfl ?_
    refine j_put C dX0_play_2 5 rfl hiX0 tyX0_ok nmX0 0 rfl rfl 2 (by decide) rfl kX0_play_f15 rfl rfl rfl (Nat.le_of_ble_eq_true rfl) (wA τ a bo bg x1 an aa ip) rfl ?_
    refine j_aload_n C dX0_play_5 6 rfl rfl 0 rfl ?_
    refine j_iload_n C dX0_play_6 7 rfl rfl 2 rfl ?_
    refine j_put C dX0_play_7 10 rfl hiX0 tyX0_ok nmX0 0 rfl rfl 3 (by decide) rfl kX0_play_f19 rfl rfl rfl (Nat.le_of_ble_eq_true rfl) (wA τ a bo bg x1 x2 aa ip) rfl ?_
    refine j_aload_n C dX0_play_10 11 rfl rfl 0 rfl ?_
    refine j_iload_n C dX0_play_11 12 rfl rfl 3 rfl ?_
    refine j_put C dX0_play_12 15 rfl hiX0 tyX0_ok nmX0 0 rfl rfl 4 (by decide) rfl kX0_play_f22 rfl rfl rfl (Nat.le_of_ble_eq_true rfl) (wA τ a bo bg x1 x2 x3 ip) rfl ?_
    refine j_aload_n C dX0_play_15 16 rfl rfl 0 rfl ?_
    refine j_iconst (v := 0) C dX0_play_16 17 rfl (by decide) ?_
    refine j_put C dX0_play_17 20 rfl hiX0 tyX0_ok nmX0 0 rfl rfl 1 (by decide) rfl kX0_play_f25 rfl rfl rfl (Nat.le_of_ble_eq_true rfl) (wA τ a bo 0 x1 x2 x3 ip) rfl ?_
    refine j_aload_n C dX0_play_20 21 rfl rfl 0 rfl ?_
    refine j_iconst (v := 0) C dX0_play_21 22 rfl (by decide) ?_
    refine j_put C dX0_play_22 25 rfl hiX0 tyX0_ok nmX0 0 rfl rfl 5 (by decide) rfl kX0_play_f28 rfl rfl rfl (Nat.le_of_ble_eq_true rfl) (wA τ a bo 0 x1 x2 x3 0) rfl ?_
    refine j_aload_n C dX0_play_25 26 rfl rfl 0 rfl ?_
    refine j_iload C dX0_play_26 28 rfl 4 rfl ?_
    refine j_iload C dX0_play_28 30 rfl 5 rfl ?_
    refine j_iconst (v := 0) C dX0_play_30 31 rfl (by decide) ?_
    refine j_cv0I (na := 3) C dX0_play_31 34 rfl (c_X0_own__o3 τ a bo 0 x1 x2 x3 0 x5 (0 : Int32) (by first | assumption | exact RBa0 | (unfold vp_in; decide) | decide) (by first | assumption | exact RBa0 | (unfold vp_in; decide) | decide)) gX0_play_X0_own rfl rfl rfl qd_X0_own__o3 rfl ⟨by decide, by decide⟩ ⟨by decide, by decide⟩ rfl (Nat.le_of_ble_eq_true rfl) rfl 0 0 rfl rfl (fun r5 u5 hX5 hn5 => ?_)
    obtain ⟨bo_5, bg_5, ip_5⟩ := u5
    rw [hX5] at hR; rw [pr4_mk r5 bo_5 bg_5 ip_5] at hR
    have hr5 : RBa bg_5 := rc_X0_own__o3 (by first | assumption | exact RBa0) hX5
    refine j_istore C dX0_play_34 36 rfl (by decide) [(6, .int r5), (0, .ref (a 0)), (1, .int x1), (2, .int x2), (3, .int x3), (4, .int 3), (5, .int x5)] rfl ?_
    refine j_aload_n C dX0_play_36 37 rfl rfl 1 rfl ?_
    refine j_get C dX0_play_37 40 rfl hiX0 0 rfl rfl 5 (by decide) rfl kX0_play_f28 rfl ?_
    refine j_if_eq C dX0_play_40 48 rfl 43 rfl (fun c6 => ?_) (fun c6 => ?_)
    · rw [if_pos c6] at hR
      refine j_iload C dX0_play_48 50 rfl 0 rfl ?_
      exact Rt.ret (hR) rfl dX0_play_50
    · rw [if_neg c6] at hR
      refine j_bipush (v := (-15)) C dX0_play_43 45 rfl (by decide) ?_
      refine j_goto C dX0_play_45 50 rfl ?_
      exact Rt.ret (hR) rfl dX0_play_50

