def RB (x : Int32) : Prop := 0 ≤ x.toInt ∧ x.toInt ≤ 30
theorem RB0 : RB 0 := by unfold RB; decide
theorem RB_in {x : Int32} (h : RB x) (c : ¬ (30 : Int32) ≤ x) : vp_in x 30 := by
  rw [i32_le, show (30 : Int32).toInt = 30 from rfl] at c
  exact vpI h.1 (by omega)
theorem sub_nz {x y : Int32} (h : ¬ x = y) : ¬ (y - x) = 0 := fun e => h (by
  have e2 : y - x + x = 0 + x := by rw [e]
  rw [Int32.sub_add_cancel, Int32.zero_add] at e2
  exact e2.symm)
theorem fzN {v : Int32} (h : narrow .boolean (.int v) = .int v) : fits .boolean (.int v) = true := by
  have h1 : v &&& 1 = v := Value.int.inj h
  have h2 : v.toBitVec.toNat < 2 := by
    rw [← h1, Int32.toBitVec_and, BitVec.toNat_and]
    exact Nat.lt_of_le_of_lt Nat.and_le_right (by decide)
  have h3 : v = Int32.ofNat v.toBitVec.toNat := bS_of (show v.toBitVec.toNat < 256 by omega)
  show (v == 0 || v == 1) = true
  rcases (show v.toBitVec.toNat = 0 ∨ v.toBitVec.toNat = 1 by omega) with q | q
  · rw [h3, q]; rfl
  · rw [h3, q]; rfl

-- X6_runs
def f_X6_runs (mbo : Nat → Int32) (mrr : Int32) (x1 : Int32) : (Nat → Int32) × Int32 := if (30 ≤ mrr) then (mbo, mrr) else ((upd mbo (mrr).toNatClampNeg x1), (mrr + 1))
theorem kX6_runs_f281 : Cond.fieldLink RX6 281 "TwoMinutesModel" "ran" "I" ∈ wsX6_runs := by decide +kernel
theorem kX6_runs_f49 : Cond.fieldLink RX6 49 "TwoMinutesModel" "bodies" "[I" ∈ wsX6_runs := by decide +kernel
theorem qd_X6_runs : yX6_runs.cls = RX6 ∧ yX6_runs.cls ≠ "java/lang/invoke/MethodHandle" ∧ yX6_runs.cls ≠ "java/lang/invoke/VarHandle" ∧ (parseMethodDescriptor yX6_runs.desc).map (fun d => d.parameters.length) = some 1 := by decide +kernel
abbrev rmX6_runs : Room := { frames := 0, cells := 0, slots := 0, locals := 0 }
set_option maxHeartbeats 4000000 in
set_option maxRecDepth 100000 in
theorem c_X6_runs (τ : SX) (a : Nat → Nat) (ss : Nat → Int32) (mhd : Nat → Int32) (mas : Nat → Int32) (mbf : Nat → Int32) (mih : Int32) (mtp : Nat → Int32) (mtn : Int32) (mtk : Int32) (mfr : Int32) (mtt : Int32) (mvl : Int32) (miw : Int32) (mld : Nat → Int32) (mrw : Nat → Int32) (mrn : Int32) (mso : Nat → Int32) (msz : Nat → Int32) (mnu : Nat → Int32) (mhw : Nat → Int32) (mhh : Nat → Int32) (mhm : Nat → Int32) (mbo : Nat → Int32) (mrr : Int32) (mak : Int32) (man : Int32) (maa : Int32) (mip : Int32) (x1 : Int32) (hr : RB mrr) (sz : Nat) : McV τ yX6_runs wsX6_runs rmX6_runs [.ref (a 0), .int x1] (wM τ a ss mhd mas mbf mih mtp mtn mtk mfr mtt mvl miw mld mrw mrn mso msz mnu mhw mhh mhm mbo mrr mak man maa mip) (fun u : (Nat → Int32) × Int32 => (wM τ a ss mhd mas mbf mih mtp mtn mtk mfr mtt mvl miw mld mrw mrn mso msz mnu mhw mhh mhm u.1 u.2 mak man maa mip)) (f_X6_runs mbo mrr x1) 0 0 sz := by
  refine mc_V (cc := cX6_runs) (own := RX6) [(0, .ref (a 0)), (1, .int x1)] rfl (by decide) rfl rfl (Nat.le_of_ble_eq_true rfl) (fun κ C _ hR => ?_)
  have hiX6 : ∀ w ∈ wsX60, w ∈ wsX6_runs := fun w h => List.mem_cons_of_mem _ (List.mem_append_right _ h)
  unfold f_X6_runs at hR
  refine j_aload_n C dX6_runs_0 1 rfl rfl 0 rfl ?_
  refine j_get C dX6_runs_1 4 rfl hiX6 0 rfl rfl 22 (by decide) rfl kX6_runs_f281 rfl ?_
  refine j_bipush (v := 30) C dX6_runs_4 6 rfl (by decide) ?_
  refine j_icmp_ge C dX6_runs_6 29 rfl 9 rfl (fun c1 => ?_) (fun c1 => ?_)
  · rw [if_pos c1] at hR
    exact hR _ _ dX6_runs_29
  · rw [if_neg c1] at hR
    refine j_aload_n C dX6_runs_9 10 rfl rfl 0 rfl ?_
    refine j_get C dX6_runs_10 13 rfl hiX6 0 rfl rfl 21 (by decide) rfl kX6_runs_f49 rfl ?_
    refine j_aload_n C dX6_runs_13 14 rfl rfl 0 rfl ?_
    refine j_get C dX6_runs_14 17 rfl hiX6 0 rfl rfl 22 (by decide) rfl kX6_runs_f281 rfl ?_
    refine j_iload_n C dX6_runs_17 18 rfl rfl 1 rfl ?_
    refine j_iast C dX6_runs_18 19 rfl 14 rfl (RB_in hr (by assumption)) (mrr).toNatClampNeg rfl (wM τ a ss mhd mas mbf mih mtp mtn mtk mfr mtt mvl miw mld mrw mrn mso msz mnu mhw mhh mhm (upd mbo (mrr).toNatClampNeg x1) mrr mak man maa mip) rfl ?_
    refine j_aload_n C dX6_runs_19 20 rfl rfl 0 rfl ?_
    refine j_dup C dX6_runs_20 21 rfl rfl ?_
    refine j_get C dX6_runs_21 24 rfl hiX6 0 rfl rfl 22 (by decide) rfl kX6_runs_f281 rfl ?_
    refine j_iconst (v := 1) C dX6_runs_24 25 rfl (by decide) ?_
    refine j_iadd C dX6_runs_25 26 rfl ?_
    refine j_put C dX6_runs_26 29 rfl hiX6 tyX6_ok nmX6 0 rfl rfl 22 (by decide) rfl kX6_runs_f281 rfl rfl rfl (Nat.le_of_ble_eq_true rfl) (wM τ a ss mhd mas mbf mih mtp mtn mtk mfr mtt mvl miw mld mrw mrn mso msz mnu mhw mhh mhm (upd mbo (mrr).toNatClampNeg x1) (mrr + 1) mak man maa mip) rfl ?_
    exact hR _ _ dX6_runs_29

theorem rb_runs {mbo : Nat → Int32} {mrr x1 : Int32} (h : RB mrr) : RB (f_X6_runs mbo mrr x1).2 := by
  unfold f_X6_runs
  by_cases c : (30 : Int32) ≤ mrr
  · rw [if_pos c]; exact h
  · rw [if_neg c]
    have hs := cnt_step (B := 30) h.1 (by decide) (by decide) c
    exact ⟨hs.1, hs.2.1⟩
theorem rc_runs {mbo b : Nat → Int32} {mrr x1 m : Int32} (h : RB mrr) (e : f_X6_runs mbo mrr x1 = (b, m)) : RB m := by
  have q := rb_runs (mbo := mbo) (x1 := x1) h
  rw [e] at q
  exact q

-- X6_ticksPlain
def f_X6_ticksPlain (mbo : Nat → Int32) (mrr : Int32) (man : Int32) (x1 : Int32) : Int32 × (Nat → Int32) × Int32 := pr2 (f_X6_runs mbo mrr (10 : Int32)) (fun mbo_1 mrr_1 => (((x1 * 6) + man), mbo_1, mrr_1))
theorem kX6_ticksPlain_f287 : Cond.fieldLink RX6 287 "TwoMinutesModel" "actN" "I" ∈ wsX6_ticksPlain := by decide +kernel
theorem qd_X6_ticksPlain : yX6_ticksPlain.cls = RX6 ∧ yX6_ticksPlain.cls ≠ "java/lang/invoke/MethodHandle" ∧ yX6_ticksPlain.cls ≠ "java/lang/invoke/VarHandle" ∧ (parseMethodDescriptor yX6_ticksPlain.desc).map (fun d => d.parameters.length) = some 1 := by decide +kernel
abbrev rmX6_ticksPlain : Room := { frames := 1, cells := 0, slots := 0, locals := 21 }
set_option maxHeartbeats 4000000 in
set_option maxRecDepth 100000 in
theorem c_X6_ticksPlain (τ : SX) (a : Nat → Nat) (ss : Nat → Int32) (mhd : Nat → Int32) (mas : Nat → Int32) (mbf : Nat → Int32) (mih : Int32) (mtp : Nat → Int32) (mtn : Int32) (mtk : Int32) (mfr : Int32) (mtt : Int32) (mvl : Int32) (miw : Int32) (mld : Nat → Int32) (mrw : Nat → Int32) (mrn : Int32) (mso : Nat → Int32) (msz : Nat → Int32) (mnu : Nat → Int32) (mhw : Nat → Int32) (mhh : Nat → Int32) (mhm : Nat → Int32) (mbo : Nat → Int32) (mrr : Int32) (mak : Int32) (man : Int32) (maa : Int32) (mip : Int32) (x1 : Int32) (hr : RB mrr) (sz : Nat) : McI τ yX6_ticksPlain wsX6_ticksPlain rmX6_ticksPlain .int [.ref (a 0), .int x1] (wM τ a ss mhd mas mbf mih mtp mtn mtk mfr mtt mvl miw mld mrw mrn mso msz mnu mhw mhh mhm mbo mrr mak man maa mip) (fun u : (Nat → Int32) × Int32 => (wM τ a ss mhd mas mbf mih mtp mtn mtk mfr mtt mvl miw mld mrw mrn mso msz mnu mhw mhh mhm u.1 u.2 mak man maa mip)) (f_X6_ticksPlain mbo mrr man x1) sz := by
  refine mc_I (cc := cX6_ticksPlain) (own := RX6) [(0, .ref (a 0)), (1, .int x1)] rfl (by decide) rfl rfl (Nat.le_of_ble_eq_true rfl) (fun κ C hR => ?_)
  have hiX6 : ∀ w ∈ wsX60, w ∈ wsX6_ticksPlain := fun w h => List.mem_cons_of_mem _ (List.mem_append_right _ h)
  unfold f_X6_ticksPlain at hR
  refine j_aload_n C dX6_ticksPlain_0 1 rfl rfl 0 rfl ?_
  refine j_bipush (v := 10) C dX6_ticksPlain_1 3 rfl (by decide) ?_
  refine j_cv0V (na := 1) C dX6_ticksPlain_3 6 rfl (c_X6_runs τ a ss mhd mas mbf mih mtp mtn mtk mfr mtt mvl miw mld mrw mrn mso msz mnu mhw mhh mhm mbo mrr mak man maa mip (10 : Int32) (by first | assumption | exact RB0 | (unfold vp_in; decide) | decide)) gX6_ticksPlain_X6_runs rfl rfl rfl qd_X6_runs rfl ⟨by decide, by decide⟩ ⟨by decide, by decide⟩ rfl (Nat.le_of_ble_eq_true rfl) rfl 6 0 rfl rfl (fun u1 hX1 => ?_)
  obtain ⟨mbo_1, mrr_1⟩ := u1
  rw [hX1] at hR; rw [pr2_mk mbo_1 mrr_1] at hR
  have hr1 : RB mrr_1 := rc_runs (by first | assumption | exact RB0) hX1
  refine j_iload_n C dX6_ticksPlain_6 7 rfl rfl 1 rfl ?_
  refine j_bipush (v := 6) C dX6_ticksPlain_7 9 rfl (by decide) ?_
  refine j_imul C dX6_ticksPlain_9 10 rfl ?_
  refine j_aload_n C dX6_ticksPlain_10 11 rfl rfl 0 rfl ?_
  refine j_get C dX6_ticksPlain_11 14 rfl hiX6 0 rfl rfl 24 (by decide) rfl kX6_ticksPlain_f287 rfl ?_
  refine j_iadd C dX6_ticksPlain_14 15 rfl ?_
  exact Rt.ret (hR) rfl dX6_ticksPlain_15

theorem rb_ticksPlain {mbo : Nat → Int32} {mrr : Int32} {man : Int32} {x1 : Int32} (h : RB mrr) : RB (f_X6_ticksPlain mbo mrr man x1).2.2 := by
  unfold f_X6_ticksPlain
  simp only [pr1, pr2, pr3, pr4]
  repeat' split
  all_goals with_reducible first | exact rb_runs h
theorem rc_ticksPlain {mbo : Nat → Int32} {mrr : Int32} {man : Int32} {x1 : Int32} {r : Int32} {w_mbo : Nat → Int32} {w_mrr : Int32} (h : RB mrr) (e : f_X6_ticksPlain mbo mrr man x1 = (r, w_mbo, w_mrr)) : RB w_mrr := by
  have q := rb_ticksPlain (mbo := mbo) (mrr := mrr) (man := man) (x1 := x1) h
  rw [e] at q
  exact q

-- X6_ticksOfSoldier
def f_X6_ticksOfSoldier (mbo : Nat → Int32) (mrr : Int32) (man : Int32) (x1 : Int32) : Int32 × (Nat → Int32) × Int32 := pr2 (f_X6_runs mbo mrr (30 : Int32)) (fun mbo_1 mrr_1 => pr3 (f_X6_ticksPlain mbo_1 mrr_1 man x1) (fun r2 mbo_2 mrr_2 => (((0 : Int32) - r2), mbo_2, mrr_2)))
theorem qd_X6_ticksOfSoldier : yX6_ticksOfSoldier.cls = RX6 ∧ yX6_ticksOfSoldier.cls ≠ "java/lang/invoke/MethodHandle" ∧ yX6_ticksOfSoldier.cls ≠ "java/lang/invoke/VarHandle" ∧ (parseMethodDescriptor yX6_ticksOfSoldier.desc).map (fun d => d.parameters.length) = some 1 := by decide +kernel
abbrev rmX6_ticksOfSoldier : Room := { frames := 2, cells := 0, slots := 0, locals := 42 }
set_option maxHeartbeats 4000000 in
set_option maxRecDepth 100000 in
theorem c_X6_ticksOfSoldier (τ : SX) (a : Nat → Nat) (ss : Nat → Int32) (mhd : Nat → Int32) (mas : Nat → Int32) (mbf : Nat → Int32) (mih : Int32) (mtp : Nat → Int32) (mtn : Int32) (mtk : Int32) (mfr : Int32) (mtt : Int32) (mvl : Int32) (miw : Int32) (mld : Nat → Int32) (mrw : Nat → Int32) (mrn : Int32) (mso : Nat → Int32) (msz : Nat → Int32) (mnu : Nat → Int32) (mhw : Nat → Int32) (mhh : Nat → Int32) (mhm : Nat → Int32) (mbo : Nat → Int32) (mrr : Int32) (mak : Int32) (man : Int32) (maa : Int32) (mip : Int32) (x1 : Int32) (hr : RB mrr) (sz : Nat) : McI τ yX6_ticksOfSoldier wsX6_ticksOfSoldier rmX6_ticksOfSoldier .int [.ref (a 0), .int x1] (wM τ a ss mhd mas mbf mih mtp mtn mtk mfr mtt mvl miw mld mrw mrn mso msz mnu mhw mhh mhm mbo mrr mak man maa mip) (fun u : (Nat → Int32) × Int32 => (wM τ a ss mhd mas mbf mih mtp mtn mtk mfr mtt mvl miw mld mrw mrn mso msz mnu mhw mhh mhm u.1 u.2 mak man maa mip)) (f_X6_ticksOfSoldier mbo mrr man x1) sz := by
  refine mc_I (cc := cX6_ticksOfSoldier) (own := RX6) [(0, .ref (a 0)), (1, .int x1)] rfl (by decide) rfl rfl (Nat.le_of_ble_eq_true rfl) (fun κ C hR => ?_)
  have hiX6 : ∀ w ∈ wsX60, w ∈ wsX6_ticksOfSoldier := fun w h => List.mem_cons_of_mem _ (List.mem_append_right _ h)
  unfold f_X6_ticksOfSoldier at hR
  refine j_aload_n C dX6_ticksOfSoldier_0 1 rfl rfl 0 rfl ?_
  refine j_bipush (v := 30) C dX6_ticksOfSoldier_1 3 rfl (by decide) ?_
  refine j_cv0V (na := 1) C dX6_ticksOfSoldier_3 6 rfl (c_X6_runs τ a ss mhd mas mbf mih mtp mtn mtk mfr mtt mvl miw mld mrw mrn mso msz mnu mhw mhh mhm mbo mrr mak man maa mip (30 : Int32) (by first | assumption | exact RB0 | (unfold vp_in; decide) | decide)) gX6_ticksOfSoldier_X6_runs rfl rfl rfl qd_X6_runs rfl ⟨by decide, by decide⟩ ⟨by decide, by decide⟩ rfl (Nat.le_of_ble_eq_true rfl) rfl 6 0 rfl rfl (fun u1 hX1 => ?_)
  obtain ⟨mbo_1, mrr_1⟩ := u1
  rw [hX1] at hR; rw [pr2_mk mbo_1 mrr_1] at hR
  have hr1 : RB mrr_1 := rc_runs (by first | assumption | exact RB0) hX1
  refine j_iconst (v := 0) C dX6_ticksOfSoldier_6 7 rfl (by decide) ?_
  refine j_aload_n C dX6_ticksOfSoldier_7 8 rfl rfl 0 rfl ?_
  refine j_iload_n C dX6_ticksOfSoldier_8 9 rfl rfl 1 rfl ?_
  refine j_cv0I (na := 1) C dX6_ticksOfSoldier_9 12 rfl (c_X6_ticksPlain τ a ss mhd mas mbf mih mtp mtn mtk mfr mtt mvl miw mld mrw mrn mso msz mnu mhw mhh mhm mbo_1 mrr_1 mak man maa mip x1 (by first | assumption | exact RB0 | (unfold vp_in; decide) | decide)) gX6_ticksOfSoldier_X6_ticksPlain rfl rfl rfl qd_X6_ticksPlain rfl ⟨by decide, by decide⟩ ⟨by decide, by decide⟩ rfl (Nat.le_of_ble_eq_true rfl) rfl 6 0 rfl rfl (fun r2 u2 hX2 hn2 => ?_)
  obtain ⟨mbo_2, mrr_2⟩ := u2
  rw [hX2] at hR; rw [pr3_mk r2 mbo_2 mrr_2] at hR
  have hr2 : RB mrr_2 := rc_ticksPlain (by first | assumption | exact RB0) hX2
  refine j_isub C dX6_ticksOfSoldier_12 13 rfl ?_
  exact Rt.ret (hR) rfl dX6_ticksOfSoldier_13

theorem rb_ticksOfSoldier {mbo : Nat → Int32} {mrr : Int32} {man : Int32} {x1 : Int32} (h : RB mrr) : RB (f_X6_ticksOfSoldier mbo mrr man x1).2.2 := by
  unfold f_X6_ticksOfSoldier
  simp only [pr1, pr2, pr3, pr4]
  repeat' split
  all_goals with_reducible first | exact rb_ticksPlain (rb_runs h)
theorem rc_ticksOfSoldier {mbo : Nat → Int32} {mrr : Int32} {man : Int32} {x1 : Int32} {r : Int32} {w_mbo : Nat → Int32} {w_mrr : Int32} (h : RB mrr) (e : f_X6_ticksOfSoldier mbo mrr man x1 = (r, w_mbo, w_mrr)) : RB w_mrr := by
  have q := rb_ticksOfSoldier (mbo := mbo) (mrr := mrr) (man := man) (x1 := x1) h
  rw [e] at q
  exact q

-- X6_ticks
def f_X6_ticks (mbo : Nat → Int32) (mrr : Int32) (mak : Int32) (man : Int32) (maa : Int32) (x1 : Int32) : Int32 × (Nat → Int32) × Int32 := (if mak = 2 then (pr3 (f_X6_ticksOfSoldier mbo mrr man x1) (fun r1 mbo_1 mrr_1 => (r1, mbo_1, mrr_1))) else (if mak = 3 then (pr2 (f_X6_runs mbo mrr (51 : Int32)) (fun mbo_3 mrr_3 => pr3 (f_X6_ticksPlain mbo_3 mrr_3 man x1) (fun r4 mbo_4 mrr_4 => ((r4 + maa), mbo_4, mrr_4)))) else (if mak = 4 then (pr2 (f_X6_runs mbo mrr (40 : Int32)) (fun mbo_6 mrr_6 => pr3 (f_X6_ticksOfSoldier mbo_6 mrr_6 man x1) (fun r7 mbo_7 mrr_7 => ((r7 - 9), mbo_7, mrr_7)))) else (pr3 (f_X6_ticksPlain mbo mrr man x1) (fun r9 mbo_9 mrr_9 => (r9, mbo_9, mrr_9))))))
theorem kX6_ticks_f293 : Cond.fieldLink RX6 293 "TwoMinutesModel" "actKind" "I" ∈ wsX6_ticks := by decide +kernel
theorem kX6_ticks_f299 : Cond.fieldLink RX6 299 "TwoMinutesModel" "actA" "I" ∈ wsX6_ticks := by decide +kernel
theorem qd_X6_ticks : yX6_ticks.cls = RX6 ∧ yX6_ticks.cls ≠ "java/lang/invoke/MethodHandle" ∧ yX6_ticks.cls ≠ "java/lang/invoke/VarHandle" ∧ (parseMethodDescriptor yX6_ticks.desc).map (fun d => d.parameters.length) = some 1 := by decide +kernel
abbrev rmX6_ticks : Room := { frames := 3, cells := 0, slots := 0, locals := 63 }
set_option maxHeartbeats 4000000 in
set_option maxRecDepth 100000 in
theorem c_X6_ticks (τ : SX) (a : Nat → Nat) (ss : Nat → Int32) (mhd : Nat → Int32) (mas : Nat → Int32) (mbf : Nat → Int32) (mih : Int32) (mtp : Nat → Int32) (mtn : Int32) (mtk : Int32) (mfr : Int32) (mtt : Int32) (mvl : Int32) (miw : Int32) (mld : Nat → Int32) (mrw : Nat → Int32) (mrn : Int32) (mso : Nat → Int32) (msz : Nat → Int32) (mnu : Nat → Int32) (mhw : Nat → Int32) (mhh : Nat → Int32) (mhm : Nat → Int32) (mbo : Nat → Int32) (mrr : Int32) (mak : Int32) (man : Int32) (maa : Int32) (mip : Int32) (x1 : Int32) (hr : RB mrr) (sz : Nat) : McI τ yX6_ticks wsX6_ticks rmX6_ticks .int [.ref (a 0), .int x1] (wM τ a ss mhd mas mbf mih mtp mtn mtk mfr mtt mvl miw mld mrw mrn mso msz mnu mhw mhh mhm mbo mrr mak man maa mip) (fun u : (Nat → Int32) × Int32 => (wM τ a ss mhd mas mbf mih mtp mtn mtk mfr mtt mvl miw mld mrw mrn mso msz mnu mhw mhh mhm u.1 u.2 mak man maa mip)) (f_X6_ticks mbo mrr mak man maa x1) sz := by
  refine mc_I (cc := cX6_ticks) (own := RX6) [(0, .ref (a 0)), (1, .int x1)] rfl (by decide) rfl rfl (Nat.le_of_ble_eq_true rfl) (fun κ C hR => ?_)
  have hiX6 : ∀ w ∈ wsX60, w ∈ wsX6_ticks := fun w h => List.mem_cons_of_mem _ (List.mem_append_right _ h)
  unfold f_X6_ticks at hR
  refine j_aload_n C dX6_ticks_0 1 rfl rfl 0 rfl ?_
  refine j_get C dX6_ticks_1 4 rfl hiX6 0 rfl rfl 23 (by decide) rfl kX6_ticks_f293 rfl ?_
  by_cases c2 : mak = 2
  · rw [if_pos c2] at hR
    refine j_tabIn C dX6_ticks_4 (by rw [c2]; decide) (by rw [c2]; decide) (by rw [c2]; rfl) 32 rfl ?_
    refine j_aload_n C dX6_ticks_32 33 rfl rfl 0 rfl ?_
    refine j_iload_n C dX6_ticks_33 34 rfl rfl 1 rfl ?_
    refine j_cv0I (na := 1) C dX6_ticks_34 37 rfl (c_X6_ticksOfSoldier τ a ss mhd mas mbf mih mtp mtn mtk mfr mtt mvl miw mld mrw mrn mso msz mnu mhw mhh mhm mbo mrr mak man maa mip x1 (by first | assumption | exact RB0 | (unfold vp_in; decide) | decide)) gX6_ticks_X6_ticksOfSoldier rfl rfl rfl qd_X6_ticksOfSoldier rfl ⟨by decide, by decide⟩ ⟨by decide, by decide⟩ rfl (Nat.le_of_ble_eq_true rfl) rfl 6 0 rfl rfl (fun r1 u1 hX1 hn1 => ?_)
    obtain ⟨mbo_1, mrr_1⟩ := u1
    rw [hX1] at hR; rw [pr3_mk r1 mbo_1 mrr_1] at hR
    have hr1 : RB mrr_1 := rc_ticksOfSoldier (by first | assumption | exact RB0) hX1
    exact Rt.ret (hR) rfl dX6_ticks_37
  rw [if_neg c2] at hR
  by_cases c5 : mak = 3
  · rw [if_pos c5] at hR
    refine j_tabIn C dX6_ticks_4 (by rw [c5]; decide) (by rw [c5]; decide) (by rw [c5]; rfl) 53 rfl ?_
    refine j_aload_n C dX6_ticks_53 54 rfl rfl 0 rfl ?_
    refine j_bipush (v := 51) C dX6_ticks_54 56 rfl (by decide) ?_
    refine j_cv0V (na := 1) C dX6_ticks_56 59 rfl (c_X6_runs τ a ss mhd mas mbf mih mtp mtn mtk mfr mtt mvl miw mld mrw mrn mso msz mnu mhw mhh mhm mbo mrr mak man maa mip (51 : Int32) (by first | assumption | exact RB0 | (unfold vp_in; decide) | decide)) gX6_ticks_X6_runs rfl rfl rfl qd_X6_runs rfl ⟨by decide, by decide⟩ ⟨by decide, by decide⟩ rfl (Nat.le_of_ble_eq_true rfl) rfl 6 0 rfl rfl (fun u3 hX3 => ?_)
    obtain ⟨mbo_3, mrr_3⟩ := u3
    rw [hX3] at hR; rw [pr2_mk mbo_3 mrr_3] at hR
    have hr3 : RB mrr_3 := rc_runs (by first | assumption | exact RB0) hX3
    refine j_aload_n C dX6_ticks_59 60 rfl rfl 0 rfl ?_
    refine j_iload_n C dX6_ticks_60 61 rfl rfl 1 rfl ?_
    refine j_cv0I (na := 1) C dX6_ticks_61 64 rfl (c_X6_ticksPlain τ a ss mhd mas mbf mih mtp mtn mtk mfr mtt mvl miw mld mrw mrn mso msz mnu mhw mhh mhm mbo_3 mrr_3 mak man maa mip x1 (by first | assumption | exact RB0 | (unfold vp_in; decide) | decide)) gX6_ticks_X6_ticksPlain rfl rfl rfl qd_X6_ticksPlain rfl ⟨by decide, by decide⟩ ⟨by decide, by decide⟩ rfl (Nat.le_of_ble_eq_true rfl) rfl 6 0 rfl rfl (fun r4 u4 hX4 hn4 => ?_)
    obtain ⟨mbo_4, mrr_4⟩ := u4
    rw [hX4] at hR; rw [pr3_mk r4 mbo_4 mrr_4] at hR
    have hr4 : RB mrr_4 := rc_ticksPlain (by first | assumption | exact RB0) hX4
    refine j_aload_n C dX6_ticks_64 65 rfl rfl 0 rfl ?_
    refine j_get C dX6_ticks_65 68 rfl hiX6 0 rfl rfl 25 (by decide) rfl kX6_ticks_f299 rfl ?_
    refine j_iadd C dX6_ticks_68 69 rfl ?_
    exact Rt.ret (hR) rfl dX6_ticks_69
  rw [if_neg c5] at hR
  by_cases c8 : mak = 4
  · rw [if_pos c8] at hR
    refine j_tabIn C dX6_ticks_4 (by rw [c8]; decide) (by rw [c8]; decide) (by rw [c8]; rfl) 38 rfl ?_
    refine j_aload_n C dX6_ticks_38 39 rfl rfl 0 rfl ?_
    refine j_bipush (v := 40) C dX6_ticks_39 41 rfl (by decide) ?_
    refine j_cv0V (na := 1) C dX6_ticks_41 44 rfl (c_X6_runs τ a ss mhd mas mbf mih mtp mtn mtk mfr mtt mvl miw mld mrw mrn mso msz mnu mhw mhh mhm mbo mrr mak man maa mip (40 : Int32) (by first | assumption | exact RB0 | (unfold vp_in; decide) | decide)) gX6_ticks_X6_runs rfl rfl rfl qd_X6_runs rfl ⟨by decide, by decide⟩ ⟨by decide, by decide⟩ rfl (Nat.le_of_ble_eq_true rfl) rfl 6 0 rfl rfl (fun u6 hX6 => ?_)
    obtain ⟨mbo_6, mrr_6⟩ := u6
    rw [hX6] at hR; rw [pr2_mk mbo_6 mrr_6] at hR
    have hr6 : RB mrr_6 := rc_runs (by first | assumption | exact RB0) hX6
    refine j_aload_n C dX6_ticks_44 45 rfl rfl 0 rfl ?_
    refine j_iload_n C dX6_ticks_45 46 rfl rfl 1 rfl ?_
    refine j_cv0I (na := 1) C dX6_ticks_46 49 rfl (c_X6_ticksOfSoldier τ a ss mhd mas mbf mih mtp mtn mtk mfr mtt mvl miw mld mrw mrn mso msz mnu mhw mhh mhm mbo_6 mrr_6 mak man maa mip x1 (by first | assumption | exact RB0 | (unfold vp_in; decide) | decide)) gX6_ticks_X6_ticksOfSoldier rfl rfl rfl qd_X6_ticksOfSoldier rfl ⟨by decide, by decide⟩ ⟨by decide, by decide⟩ rfl (Nat.le_of_ble_eq_true rfl) rfl 6 0 rfl rfl (fun r7 u7 hX7 hn7 => ?_)
    obtain ⟨mbo_7, mrr_7⟩ := u7
    rw [hX7] at hR; rw [pr3_mk r7 mbo_7 mrr_7] at hR
    have hr7 : RB mrr_7 := rc_ticksOfSoldier (by first | assumption | exact RB0) hX7
    refine j_bipush (v := 9) C dX6_ticks_49 51 rfl (by decide) ?_
    refine j_isub C dX6_ticks_51 52 rfl ?_
    exact Rt.ret (hR) rfl dX6_ticks_52
  rw [if_neg c8] at hR
  refine j_tabOut C dX6_ticks_4 (by have n2 := lv_neT (a := 2) c2 (by decide); have n5 := lv_neT (a := 3) c5 (by decide); have n8 := lv_neT (a := 4) c8 (by decide); omega) 70 rfl ?_
  refine j_aload_n C dX6_ticks_70 71 rfl rfl 0 rfl ?_
  refine j_iload_n C dX6_ticks_71 72 rfl rfl 1 rfl ?_
  refine j_cv0I (na := 1) C dX6_ticks_72 75 rfl (c_X6_ticksPlain τ a ss mhd mas mbf mih mtp mtn mtk mfr mtt mvl miw mld mrw mrn mso msz mnu mhw mhh mhm mbo mrr mak man maa mip x1 (by first | assumption | exact RB0 | (unfold vp_in; decide) | decide)) gX6_ticks_X6_ticksPlain rfl rfl rfl qd_X6_ticksPlain rfl ⟨by decide, by decide⟩ ⟨by decide, by decide⟩ rfl (Nat.le_of_ble_eq_true rfl) rfl 6 0 rfl rfl (fun r9 u9 hX9 hn9 => ?_)
  obtain ⟨mbo_9, mrr_9⟩ := u9
  rw [hX9] at hR; rw [pr3_mk r9 mbo_9 mrr_9] at hR
  have hr9 : RB mrr_9 := rc_ticksPlain (by first | assumption | exact RB0) hX9
  exact Rt.ret (hR) rfl dX6_ticks_75

theorem rb_ticks {mbo : Nat → Int32} {mrr : Int32} {mak : Int32} {man : Int32} {maa : Int32} {x1 : Int32} (h : RB mrr) : RB (f_X6_ticks mbo mrr mak man maa x1).2.2 := by
  unfold f_X6_ticks
  simp only [pr1, pr2, pr3, pr4]
  repeat' split
  all_goals with_reducible first | exact rb_ticksOfSoldier h | exact rb_ticksPlain (rb_runs h) | exact rb_ticksOfSoldier (rb_runs h) | exact rb_ticksPlain h
theorem rc_ticks {mbo : Nat → Int32} {mrr : Int32} {mak : Int32} {man : Int32} {maa : Int32} {x1 : Int32} {r : Int32} {w_mbo : Nat → Int32} {w_mrr : Int32} (h : RB mrr) (e : f_X6_ticks mbo mrr mak man maa x1 = (r, w_mbo, w_mrr)) : RB w_mrr := by
  have q := rb_ticks (mbo := mbo) (mrr := mrr) (mak := mak) (man := man) (maa := maa) (x1 := x1) h
  rw [e] at q
  exact q

-- X6_ringsPlain
def f_X6_ringsPlain (mbo : Nat → Int32) (mrr : Int32) (mak : Int32) (man : Int32) (maa : Int32) (x1 : Int32) : Int32 × (Nat → Int32) × Int32 := pr2 (f_X6_runs mbo mrr (11 : Int32)) (fun mbo_1 mrr_1 => pr3 (f_X6_ticks mbo_1 mrr_1 mak man maa x1) (fun r2 mbo_2 mrr_2 => ((r2 - maa), mbo_2, mrr_2)))
theorem kX6_ringsPlain_f299 : Cond.fieldLink RX6 299 "TwoMinutesModel" "actA" "I" ∈ wsX6_ringsPlain := by decide +kernel
theorem qd_X6_ringsPlain : yX6_ringsPlain.cls = RX6 ∧ yX6_ringsPlain.cls ≠ "java/lang/invoke/MethodHandle" ∧ yX6_ringsPlain.cls ≠ "java/lang/invoke/VarHandle" ∧ (parseMethodDescriptor yX6_ringsPlain.desc).map (fun d => d.parameters.length) = some 1 := by decide +kernel
abbrev rmX6_ringsPlain : Room := { frames := 4, cells := 0, slots := 0, locals := 84 }
set_option maxHeartbeats 4000000 in
set_option maxRecDepth 100000 in
theorem c_X6_ringsPlain (τ : SX) (a : Nat → Nat) (ss : Nat → Int32) (mhd : Nat → Int32) (mas : Nat → Int32) (mbf : Nat → Int32) (mih : Int32) (mtp : Nat → Int32) (mtn : Int32) (mtk : Int32) (mfr : Int32) (mtt : Int32) (mvl : Int32) (miw : Int32) (mld : Nat → Int32) (mrw : Nat → Int32) (mrn : Int32) (mso : Nat → Int32) (msz : Nat → Int32) (mnu : Nat → Int32) (mhw : Nat → Int32) (mhh : Nat → Int32) (mhm : Nat → Int32) (mbo : Nat → Int32) (mrr : Int32) (mak : Int32) (man : Int32) (maa : Int32) (mip : Int32) (x1 : Int32) (hr : RB mrr) (sz : Nat) : McI τ yX6_ringsPlain wsX6_ringsPlain rmX6_ringsPlain .int [.ref (a 0), .int x1] (wM τ a ss mhd mas mbf mih mtp mtn mtk mfr mtt mvl miw mld mrw mrn mso msz mnu mhw mhh mhm mbo mrr mak man maa mip) (fun u : (Nat → Int32) × Int32 => (wM τ a ss mhd mas mbf mih mtp mtn mtk mfr mtt mvl miw mld mrw mrn mso msz mnu mhw mhh mhm u.1 u.2 mak man maa mip)) (f_X6_ringsPlain mbo mrr mak man maa x1) sz := by
  refine mc_I (cc := cX6_ringsPlain) (own := RX6) [(0, .ref (a 0)), (1, .int x1)] rfl (by decide) rfl rfl (Nat.le_of_ble_eq_true rfl) (fun κ C hR => ?_)
  have hiX6 : ∀ w ∈ wsX60, w ∈ wsX6_ringsPlain := fun w h => List.mem_cons_of_mem _ (List.mem_append_right _ h)
  unfold f_X6_ringsPlain at hR
  refine j_aload_n C dX6_ringsPlain_0 1 rfl rfl 0 rfl ?_
  refine j_bipush (v := 11) C dX6_ringsPlain_1 3 rfl (by decide) ?_
  refine j_cv0V (na := 1) C dX6_ringsPlain_3 6 rfl (c_X6_runs τ a ss mhd mas mbf mih mtp mtn mtk mfr mtt mvl miw mld mrw mrn mso msz mnu mhw mhh mhm mbo mrr mak man maa mip (11 : Int32) (by first | assumption | exact RB0 | (unfold vp_in; decide) | decide)) gX6_ringsPlain_X6_runs rfl rfl rfl qd_X6_runs rfl ⟨by decide, by decide⟩ ⟨by decide, by decide⟩ rfl (Nat.le_of_ble_eq_true rfl) rfl 6 0 rfl rfl (fun u1 hX1 => ?_)
  obtain ⟨mbo_1, mrr_1⟩ := u1
  rw [hX1] at hR; rw [pr2_mk mbo_1 mrr_1] at hR
  have hr1 : RB mrr_1 := rc_runs (by first | assumption | exact RB0) hX1
  refine j_aload_n C dX6_ringsPlain_6 7 rfl rfl 0 rfl ?_
  refine j_iload_n C dX6_ringsPlain_7 8 rfl rfl 1 rfl ?_
  refine j_cv0I (na := 1) C dX6_ringsPlain_8 11 rfl (c_X6_ticks τ a ss mhd mas mbf mih mtp mtn mtk mfr mtt mvl miw mld mrw mrn mso msz mnu mhw mhh mhm mbo_1 mrr_1 mak man maa mip x1 (by first | assumption | exact RB0 | (unfold vp_in; decide) | decide)) gX6_ringsPlain_X6_ticks rfl rfl rfl qd_X6_ticks rfl ⟨by decide, by decide⟩ ⟨by decide, by decide⟩ rfl (Nat.le_of_ble_eq_true rfl) rfl 6 0 rfl rfl (fun r2 u2 hX2 hn2 => ?_)
  obtain ⟨mbo_2, mrr_2⟩ := u2
  rw [hX2] at hR; rw [pr3_mk r2 mbo_2 mrr_2] at hR
  have hr2 : RB mrr_2 := rc_ticks (by first | assumption | exact RB0) hX2
  refine j_aload_n C dX6_ringsPlain_11 12 rfl rfl 0 rfl ?_
  refine j_get C dX6_ringsPlain_12 15 rfl hiX6 0 rfl rfl 25 (by decide) rfl kX6_ringsPlain_f299 rfl ?_
  refine j_isub C dX6_ringsPlain_15 16 rfl ?_
  exact Rt.ret (hR) rfl dX6_ringsPlain_16

theorem rb_ringsPlain {mbo : Nat → Int32} {mrr : Int32} {mak : Int32} {man : Int32} {maa : Int32} {x1 : Int32} (h : RB mrr) : RB (f_X6_ringsPlain mbo mrr mak man maa x1).2.2 := by
  unfold f_X6_ringsPlain
  simp only [pr1, pr2, pr3, pr4]
  repeat' split
  all_goals with_reducible first | exact rb_ticks (rb_runs h)
theorem rc_ringsPlain {mbo : Nat → Int32} {mrr : Int32} {mak : Int32} {man : Int32} {maa : Int32} {x1 : Int32} {r : Int32} {w_mbo : Nat → Int32} {w_mrr : Int32} (h : RB mrr) (e : f_X6_ringsPlain mbo mrr mak man maa x1 = (r, w_mbo, w_mrr)) : RB w_mrr := by
  have q := rb_ringsPlain (mbo := mbo) (mrr := mrr) (mak := mak) (man := man) (maa := maa) (x1 := x1) h
  rw [e] at q
  exact q

-- X6_rings
def f_X6_rings (mbo : Nat → Int32) (mrr : Int32) (mak : Int32) (man : Int32) (maa : Int32) (x1 : Int32) : Int32 × (Nat → Int32) × Int32 := if (mak = 1) then (pr2 (f_X6_runs mbo mrr (20 : Int32)) (fun mbo_2 mrr_2 => pr3 (f_X6_ringsPlain mbo_2 mrr_2 mak man maa x1) (fun r3 mbo_3 mrr_3 => ((r3 * 2), mbo_3, mrr_3)))) else (if (mak = 3) then (pr2 (f_X6_runs mbo mrr (20 : Int32)) (fun mbo_5 mrr_5 => pr3 (f_X6_ringsPlain mbo_5 mrr_5 mak man maa x1) (fun r6 mbo_6 mrr_6 => ((r6 * 2), mbo_6, mrr_6)))) else (if (mak = 4) then (pr2 (f_X6_runs mbo mrr (41 : Int32)) (fun mbo_8 mrr_8 => pr3 (f_X6_ringsPlain mbo_8 mrr_8 mak man maa x1) (fun r9 mbo_9 mrr_9 => pr3 (f_X6_ticks mbo_9 mrr_9 mak man maa maa) (fun r10 mbo_10 mrr_10 => ((r9 ^^^ r10), mbo_10, mrr_10))))) else (pr3 (f_X6_ringsPlain mbo mrr mak man maa x1) (fun r11 mbo_11 mrr_11 => (r11, mbo_11, mrr_11)))))
theorem kX6_rings_f293 : Cond.fieldLink RX6 293 "TwoMinutesModel" "actKind" "I" ∈ wsX6_rings := by decide +kernel
theorem kX6_rings_f299 : Cond.fieldLink RX6 299 "TwoMinutesModel" "actA" "I" ∈ wsX6_rings := by decide +kernel
theorem qd_X6_rings : yX6_rings.cls = RX6 ∧ yX6_rings.cls ≠ "java/lang/invoke/MethodHandle" ∧ yX6_rings.cls ≠ "java/lang/invoke/VarHandle" ∧ (parseMethodDescriptor yX6_rings.desc).map (fun d => d.parameters.length) = some 1 := by decide +kernel
abbrev rmX6_rings : Room := { frames := 5, cells := 0, slots := 0, locals := 105 }
set_option maxHeartbeats 4000000 in
set_option maxRecDepth 100000 in
theorem c_X6_rings (τ : SX) (a : Nat → Nat) (ss : Nat → Int32) (mhd : Nat → Int32) (mas : Nat → Int32) (mbf : Nat → Int32) (mih : Int32) (mtp : Nat → Int32) (mtn : Int32) (mtk : Int32) (mfr : Int32) (mtt : Int32) (mvl : Int32) (miw : Int32) (mld : Nat → Int32) (mrw : Nat → Int32) (mrn : Int32) (mso : Nat → Int32) (msz : Nat → Int32) (mnu : Nat → Int32) (mhw : Nat → Int32) (mhh : Nat → Int32) (mhm : Nat → Int32) (mbo : Nat → Int32) (mrr : Int32) (mak : Int32) (man : Int32) (maa : Int32) (mip : Int32) (x1 : Int32) (hr : RB mrr) (sz : Nat) : McI τ yX6_rings wsX6_rings rmX6_rings .int [.ref (a 0), .int x1] (wM τ a ss mhd mas mbf mih mtp mtn mtk mfr mtt mvl miw mld mrw mrn mso msz mnu mhw mhh mhm mbo mrr mak man maa mip) (fun u : (Nat → Int32) × Int32 => (wM τ a ss mhd mas mbf mih mtp mtn mtk mfr mtt mvl miw mld mrw mrn mso msz mnu mhw mhh mhm u.1 u.2 mak man maa mip)) (f_X6_rings mbo mrr mak man maa x1) sz := by
  refine mc_I (cc := cX6_rings) (own := RX6) [(0, .ref (a 0)), (1, .int x1)] rfl (by decide) rfl rfl (Nat.le_of_ble_eq_true rfl) (fun κ C hR => ?_)
  have hiX6 : ∀ w ∈ wsX60, w ∈ wsX6_rings := fun w h => List.mem_cons_of_mem _ (List.mem_append_right _ h)
  unfold f_X6_rings at hR
  refine j_aload_n C dX6_rings_0 1 rfl rfl 0 rfl ?_
  refine j_get C dX6_rings_1 4 rfl hiX6 0 rfl rfl 23 (by decide) rfl kX6_rings_f293 rfl ?_
  refine j_iconst (v := 1) C dX6_rings_4 5 rfl (by decide) ?_
  refine j_icmp_eq C dX6_rings_5 16 rfl 8 rfl (fun c1 => ?_) (fun c1 => ?_)
  · rw [if_pos c1] at hR
    refine j_aload_n C dX6_rings_16 17 rfl rfl 0 rfl ?_
    refine j_bipush (v := 20) C dX6_rings_17 19 rfl (by decide) ?_
    refine j_cv0V (na := 1) C dX6_rings_19 22 rfl (c_X6_runs τ a ss mhd mas mbf mih mtp mtn mtk mfr mtt mvl miw mld mrw mrn mso msz mnu mhw mhh mhm mbo mrr mak man maa mip (20 : Int32) (by first | assumption | exact RB0 | (unfold vp_in; decide) | decide)) gX6_rings_X6_runs rfl rfl rfl qd_X6_runs rfl ⟨by decide, by decide⟩ ⟨by decide, by decide⟩ rfl (Nat.le_of_ble_eq_true rfl) rfl 6 0 rfl rfl (fun u2 hX2 => ?_)
    obtain ⟨mbo_2, mrr_2⟩ := u2
    rw [hX2] at hR; rw [pr2_mk mbo_2 mrr_2] at hR
    have hr2 : RB mrr_2 := rc_runs (by first | assumption | exact RB0) hX2
    refine j_aload_n C dX6_rings_22 23 rfl rfl 0 rfl ?_
    refine j_iload_n C dX6_rings_23 24 rfl rfl 1 rfl ?_
    refine j_cv0I (na := 1) C dX6_rings_24 27 rfl (c_X6_ringsPlain τ a ss mhd mas mbf mih mtp mtn mtk mfr mtt mvl miw mld mrw mrn mso msz mnu mhw mhh mhm mbo_2 mrr_2 mak man maa mip x1 (by first | assumption | exact RB0 | (unfold vp_in; decide) | decide)) gX6_rings_X6_ringsPlain rfl rfl rfl qd_X6_ringsPlain rfl ⟨by decide, by decide⟩ ⟨by decide, by decide⟩ rfl (Nat.le_of_ble_eq_true rfl) rfl 6 0 rfl rfl (fun r3 u3 hX3 hn3 => ?_)
    obtain ⟨mbo_3, mrr_3⟩ := u3
    rw [hX3] at hR; rw [pr3_mk r3 mbo_3 mrr_3] at hR
    have hr3 : RB mrr_3 := rc_ringsPlain (by first | assumption | exact RB0) hX3
    refine j_iconst (v := 2) C dX6_rings_27 28 rfl (by decide) ?_
    refine j_imul C dX6_rings_28 29 rfl ?_
    exact Rt.ret (hR) rfl dX6_rings_29
  · rw [if_neg c1] at hR
    refine j_aload_n C dX6_rings_8 9 rfl rfl 0 rfl ?_
    refine j_get C dX6_rings_9 12 rfl hiX6 0 rfl rfl 23 (by decide) rfl kX6_rings_f293 rfl ?_
    refine j_iconst (v := 3) C dX6_rings_12 13 rfl (by decide) ?_
    refine j_icmp_ne C dX6_rings_13 30 rfl 16 rfl (fun c4 => ?_) (fun c4 => ?_)
    · rw [if_neg c4] at hR
      refine j_aload_n C dX6_rings_30 31 rfl rfl 0 rfl ?_
      refine j_get C dX6_rings_31 34 rfl hiX6 0 rfl rfl 23 (by decide) rfl kX6_rings_f293 rfl ?_
      refine j_iconst (v := 4) C dX6_rings_34 35 rfl (by decide) ?_
      refine j_icmp_ne C dX6_rings_35 61 rfl 38 rfl (fun c7 => ?_) (fun c7 => ?_)
      · rw [if_neg c7] at hR
        refine j_aload_n C dX6_rings_61 62 rfl rfl 0 rfl ?_
        refine j_iload_n C dX6_rings_62 63 rfl rfl 1 rfl ?_
        refine j_cv0I (na := 1) C dX6_rings_63 66 rfl (c_X6_ringsPlain τ a ss mhd mas mbf mih mtp mtn mtk mfr mtt mvl miw mld mrw mrn mso msz mnu mhw mhh mhm mbo mrr mak man maa mip x1 (by first | assumption | exact RB0 | (unfold vp_in; decide) | decide)) gX6_rings_X6_ringsPlain rfl rfl rfl qd_X6_ringsPlain rfl ⟨by decide, by decide⟩ ⟨by decide, by decide⟩ rfl (Nat.le_of_ble_eq_true rfl) rfl 6 0 rfl rfl (fun r11 u11 hX11 hn11 => ?_)
        obtain ⟨mbo_11, mrr_11⟩ := u11
        rw [hX11] at hR; rw [pr3_mk r11 mbo_11 mrr_11] at hR
        have hr11 : RB mrr_11 := rc_ringsPlain (by first | assumption | exact RB0) hX11
        exact Rt.ret (hR) rfl dX6_rings_66
      · rw [if_pos c7] at hR
        refine j_aload_n C dX6_rings_38 39 rfl rfl 0 rfl ?_
        refine j_bipush (v := 41) C dX6_rings_39 41 rfl (by decide) ?_
        refine j_cv0V (na := 1) C dX6_rings_41 44 rfl (c_X6_runs τ a ss mhd mas mbf mih mtp mtn mtk mfr mtt mvl miw mld mrw mrn mso msz mnu mhw mhh mhm mbo mrr mak man maa mip (41 : Int32) (by first | assumption | exact RB0 | (unfold vp_in; decide) | decide)) gX6_rings_X6_runs rfl rfl rfl qd_X6_runs rfl ⟨by decide, by decide⟩ ⟨by decide, by decide⟩ rfl (Nat.le_of_ble_eq_true rfl) rfl 6 0 rfl rfl (fun u8 hX8 => ?_)
        obtain ⟨mbo_8, mrr_8⟩ := u8
        rw [hX8] at hR; rw [pr2_mk mbo_8 mrr_8] at hR
        have hr8 : RB mrr_8 := rc_runs (by first | assumption | exact RB0) hX8
        refine j_aload_n C dX6_rings_44 45 rfl rfl 0 rfl ?_
        refine j_iload_n C dX6_rings_45 46 rfl rfl 1 rfl ?_
        refine j_cv0I (na := 1) C dX6_rings_46 49 rfl (c_X6_ringsPlain τ a ss mhd mas mbf mih mtp mtn mtk mfr mtt mvl miw mld mrw mrn mso msz mnu mhw mhh mhm mbo_8 mrr_8 mak man maa mip x1 (by first | assumption | exact RB0 | (unfold vp_in; decide) | decide)) gX6_rings_X6_ringsPlain rfl rfl rfl qd_X6_ringsPlain rfl ⟨by decide, by decide⟩ ⟨by decide, by decide⟩ rfl (Nat.le_of_ble_eq_true rfl) rfl 6 0 rfl rfl (fun r9 u9 hX9 hn9 => ?_)
        obtain ⟨mbo_9, mrr_9⟩ := u9
        rw [hX9] at hR; rw [pr3_mk r9 mbo_9 mrr_9] at hR
        have hr9 : RB mrr_9 := rc_ringsPlain (by first | assumption | exact RB0) hX9
        refine j_istore_n C dX6_rings_49 50 rfl rfl (by decide) [(2, .int r9), (0, .ref (a 0)), (1, .int x1)] rfl ?_
        refine j_iload_n C dX6_rings_50 51 rfl rfl 0 rfl ?_
        refine j_aload_n C dX6_rings_51 52 rfl rfl 1 rfl ?_
        refine j_aload_n C dX6_rings_52 53 rfl rfl 1 rfl ?_
        refine j_get C dX6_rings_53 56 rfl hiX6 0 rfl rfl 25 (by decide) rfl kX6_rings_f299 rfl ?_
        refine j_cv0I (na := 1) C dX6_rings_56 59 rfl (c_X6_ticks τ a ss mhd mas mbf mih mtp mtn mtk mfr mtt mvl miw mld mrw mrn mso msz mnu mhw mhh mhm mbo_9 mrr_9 mak man maa mip maa (by first | assumption | exact RB0 | (unfold vp_in; decide) | decide)) gX6_rings_X6_ticks rfl rfl rfl qd_X6_ticks rfl ⟨by decide, by decide⟩ ⟨by decide, by decide⟩ rfl (Nat.le_of_ble_eq_true rfl) rfl 6 0 rfl rfl (fun r10 u10 hX10 hn10 => ?_)
        obtain ⟨mbo_10, mrr_10⟩ := u10
        rw [hX10] at hR; rw [pr3_mk r10 mbo_10 mrr_10] at hR
        have hr10 : RB mrr_10 := rc_ticks (by first | assumption | exact RB0) hX10
        refine j_ixor C dX6_rings_59 60 rfl ?_
        exact Rt.ret (hR) rfl dX6_rings_60
    · rw [if_pos c4] at hR
      refine j_aload_n C dX6_rings_16 17 rfl rfl 0 rfl ?_
      refine j_bipush (v := 20) C dX6_rings_17 19 rfl (by decide) ?_
      refine j_cv0V (na := 1) C dX6_rings_19 22 rfl (c_X6_runs τ a ss mhd mas mbf mih mtp mtn mtk mfr mtt mvl miw mld mrw mrn mso msz mnu mhw mhh mhm mbo mrr mak man maa mip (20 : Int32) (by first | assumption | exact RB0 | (unfold vp_in; decide) | decide)) gX6_rings_X6_runs rfl rfl rfl qd_X6_runs rfl ⟨by decide, by decide⟩ ⟨by decide, by decide⟩ rfl (Nat.le_of_ble_eq_true rfl) rfl 6 0 rfl rfl (fun u5 hX5 => ?_)
      obtain ⟨mbo_5, mrr_5⟩ := u5
      rw [hX5] at hR; rw [pr2_mk mbo_5 mrr_5] at hR
      have hr5 : RB mrr_5 := rc_runs (by first | assumption | exact RB0) hX5
      refine j_aload_n C dX6_rings_22 23 rfl rfl 0 rfl ?_
      refine j_iload_n C dX6_rings_23 24 rfl rfl 1 rfl ?_
      refine j_cv0I (na := 1) C dX6_rings_24 27 rfl (c_X6_ringsPlain τ a ss mhd mas mbf mih mtp mtn mtk mfr mtt mvl miw mld mrw mrn mso msz mnu mhw mhh mhm mbo_5 mrr_5 mak man maa mip x1 (by first | assumption | exact RB0 | (unfold vp_in; decide) | decide)) gX6_rings_X6_ringsPlain rfl rfl rfl qd_X6_ringsPlain rfl ⟨by decide, by decide⟩ ⟨by decide, by decide⟩ rfl (Nat.le_of_ble_eq_true rfl) rfl 6 0 rfl rfl (fun r6 u6 hX6 hn6 => ?_)
      obtain ⟨mbo_6, mrr_6⟩ := u6
      rw [hX6] at hR; rw [pr3_mk r6 mbo_6 mrr_6] at hR
      have hr6 : RB mrr_6 := rc_ringsPlain (by first | assumption | exact RB0) hX6
      refine j_iconst (v := 2) C dX6_rings_27 28 rfl (by decide) ?_
      refine j_imul C dX6_rings_28 29 rfl ?_
      exact Rt.ret (hR) rfl dX6_rings_29

theorem rb_rings {mbo : Nat → Int32} {mrr : Int32} {mak : Int32} {man : Int32} {maa : Int32} {x1 : Int32} (h : RB mrr) : RB (f_X6_rings mbo mrr mak man maa x1).2.2 := by
  unfold f_X6_rings
  simp only [pr1, pr2, pr3, pr4]
  repeat' split
  all_goals with_reducible first | exact rb_ringsPlain (rb_runs h) | exact rb_ticks (rb_ringsPlain (rb_runs h)) | exact rb_ringsPlain h
theorem rc_rings {mbo : Nat → Int32} {mrr : Int32} {mak : Int32} {man : Int32} {maa : Int32} {x1 : Int32} {r : Int32} {w_mbo : Nat → Int32} {w_mrr : Int32} (h : RB mrr) (e : f_X6_rings mbo mrr mak man maa x1 = (r, w_mbo, w_mrr)) : RB w_mrr := by
  have q := rb_rings (mbo := mbo) (mrr := mrr) (mak := mak) (man := man) (maa := maa) (x1 := x1) h
  rw [e] at q
  exact q

-- X6_partsPlain
def f_X6_partsPlain (mbo : Nat → Int32) (mrr : Int32) (man : Int32) (maa : Int32) (mip : Int32) (x1 : Int32) : Int32 × (Nat → Int32) × Int32 × Int32 := pr2 (f_X6_runs mbo mrr (12 : Int32)) (fun mbo_1 mrr_1 => pr1 (if (mip = 0) then (if (man = maa) then (1 : Int32) else (0 : Int32)) else (1 : Int32)) (fun j11_0 => if (j11_0 = 0) then ((x1 / (maa - man)), mbo_1, mrr_1, j11_0) else ((0 : Int32), mbo_1, mrr_1, j11_0)))
theorem kX6_partsPlain_f308 : Cond.fieldLink RX6 308 "TwoMinutesModel" "isParted" "Z" ∈ wsX6_partsPlain := by decide +kernel
theorem kX6_partsPlain_f287 : Cond.fieldLink RX6 287 "TwoMinutesModel" "actN" "I" ∈ wsX6_partsPlain := by decide +kernel
theorem kX6_partsPlain_f299 : Cond.fieldLink RX6 299 "TwoMinutesModel" "actA" "I" ∈ wsX6_partsPlain := by decide +kernel
theorem qd_X6_partsPlain : yX6_partsPlain.cls = RX6 ∧ yX6_partsPlain.cls ≠ "java/lang/invoke/MethodHandle" ∧ yX6_partsPlain.cls ≠ "java/lang/invoke/VarHandle" ∧ (parseMethodDescriptor yX6_partsPlain.desc).map (fun d => d.parameters.length) = some 1 := by decide +kernel
abbrev rmX6_partsPlain : Room := { frames := 1, cells := 0, slots := 0, locals := 21 }
set_option maxHeartbeats 4000000 in
set_option maxRecDepth 100000 in
theorem c_X6_partsPlain (τ : SX) (a : Nat → Nat) (ss : Nat → Int32) (mhd : Nat → Int32) (mas : Nat → Int32) (mbf : Nat → Int32) (mih : Int32) (mtp : Nat → Int32) (mtn : Int32) (mtk : Int32) (mfr : Int32) (mtt : Int32) (mvl : Int32) (miw : Int32) (mld : Nat → Int32) (mrw : Nat → Int32) (mrn : Int32) (mso : Nat → Int32) (msz : Nat → Int32) (mnu : Nat → Int32) (mhw : Nat → Int32) (mhh : Nat → Int32) (mhm : Nat → Int32) (mbo : Nat → Int32) (mrr : Int32) (mak : Int32) (man : Int32) (maa : Int32) (mip : Int32) (x1 : Int32) (hr : RB mrr) (sz : Nat) : McI τ yX6_partsPlain wsX6_partsPlain rmX6_partsPlain .int [.ref (a 0), .int x1] (wM τ a ss mhd mas mbf mih mtp mtn mtk mfr mtt mvl miw mld mrw mrn mso msz mnu mhw mhh mhm mbo mrr mak man maa mip) (fun u : (Nat → Int32) × Int32 × Int32 => (wM τ a ss mhd mas mbf mih mtp mtn mtk mfr mtt mvl miw mld mrw mrn mso msz mnu mhw mhh mhm u.1 u.2.1 mak man maa u.2.2)) (f_X6_partsPlain mbo mrr man maa mip x1) sz := by
  refine mc_I (cc := cX6_partsPlain) (own := RX6) [(0, .ref (a 0)), (1, .int x1)] rfl (by decide) rfl rfl (Nat.le_of_ble_eq_true rfl) (fun κ C hR => ?_)
  have hiX6 : ∀ w ∈ wsX60, w ∈ wsX6_partsPlain := fun w h => List.mem_cons_of_mem _ (List.mem_append_right _ h)
  unfold f_X6_partsPlain at hR
  refine j_aload_n C dX6_partsPlain_0 1 rfl rfl 0 rfl ?_
  refine j_bipush (v := 12) C dX6_partsPlain_1 3 rfl (by decide) ?_
  refine j_cv0V (na := 1) C dX6_partsPlain_3 6 rfl (c_X6_runs τ a ss mhd mas mbf mih mtp mtn mtk mfr mtt mvl miw mld mrw mrn mso msz mnu mhw mhh mhm mbo mrr mak man maa mip (12 : Int32) (by first | assumption | exact RB0 | (unfold vp_in; decide) | decide)) gX6_partsPlain_X6_runs rfl rfl rfl qd_X6_runs rfl ⟨by decide, by decide⟩ ⟨by decide, by decide⟩ rfl (Nat.le_of_ble_eq_true rfl) rfl 6 0 rfl rfl (fun u1 hX1 => ?_)
  obtain ⟨mbo_1, mrr_1⟩ := u1
  rw [hX1] at hR; rw [pr2_mk mbo_1 mrr_1] at hR
  have hr1 : RB mrr_1 := rc_runs (by first | assumption | exact RB0) hX1
  refine j_aload_n C dX6_partsPlain_6 7 rfl rfl 0 rfl ?_
  refine j_aload_n C dX6_partsPlain_7 8 rfl rfl 0 rfl ?_
  refine j_get C dX6_partsPlain_8 11 rfl hiX6 0 rfl rfl 26 (by decide) rfl kX6_partsPlain_f308 rfl ?_
  have J11 : ∀ (j11_0 : Int32), (narrow .boolean (.int j11_0) = .int j11_0) → (j11_0 = 0 → ¬ man = maa) → Rt τ κ cX6_partsPlain .int (fun u : (Nat → Int32) × Int32 × Int32 => (wM τ a ss mhd mas mbf mih mtp mtn mtk mfr mtt mvl miw mld mrw mrn mso msz mnu mhw mhh mhm u.1 u.2.1 mak man maa u.2.2)) (if (j11_0 = 0) then ((x1 / (maa - man)), mbo_1, mrr_1, j11_0) else ((0 : Int32), mbo_1, mrr_1, j11_0)) → J τ κ 0 0 (wM τ a ss mhd mas mbf mih mtp mtn mtk mfr mtt mvl miw mld mrw mrn mso msz mnu mhw mhh mhm mbo_1 mrr_1 mak man maa mip) [(0, .ref (a 0)), (1, .int x1)] 30 [.int j11_0, .ref (a 0)] := by
    intro j11_0 hz hj hR
    refine j_put C dX6_partsPlain_30 33 rfl hiX6 tyX6_ok nmX6 0 rfl rfl 26 (by decide) rfl kX6_partsPlain_f308 rfl (by assumption) (fzN (by assumption)) (Nat.le_of_ble_eq_true rfl) (wM τ a ss mhd mas mbf mih mtp mtn mtk mfr mtt mvl miw mld mrw mrn mso msz mnu mhw mhh mhm mbo_1 mrr_1 mak man maa j11_0) rfl ?_
    refine j_aload_n C dX6_partsPlain_33 34 rfl rfl 0 rfl ?_
    refine j_get C dX6_partsPlain_34 37 rfl hiX6 0 rfl rfl 26 (by decide) rfl kX6_partsPlain_f308 rfl ?_
    refine j_if_eq C dX6_partsPlain_37 44 rfl 40 rfl (fun c4 => ?_) (fun c4 => ?_)
    · rw [if_pos c4] at hR
      refine j_iload_n C dX6_partsPlain_44 45 rfl rfl 1 rfl ?_
      refine j_aload_n C dX6_partsPlain_45 46 rfl rfl 0 rfl ?_
      refine j_get C dX6_partsPlain_46 49 rfl hiX6 0 rfl rfl 25 (by decide) rfl kX6_partsPlain_f299 rfl ?_
      refine j_aload_n C dX6_partsPlain_49 50 rfl rfl 0 rfl ?_
      refine j_get C dX6_partsPlain_50 53 rfl hiX6 0 rfl rfl 24 (by decide) rfl kX6_partsPlain_f287 rfl ?_
      refine j_isub C dX6_partsPlain_53 54 rfl ?_
      refine j_idiv C dX6_partsPlain_54 55 rfl (sub_nz (hj (by assumption))) ?_
      exact Rt.ret (hR) rfl dX6_partsPlain_55
    · rw [if_neg c4] at hR
      refine j_iconst (v := 0) C dX6_partsPlain_40 41 rfl (by decide) ?_
      refine j_goto C dX6_partsPlain_41 55 rfl ?_
      exact Rt.ret (hR) rfl dX6_partsPlain_55
  refine j_if_ne C dX6_partsPlain_11 25 rfl 14 rfl (fun c2 => ?_) (fun c2 => ?_)
  · rw [if_neg c2] at hR
    refine j_iconst (v := 1) C dX6_partsPlain_25 26 rfl (by decide) ?_
    refine j_goto C dX6_partsPlain_26 30 rfl ?_
    rw [pr1_mk (1 : Int32)] at hR
    exact j_lv [0, 1] [(0, .ref (a 0)), (1, .int x1)] rfl (J11 _ (rfl) (by first | exact fun h => absurd h (by decide) | exact fun _ => (by assumption)) hR)
  · rw [if_pos c2] at hR
    refine j_aload_n C dX6_partsPlain_14 15 rfl rfl 0 rfl ?_
    refine j_get C dX6_partsPlain_15 18 rfl hiX6 0 rfl rfl 24 (by decide) rfl kX6_partsPlain_f287 rfl ?_
    refine j_aload_n C dX6_partsPlain_18 19 rfl rfl 0 rfl ?_
    refine j_get C dX6_partsPlain_19 22 rfl hiX6 0 rfl rfl 25 (by decide) rfl kX6_partsPlain_f299 rfl ?_
    refine j_icmp_ne C dX6_partsPlain_22 29 rfl 25 rfl (fun c3 => ?_) (fun c3 => ?_)
    · rw [if_neg c3] at hR
      refine j_iconst (v := 0) C dX6_partsPlain_29 30 rfl (by decide) ?_
      rw [pr1_mk (0 : Int32)] at hR
      exact j_lv [0, 1] [(0, .ref (a 0)), (1, .int x1)] rfl (J11 _ (rfl) (by first | exact fun h => absurd h (by decide) | exact fun _ => (by assumption)) hR)
    · rw [if_pos c3] at hR
      refine j_iconst (v := 1) C dX6_partsPlain_25 26 rfl (by decide) ?_
      refine j_goto C dX6_partsPlain_26 30 rfl ?_
      rw [pr1_mk (1 : Int32)] at hR
      exact j_lv [0, 1] [(0, .ref (a 0)), (1, .int x1)] rfl (J11 _ (rfl) (by first | exact fun h => absurd h (by decide) | exact fun _ => (by assumption)) hR)

theorem rb_partsPlain {mbo : Nat → Int32} {mrr : Int32} {man : Int32} {maa : Int32} {mip : Int32} {x1 : Int32} (h : RB mrr) : RB (f_X6_partsPlain mbo mrr man maa mip x1).2.2.1 := by
  unfold f_X6_partsPlain
  simp only [pr1, pr2, pr3, pr4]
  repeat' split
  all_goals with_reducible first | exact rb_runs h
theorem rc_partsPlain {mbo : Nat → Int32} {mrr : Int32} {man : Int32} {maa : Int32} {mip : Int32} {x1 : Int32} {r : Int32} {w_mbo : Nat → Int32} {w_mrr : Int32} {w_mip : Int32} (h : RB mrr) (e : f_X6_partsPlain mbo mrr man maa mip x1 = (r, w_mbo, w_mrr, w_mip)) : RB w_mrr := by
  have q := rb_partsPlain (mbo := mbo) (mrr := mrr) (man := man) (maa := maa) (mip := mip) (x1 := x1) h
  rw [e] at q
  exact q

-- X6_parts
def f_X6_parts (mbo : Nat → Int32) (mrr : Int32) (mak : Int32) (man : Int32) (maa : Int32) (mip : Int32) (x1 : Int32) : Int32 × (Nat → Int32) × Int32 × Int32 := if (mak = 3) then (pr2 (f_X6_runs mbo mrr (50 : Int32)) (fun mbo_2 mrr_2 => pr4 (f_X6_partsPlain mbo_2 mrr_2 man maa mip (x1 * 5)) (fun r3 mbo_3 mrr_3 mip_3 => ((r3 + man), mbo_3, mrr_3, mip_3)))) else (if (mak = 5) then (pr2 (f_X6_runs mbo mrr (61 : Int32)) (fun mbo_5 mrr_5 => pr4 (f_X6_partsPlain mbo_5 mrr_5 man maa mip x1) (fun r6 mbo_6 mrr_6 mip_6 => if (mip_6 = 0) then (pr3 (f_X6_ticks mbo_6 mrr_6 mak man maa man) (fun r8 mbo_8 mrr_8 => ((r6 * r8), mbo_8, mrr_8, mip_6))) else ((0 : Int32), mbo_6, mrr_6, mip_6)))) else (pr4 (f_X6_partsPlain mbo mrr man maa mip x1) (fun r9 mbo_9 mrr_9 mip_9 => (r9, mbo_9, mrr_9, mip_9))))
theorem kX6_parts_f293 : Cond.fieldLink RX6 293 "TwoMinutesModel" "actKind" "I" ∈ wsX6_parts := by decide +kernel
theorem kX6_parts_f287 : Cond.fieldLink RX6 287 "TwoMinutesModel" "actN" "I" ∈ wsX6_parts := by decide +kernel
theorem kX6_parts_f308 : Cond.fieldLink RX6 308 "TwoMinutesModel" "isParted" "Z" ∈ wsX6_parts := by decide +kernel
theorem qd_X6_parts : yX6_parts.cls = RX6 ∧ yX6_parts.cls ≠ "java/lang/invoke/MethodHandle" ∧ yX6_parts.cls ≠ "java/lang/invoke/VarHandle" ∧ (parseMethodDescriptor yX6_parts.desc).map (fun d => d.parameters.length) = some 1 := by decide +kernel
abbrev rmX6_parts : Room := { frames := 4, cells := 0, slots := 0, locals := 84 }
set_option maxHeartbeats 4000000 in
set_option maxRecDepth 100000 in
theorem c_X6_parts (τ : SX) (a : Nat → Nat) (ss : Nat → Int32) (mhd : Nat → Int32) (mas : Nat → Int32) (mbf : Nat → Int32) (mih : Int32) (mtp : Nat → Int32) (mtn : Int32) (mtk : Int32) (mfr : Int32) (mtt : Int32) (mvl : Int32) (miw : Int32) (mld : Nat → Int32) (mrw : Nat → Int32) (mrn : Int32) (mso : Nat → Int32) (msz : Nat → Int32) (mnu : Nat → Int32) (mhw : Nat → Int32) (mhh : Nat → Int32) (mhm : Nat → Int32) (mbo : Nat → Int32) (mrr : Int32) (mak : Int32) (man : Int32) (maa : Int32) (mip : Int32) (x1 : Int32) (hr : RB mrr) (sz : Nat) : McI τ yX6_parts wsX6_parts rmX6_parts .int [.ref (a 0), .int x1] (wM τ a ss mhd mas mbf mih mtp mtn mtk mfr mtt mvl miw mld mrw mrn mso msz mnu mhw mhh mhm mbo mrr mak man maa mip) (fun u : (Nat → Int32) × Int32 × Int32 => (wM τ a ss mhd mas mbf mih mtp mtn mtk mfr mtt mvl miw mld mrw mrn mso msz mnu mhw mhh mhm u.1 u.2.1 mak man maa u.2.2)) (f_X6_parts mbo mrr mak man maa mip x1) sz := by
  refine mc_I (cc := cX6_parts) (own := RX6) [(0, .ref (a 0)), (1, .int x1)] rfl (by decide) rfl rfl (Nat.le_of_ble_eq_true rfl) (fun κ C hR => ?_)
  have hiX6 : ∀ w ∈ wsX60, w ∈ wsX6_parts := fun w h => List.mem_cons_of_mem _ (List.mem_append_right _ h)
  unfold f_X6_parts at hR
  refine j_aload_n C dX6_parts_0 1 rfl rfl 0 rfl ?_
  refine j_get C dX6_parts_1 4 rfl hiX6 0 rfl rfl 23 (by decide) rfl kX6_parts_f293 rfl ?_
  refine j_iconst (v := 3) C dX6_parts_4 5 rfl (by decide) ?_
  refine j_icmp_ne C dX6_parts_5 27 rfl 8 rfl (fun c1 => ?_) (fun c1 => ?_)
  · rw [if_neg c1] at hR
    refine j_aload_n C dX6_parts_27 28 rfl rfl 0 rfl ?_
    refine j_get C dX6_parts_28 31 rfl hiX6 0 rfl rfl 23 (by decide) rfl kX6_parts_f293 rfl ?_
    refine j_iconst (v := 5) C dX6_parts_31 32 rfl (by decide) ?_
    refine j_icmp_ne C dX6_parts_32 69 rfl 35 rfl (fun c4 => ?_) (fun c4 => ?_)
    · rw [if_neg c4] at hR
      refine j_aload_n C dX6_parts_69 70 rfl rfl 0 rfl ?_
      refine j_iload_n C dX6_parts_70 71 rfl rfl 1 rfl ?_
      refine j_cv0I (na := 1) C dX6_parts_71 74 rfl (c_X6_partsPlain τ a ss mhd mas mbf mih mtp mtn mtk mfr mtt mvl miw mld mrw mrn mso msz mnu mhw mhh mhm mbo mrr mak man maa mip x1 (by first | assumption | exact RB0 | (unfold vp_in; decide) | decide)) gX6_parts_X6_partsPlain rfl rfl rfl qd_X6_partsPlain rfl ⟨by decide, by decide⟩ ⟨by decide, by decide⟩ rfl (Nat.le_of_ble_eq_true rfl) rfl 6 0 rfl rfl (fun r9 u9 hX9 hn9 => ?_)
      obtain ⟨mbo_9, mrr_9, mip_9⟩ := u9
      rw [hX9] at hR; rw [pr4_mk r9 mbo_9 mrr_9 mip_9] at hR
      have hr9 : RB mrr_9 := rc_partsPlain (by first | assumption | exact RB0) hX9
      exact Rt.ret (hR) rfl dX6_parts_74
    · rw [if_pos c4] at hR
      refine j_aload_n C dX6_parts_35 36 rfl rfl 0 rfl ?_
      refine j_bipush (v := 61) C dX6_parts_36 38 rfl (by decide) ?_
      refine j_cv0V (na := 1) C dX6_parts_38 41 rfl (c_X6_runs τ a ss mhd mas mbf mih mtp mtn mtk mfr mtt mvl miw mld mrw mrn mso msz mnu mhw mhh mhm mbo mrr mak man maa mip (61 : Int32) (by first | assumption | exact RB0 | (unfold vp_in; decide) | decide)) gX6_parts_X6_runs rfl rfl rfl qd_X6_runs rfl ⟨by decide, by decide⟩ ⟨by decide, by decide⟩ rfl (Nat.le_of_ble_eq_true rfl) rfl 6 0 rfl rfl (fun u5 hX5 => ?_)
      obtain ⟨mbo_5, mrr_5⟩ := u5
      rw [hX5] at hR; rw [pr2_mk mbo_5 mrr_5] at hR
      have hr5 : RB mrr_5 := rc_runs (by first | assumption | exact RB0) hX5
      refine j_aload_n C dX6_parts_41 42 rfl rfl 0 rfl ?_
      refine j_iload_n C dX6_parts_42 43 rfl rfl 1 rfl ?_
      refine j_cv0I (na := 1) C dX6_parts_43 46 rfl (c_X6_partsPlain τ a ss mhd mas mbf mih mtp mtn mtk mfr mtt mvl miw mld mrw mrn mso msz mnu mhw mhh mhm mbo_5 mrr_5 mak man maa mip x1 (by first | assumption | exact RB0 | (unfold vp_in; decide) | decide)) gX6_parts_X6_partsPlain rfl rfl rfl qd_X6_partsPlain rfl ⟨by decide, by decide⟩ ⟨by decide, by decide⟩ rfl (Nat.le_of_ble_eq_true rfl) rfl 6 0 rfl rfl (fun r6 u6 hX6 hn6 => ?_)
      obtain ⟨mbo_6, mrr_6, mip_6⟩ := u6
      rw [hX6] at hR; rw [pr4_mk r6 mbo_6 mrr_6 mip_6] at hR
      have hr6 : RB mrr_6 := rc_partsPlain (by first | assumption | exact RB0) hX6
      refine j_istore_n C dX6_parts_46 47 rfl rfl (by decide) [(2, .int r6), (0, .ref (a 0)), (1, .int x1)] rfl ?_
      refine j_aload_n C dX6_parts_47 48 rfl rfl 1 rfl ?_
      refine j_get C dX6_parts_48 51 rfl hiX6 0 rfl rfl 26 (by decide) rfl kX6_parts_f308 rfl ?_
      refine j_if_eq C dX6_parts_51 58 rfl 54 rfl (fun c7 => ?_) (fun c7 => ?_)
      · rw [if_pos c7] at hR
        refine j_iload_n C dX6_parts_58 59 rfl rfl 0 rfl ?_
        refine j_aload_n C dX6_parts_59 60 rfl rfl 1 rfl ?_
        refine j_aload_n C dX6_parts_60 61 rfl rfl 1 rfl ?_
        refine j_get C dX6_parts_61 64 rfl hiX6 0 rfl rfl 24 (by decide) rfl kX6_parts_f287 rfl ?_
        refine j_cv0I (na := 1) C dX6_parts_64 67 rfl (c_X6_ticks τ a ss mhd mas mbf mih mtp mtn mtk mfr mtt mvl miw mld mrw mrn mso msz mnu mhw mhh mhm mbo_6 mrr_6 mak man maa mip_6 man (by first | assumption | exact RB0 | (unfold vp_in; decide) | decide)) gX6_parts_X6_ticks rfl rfl rfl qd_X6_ticks rfl ⟨by decide, by decide⟩ ⟨by decide, by decide⟩ rfl (Nat.le_of_ble_eq_true rfl) rfl 6 0 rfl rfl (fun r8 u8 hX8 hn8 => ?_)
        obtain ⟨mbo_8, mrr_8⟩ := u8
        rw [hX8] at hR; rw [pr3_mk r8 mbo_8 mrr_8] at hR
        have hr8 : RB mrr_8 := rc_ticks (by first | assumption | exact RB0) hX8
        refine j_imul C dX6_parts_67 68 rfl ?_
        exact Rt.ret (hR) rfl dX6_parts_68
      · rw [if_neg c7] at hR
        refine j_iconst (v := 0) C dX6_parts_54 55 rfl (by decide) ?_
        refine j_goto C dX6_parts_55 68 rfl ?_
        exact Rt.ret (hR) rfl dX6_parts_68
  · rw [if_pos c1] at hR
    refine j_aload_n C dX6_parts_8 9 rfl rfl 0 rfl ?_
    refine j_bipush (v := 50) C dX6_parts_9 11 rfl (by decide) ?_
    refine j_cv0V (na := 1) C dX6_parts_11 14 rfl (c_X6_runs τ a ss mhd mas mbf mih mtp mtn mtk mfr mtt mvl miw mld mrw mrn mso msz mnu mhw mhh mhm mbo mrr mak man maa mip (50 : Int32) (by first | assumption | exact RB0 | (unfold vp_in; decide) | decide)) gX6_parts_X6_runs rfl rfl rfl qd_X6_runs rfl ⟨by decide, by decide⟩ ⟨by decide, by decide⟩ rfl (Nat.le_of_ble_eq_true rfl) rfl 6 0 rfl rfl (fun u2 hX2 => ?_)
    obtain ⟨mbo_2, mrr_2⟩ := u2
    rw [hX2] at hR; rw [pr2_mk mbo_2 mrr_2] at hR
    have hr2 : RB mrr_2 := rc_runs (by first | assumption | exact RB0) hX2
    refine j_aload_n C dX6_parts_14 15 rfl rfl 0 rfl ?_
    refine j_iload_n C dX6_parts_15 16 rfl rfl 1 rfl ?_
    refine j_iconst (v := 5) C dX6_parts_16 17 rfl (by decide) ?_
    refine j_imul C dX6_parts_17 18 rfl ?_
    refine j_cv0I (na := 1) C dX6_parts_18 21 rfl (c_X6_partsPlain τ a ss mhd mas mbf mih mtp mtn mtk mfr mtt mvl miw mld mrw mrn mso msz mnu mhw mhh mhm mbo_2 mrr_2 mak man maa mip (x1 * 5) (by first | assumption | exact RB0 | (unfold vp_in; decide) | decide)) gX6_parts_X6_partsPlain rfl rfl rfl qd_X6_partsPlain rfl ⟨by decide, by decide⟩ ⟨by decide, by decide⟩ rfl (Nat.le_of_ble_eq_true rfl) rfl 6 0 rfl rfl (fun r3 u3 hX3 hn3 => ?_)
    obtain ⟨mbo_3, mrr_3, mip_3⟩ := u3
    rw [hX3] at hR; rw [pr4_mk r3 mbo_3 mrr_3 mip_3] at hR
    have hr3 : RB mrr_3 := rc_partsPlain (by first | assumption | exact RB0) hX3
    refine j_aload_n C dX6_parts_21 22 rfl rfl 0 rfl ?_
    refine j_get C dX6_parts_22 25 rfl hiX6 0 rfl rfl 24 (by decide) rfl kX6_parts_f287 rfl ?_
    refine j_iadd C dX6_parts_25 26 rfl ?_
    exact Rt.ret (hR) rfl dX6_parts_26

theorem rb_parts {mbo : Nat → Int32} {mrr : Int32} {mak : Int32} {man : Int32} {maa : Int32} {mip : Int32} {x1 : Int32} (h : RB mrr) : RB (f_X6_parts mbo mrr mak man maa mip x1).2.2.1 := by
  unfold f_X6_parts
  simp only [pr1, pr2, pr3, pr4]
  repeat' split
  all_goals with_reducible first | exact rb_partsPlain (rb_runs h) | exact rb_ticks (rb_partsPlain (rb_runs h)) | exact rb_partsPlain h
theorem rc_parts {mbo : Nat → Int32} {mrr : Int32} {mak : Int32} {man : Int32} {maa : Int32} {mip : Int32} {x1 : Int32} {r : Int32} {w_mbo : Nat → Int32} {w_mrr : Int32} {w_mip : Int32} (h : RB mrr) (e : f_X6_parts mbo mrr mak man maa mip x1 = (r, w_mbo, w_mrr, w_mip)) : RB w_mrr := by
  have q := rb_parts (mbo := mbo) (mrr := mrr) (mak := mak) (man := man) (maa := maa) (mip := mip) (x1 := x1) h
  rw [e] at q
  exact q

-- X6_waitsPlain
def f_X6_waitsPlain (mbo : Nat → Int32) (mrr : Int32) (mak : Int32) (man : Int32) (maa : Int32) (x1 : Int32) : Int32 × (Nat → Int32) × Int32 := pr2 (f_X6_runs mbo mrr (13 : Int32)) (fun mbo_1 mrr_1 => pr3 (f_X6_rings mbo_1 mrr_1 mak man maa x1) (fun r2 mbo_2 mrr_2 => ((r2 ^^^ 100), mbo_2, mrr_2)))
theorem qd_X6_waitsPlain : yX6_waitsPlain.cls = RX6 ∧ yX6_waitsPlain.cls ≠ "java/lang/invoke/MethodHandle" ∧ yX6_waitsPlain.cls ≠ "java/lang/invoke/VarHandle" ∧ (parseMethodDescriptor yX6_waitsPlain.desc).map (fun d => d.parameters.length) = some 1 := by decide +kernel
abbrev rmX6_waitsPlain : Room := { frames := 6, cells := 0, slots := 0, locals := 127 }
set_option maxHeartbeats 4000000 in
set_option maxRecDepth 100000 in
theorem c_X6_waitsPlain (τ : SX) (a : Nat → Nat) (ss : Nat → Int32) (mhd : Nat → Int32) (mas : Nat → Int32) (mbf : Nat → Int32) (mih : Int32) (mtp : Nat → Int32) (mtn : Int32) (mtk : Int32) (mfr : Int32) (mtt : Int32) (mvl : Int32) (miw : Int32) (mld : Nat → Int32) (mrw : Nat → Int32) (mrn : Int32) (mso : Nat → Int32) (msz : Nat → Int32) (mnu : Nat → Int32) (mhw : Nat → Int32) (mhh : Nat → Int32) (mhm : Nat → Int32) (mbo : Nat → Int32) (mrr : Int32) (mak : Int32) (man : Int32) (maa : Int32) (mip : Int32) (x1 : Int32) (hr : RB mrr) (sz : Nat) : McI τ yX6_waitsPlain wsX6_waitsPlain rmX6_waitsPlain .int [.ref (a 0), .int x1] (wM τ a ss mhd mas mbf mih mtp mtn mtk mfr mtt mvl miw mld mrw mrn mso msz mnu mhw mhh mhm mbo mrr mak man maa mip) (fun u : (Nat → Int32) × Int32 => (wM τ a ss mhd mas mbf mih mtp mtn mtk mfr mtt mvl miw mld mrw mrn mso msz mnu mhw mhh mhm u.1 u.2 mak man maa mip)) (f_X6_waitsPlain mbo mrr mak man maa x1) sz := by
  refine mc_I (cc := cX6_waitsPlain) (own := RX6) [(0, .ref (a 0)), (1, .int x1)] rfl (by decide) rfl rfl (Nat.le_of_ble_eq_true rfl) (fun κ C hR => ?_)
  have hiX6 : ∀ w ∈ wsX60, w ∈ wsX6_waitsPlain := fun w h => List.mem_cons_of_mem _ (List.mem_append_right _ h)
  unfold f_X6_waitsPlain at hR
  refine j_aload_n C dX6_waitsPlain_0 1 rfl rfl 0 rfl ?_
  refine j_bipush (v := 13) C dX6_waitsPlain_1 3 rfl (by decide) ?_
  refine j_cv0V (na := 1) C dX6_waitsPlain_3 6 rfl (c_X6_runs τ a ss mhd mas mbf mih mtp mtn mtk mfr mtt mvl miw mld mrw mrn mso msz mnu mhw mhh mhm mbo mrr mak man maa mip (13 : Int32) (by first | assumption | exact RB0 | (unfold vp_in; decide) | decide)) gX6_waitsPlain_X6_runs rfl rfl rfl qd_X6_runs rfl ⟨by decide, by decide⟩ ⟨by decide, by decide⟩ rfl (Nat.le_of_ble_eq_true rfl) rfl 6 0 rfl rfl (fun u1 hX1 => ?_)
  obtain ⟨mbo_1, mrr_1⟩ := u1
  rw [hX1] at hR; rw [pr2_mk mbo_1 mrr_1] at hR
  have hr1 : RB mrr_1 := rc_runs (by first | assumption | exact RB0) hX1
  refine j_aload_n C dX6_waitsPlain_6 7 rfl rfl 0 rfl ?_
  refine j_iload_n C dX6_waitsPlain_7 8 rfl rfl 1 rfl ?_
  refine j_cv0I (na := 1) C dX6_waitsPlain_8 11 rfl (c_X6_rings τ a ss mhd mas mbf mih mtp mtn mtk mfr mtt mvl miw mld mrw mrn mso msz mnu mhw mhh mhm mbo_1 mrr_1 mak man maa mip x1 (by first | assumption | exact RB0 | (unfold vp_in; decide) | decide)) gX6_waitsPlain_X6_rings rfl rfl rfl qd_X6_rings rfl ⟨by decide, by decide⟩ ⟨by decide, by decide⟩ rfl (Nat.le_of_ble_eq_true rfl) rfl 6 0 rfl rfl (fun r2 u2 hX2 hn2 => ?_)
  obtain ⟨mbo_2, mrr_2⟩ := u2
  rw [hX2] at hR; rw [pr3_mk r2 mbo_2 mrr_2] at hR
  have hr2 : RB mrr_2 := rc_rings (by first | assumption | exact RB0) hX2
  refine j_bipush (v := 100) C dX6_waitsPlain_11 13 rfl (by decide) ?_
  refine j_ixor C dX6_waitsPlain_13 14 rfl ?_
  exact Rt.ret (hR) rfl dX6_waitsPlain_14

theorem rb_waitsPlain {mbo : Nat → Int32} {mrr : Int32} {mak : Int32} {man : Int32} {maa : Int32} {x1 : Int32} (h : RB mrr) : RB (f_X6_waitsPlain mbo mrr mak man maa x1).2.2 := by
  unfold f_X6_waitsPlain
  simp only [pr1, pr2, pr3, pr4]
  repeat' split
  all_goals with_reducible first | exact rb_rings (rb_runs h)
theorem rc_waitsPlain {mbo : Nat → Int32} {mrr : Int32} {mak : Int32} {man : Int32} {maa : Int32} {x1 : Int32} {r : Int32} {w_mbo : Nat → Int32} {w_mrr : Int32} (h : RB mrr) (e : f_X6_waitsPlain mbo mrr mak man maa x1 = (r, w_mbo, w_mrr)) : RB w_mrr := by
  have q := rb_waitsPlain (mbo := mbo) (mrr := mrr) (mak := mak) (man := man) (maa := maa) (x1 := x1) h
  rw [e] at q
  exact q

-- X6_waits
def f_X6_waits (mbo : Nat → Int32) (mrr : Int32) (mak : Int32) (man : Int32) (maa : Int32) (mip : Int32) (x1 : Int32) : Int32 × (Nat → Int32) × Int32 × Int32 := if (mak = 2) then (pr2 (f_X6_runs mbo mrr (31 : Int32)) (fun mbo_2 mrr_2 => pr3 (f_X6_waitsPlain mbo_2 mrr_2 mak man maa x1) (fun r3 mbo_3 mrr_3 => pr4 (f_X6_parts mbo_3 mrr_3 mak man maa mip man) (fun r4 mbo_4 mrr_4 mip_4 => ((r3 + r4), mbo_4, mrr_4, mip_4))))) else (if (mak = 4) then (pr2 (f_X6_runs mbo mrr (31 : Int32)) (fun mbo_6 mrr_6 => pr3 (f_X6_waitsPlain mbo_6 mrr_6 mak man maa x1) (fun r7 mbo_7 mrr_7 => pr4 (f_X6_parts mbo_7 mrr_7 mak man maa mip man) (fun r8 mbo_8 mrr_8 mip_8 => ((r7 + r8), mbo_8, mrr_8, mip_8))))) else (if (mak = 5) then (pr2 (f_X6_runs mbo mrr (60 : Int32)) (fun mbo_10 mrr_10 => pr3 (f_X6_waitsPlain mbo_10 mrr_10 mak man maa x1) (fun r11 mbo_11 mrr_11 => ((r11 - 1), mbo_11, mrr_11, mip)))) else (pr3 (f_X6_waitsPlain mbo mrr mak man maa x1) (fun r12 mbo_12 mrr_12 => (r12, mbo_12, mrr_12, mip)))))
theorem kX6_waits_f293 : Cond.fieldLink RX6 293 "TwoMinutesModel" "actKind" "I" ∈ wsX6_waits := by decide +kernel
theorem kX6_waits_f287 : Cond.fieldLink RX6 287 "TwoMinutesModel" "actN" "I" ∈ wsX6_waits := by decide +kernel
theorem qd_X6_waits : yX6_waits.cls = RX6 ∧ yX6_waits.cls ≠ "java/lang/invoke/MethodHandle" ∧ yX6_waits.cls ≠ "java/lang/invoke/VarHandle" ∧ (parseMethodDescriptor yX6_waits.desc).map (fun d => d.parameters.length) = some 1 := by decide +kernel
abbrev rmX6_waits : Room := { frames := 7, cells := 0, slots := 0, locals := 148 }
set_option maxHeartbeats 4000000 in
set_option maxRecDepth 100000 in
theorem c_X6_waits (τ : SX) (a : Nat → Nat) (ss : Nat → Int32) (mhd : Nat → Int32) (mas : Nat → Int32) (mbf : Nat → Int32) (mih : Int32) (mtp : Nat → Int32) (mtn : Int32) (mtk : Int32) (mfr : Int32) (mtt : Int32) (mvl : Int32) (miw : Int32) (mld : Nat → Int32) (mrw : Nat → Int32) (mrn : Int32) (mso : Nat → Int32) (msz : Nat → Int32) (mnu : Nat → Int32) (mhw : Nat → Int32) (mhh : Nat → Int32) (mhm : Nat → Int32) (mbo : Nat → Int32) (mrr : Int32) (mak : Int32) (man : Int32) (maa : Int32) (mip : Int32) (x1 : Int32) (hr : RB mrr) (sz : Nat) : McI τ yX6_waits wsX6_waits rmX6_waits .int [.ref (a 0), .int x1] (wM τ a ss mhd mas mbf mih mtp mtn mtk mfr mtt mvl miw mld mrw mrn mso msz mnu mhw mhh mhm mbo mrr mak man maa mip) (fun u : (Nat → Int32) × Int32 × Int32 => (wM τ a ss mhd mas mbf mih mtp mtn mtk mfr mtt mvl miw mld mrw mrn mso msz mnu mhw mhh mhm u.1 u.2.1 mak man maa u.2.2)) (f_X6_waits mbo mrr mak man maa mip x1) sz := by
  refine mc_I (cc := cX6_waits) (own := RX6) [(0, .ref (a 0)), (1, .int x1)] rfl (by decide) rfl rfl (Nat.le_of_ble_eq_true rfl) (fun κ C hR => ?_)
  have hiX6 : ∀ w ∈ wsX60, w ∈ wsX6_waits := fun w h => List.mem_cons_of_mem _ (List.mem_append_right _ h)
  unfold f_X6_waits at hR
  refine j_aload_n C dX6_waits_0 1 rfl rfl 0 rfl ?_
  refine j_get C dX6_waits_1 4 rfl hiX6 0 rfl rfl 23 (by decide) rfl kX6_waits_f293 rfl ?_
  refine j_iconst (v := 2) C dX6_waits_4 5 rfl (by decide) ?_
  refine j_icmp_eq C dX6_waits_5 16 rfl 8 rfl (fun c1 => ?_) (fun c1 => ?_)
  · rw [if_pos c1] at hR
    refine j_aload_n C dX6_waits_16 17 rfl rfl 0 rfl ?_
    refine j_bipush (v := 31) C dX6_waits_17 19 rfl (by decide) ?_
    refine j_cv0V (na := 1) C dX6_waits_19 22 rfl (c_X6_runs τ a ss mhd mas mbf mih mtp mtn mtk mfr mtt mvl miw mld mrw mrn mso msz mnu mhw mhh mhm mbo mrr mak man maa mip (31 : Int32) (by first | assumption | exact RB0 | (unfold vp_in; decide) | decide)) gX6_waits_X6_runs rfl rfl rfl qd_X6_runs rfl ⟨by decide, by decide⟩ ⟨by decide, by decide⟩ rfl (Nat.le_of_ble_eq_true rfl) rfl 6 0 rfl rfl (fun u2 hX2 => ?_)
    obtain ⟨mbo_2, mrr_2⟩ := u2
    rw [hX2] at hR; rw [pr2_mk mbo_2 mrr_2] at hR
    have hr2 : RB mrr_2 := rc_runs (by first | assumption | exact RB0) hX2
    refine j_aload_n C dX6_waits_22 23 rfl rfl 0 rfl ?_
    refine j_iload_n C dX6_waits_23 24 rfl rfl 1 rfl ?_
    refine j_cv0I (na := 1) C dX6_waits_24 27 rfl (c_X6_waitsPlain τ a ss mhd mas mbf mih mtp mtn mtk mfr mtt mvl miw mld mrw mrn mso msz mnu mhw mhh mhm mbo_2 mrr_2 mak man maa mip x1 (by first | assumption | exact RB0 | (unfold vp_in; decide) | decide)) gX6_waits_X6_waitsPlain rfl rfl rfl qd_X6_waitsPlain rfl ⟨by decide, by decide⟩ ⟨by decide, by decide⟩ rfl (Nat.le_of_ble_eq_true rfl) rfl 6 0 rfl rfl (fun r3 u3 hX3 hn3 => ?_)
    obtain ⟨mbo_3, mrr_3⟩ := u3
    rw [hX3] at hR; rw [pr3_mk r3 mbo_3 mrr_3] at hR
    have hr3 : RB mrr_3 := rc_waitsPlain (by first | assumption | exact RB0) hX3
    refine j_istore_n C dX6_waits_27 28 rfl rfl (by decide) [(2, .int r3), (0, .ref (a 0)), (1, .int x1)] rfl ?_
    refine j_iload_n C dX6_waits_28 29 rfl rfl 0 rfl ?_
    refine j_aload_n C dX6_waits_29 30 rfl rfl 1 rfl ?_
    refine j_aload_n C dX6_waits_30 31 rfl rfl 1 rfl ?_
    refine j_get C dX6_waits_31 34 rfl hiX6 0 rfl rfl 24 (by decide) rfl kX6_waits_f287 rfl ?_
    refine j_cv0I (na := 1) C dX6_waits_34 37 rfl (c_X6_parts τ a ss mhd mas mbf mih mtp mtn mtk mfr mtt mvl miw mld mrw mrn mso msz mnu mhw mhh mhm mbo_3 mrr_3 mak man maa mip man (by first | assumption | exact RB0 | (unfold vp_in; decide) | decide)) gX6_waits_X6_parts rfl rfl rfl qd_X6_parts rfl ⟨by decide, by decide⟩ ⟨by decide, by decide⟩ rfl (Nat.le_of_ble_eq_true rfl) rfl 6 0 rfl rfl (fun r4 u4 hX4 hn4 => ?_)
    obtain ⟨mbo_4, mrr_4, mip_4⟩ := u4
    rw [hX4] at hR; rw [pr4_mk r4 mbo_4 mrr_4 mip_4] at hR
    have hr4 : RB mrr_4 := rc_parts (by first | assumption | exact RB0) hX4
    refine j_iadd C dX6_waits_37 38 rfl ?_
    exact Rt.ret (hR) rfl dX6_waits_38
  · rw [if_neg c1] at hR
    refine j_aload_n C dX6_waits_8 9 rfl rfl 0 rfl ?_
    refine j_get C dX6_waits_9 12 rfl hiX6 0 rfl rfl 23 (by decide) rfl kX6_waits_f293 rfl ?_
    refine j_iconst (v := 4) C dX6_waits_12 13 rfl (by decide) ?_
    refine j_icmp_ne C dX6_waits_13 39 rfl 16 rfl (fun c5 => ?_) (fun c5 => ?_)
    · rw [if_neg c5] at hR
      refine j_aload_n C dX6_waits_39 40 rfl rfl 0 rfl ?_
      refine j_get C dX6_waits_40 43 rfl hiX6 0 rfl rfl 23 (by decide) rfl kX6_waits_f293 rfl ?_
      refine j_iconst (v := 5) C dX6_waits_43 44 rfl (by decide) ?_
      refine j_icmp_ne C dX6_waits_44 61 rfl 47 rfl (fun c9 => ?_) (fun c9 => ?_)
      · rw [if_neg c9] at hR
        refine j_aload_n C dX6_waits_61 62 rfl rfl 0 rfl ?_
        refine j_iload_n C dX6_waits_62 63 rfl rfl 1 rfl ?_
        refine j_cv0I (na := 1) C dX6_waits_63 66 rfl (c_X6_waitsPlain τ a ss mhd mas mbf mih mtp mtn mtk mfr mtt mvl miw mld mrw mrn mso msz mnu mhw mhh mhm mbo mrr mak man maa mip x1 (by first | assumption | exact RB0 | (unfold vp_in; decide) | decide)) gX6_waits_X6_waitsPlain rfl rfl rfl qd_X6_waitsPlain rfl ⟨by decide, by decide⟩ ⟨by decide, by decide⟩ rfl (Nat.le_of_ble_eq_true rfl) rfl 6 0 rfl rfl (fun r12 u12 hX12 hn12 => ?_)
        obtain ⟨mbo_12, mrr_12⟩ := u12
        rw [hX12] at hR; rw [pr3_mk r12 mbo_12 mrr_12] at hR
        have hr12 : RB mrr_12 := rc_waitsPlain (by first | assumption | exact RB0) hX12
        exact Rt.ret (hR) rfl dX6_waits_66
      · rw [if_pos c9] at hR
        refine j_aload_n C dX6_waits_47 48 rfl rfl 0 rfl ?_
        refine j_bipush (v := 60) C dX6_waits_48 50 rfl (by decide) ?_
        refine j_cv0V (na := 1) C dX6_waits_50 53 rfl (c_X6_runs τ a ss mhd mas mbf mih mtp mtn mtk mfr mtt mvl miw mld mrw mrn mso msz mnu mhw mhh mhm mbo mrr mak man maa mip (60 : Int32) (by first | assumption | exact RB0 | (unfold vp_in; decide) | decide)) gX6_waits_X6_runs rfl rfl rfl qd_X6_runs rfl ⟨by decide, by decide⟩ ⟨by decide, by decide⟩ rfl (Nat.le_of_ble_eq_true rfl) rfl 6 0 rfl rfl (fun u10 hX10 => ?_)
        obtain ⟨mbo_10, mrr_10⟩ := u10
        rw [hX10] at hR; rw [pr2_mk mbo_10 mrr_10] at hR
        have hr10 : RB mrr_10 := rc_runs (by first | assumption | exact RB0) hX10
        refine j_aload_n C dX6_waits_53 54 rfl rfl 0 rfl ?_
        refine j_iload_n C dX6_waits_54 55 rfl rfl 1 rfl ?_
        refine j_cv0I (na := 1) C dX6_waits_55 58 rfl (c_X6_waitsPlain τ a ss mhd mas mbf mih mtp mtn mtk mfr mtt mvl miw mld mrw mrn mso msz mnu mhw mhh mhm mbo_10 mrr_10 mak man maa mip x1 (by first | assumption | exact RB0 | (unfold vp_in; decide) | decide)) gX6_waits_X6_waitsPlain rfl rfl rfl qd_X6_waitsPlain rfl ⟨by decide, by decide⟩ ⟨by decide, by decide⟩ rfl (Nat.le_of_ble_eq_true rfl) rfl 6 0 rfl rfl (fun r11 u11 hX11 hn11 => ?_)
        obtain ⟨mbo_11, mrr_11⟩ := u11
        rw [hX11] at hR; rw [pr3_mk r11 mbo_11 mrr_11] at hR
        have hr11 : RB mrr_11 := rc_waitsPlain (by first | assumption | exact RB0) hX11
        refine j_iconst (v := 1) C dX6_waits_58 59 rfl (by decide) ?_
        refine j_isub C dX6_waits_59 60 rfl ?_
        exact Rt.ret (hR) rfl dX6_waits_60
    · rw [if_pos c5] at hR
      refine j_aload_n C dX6_waits_16 17 rfl rfl 0 rfl ?_
      refine j_bipush (v := 31) C dX6_waits_17 19 rfl (by decide) ?_
      refine j_cv0V (na := 1) C dX6_waits_19 22 rfl (c_X6_runs τ a ss mhd mas mbf mih mtp mtn mtk mfr mtt mvl miw mld mrw mrn mso msz mnu mhw mhh mhm mbo mrr mak man maa mip (31 : Int32) (by first | assumption | exact RB0 | (unfold vp_in; decide) | decide)) gX6_waits_X6_runs rfl rfl rfl qd_X6_runs rfl ⟨by decide, by decide⟩ ⟨by decide, by decide⟩ rfl (Nat.le_of_ble_eq_true rfl) rfl 6 0 rfl rfl (fun u6 hX6 => ?_)
      obtain ⟨mbo_6, mrr_6⟩ := u6
      rw [hX6] at hR; rw [pr2_mk mbo_6 mrr_6] at hR
      have hr6 : RB mrr_6 := rc_runs (by first | assumption | exact RB0) hX6
      refine j_aload_n C dX6_waits_22 23 rfl rfl 0 rfl ?_
      refine j_iload_n C dX6_waits_23 24 rfl rfl 1 rfl ?_
      refine j_cv0I (na := 1) C dX6_waits_24 27 rfl (c_X6_waitsPlain τ a ss mhd mas mbf mih mtp mtn mtk mfr mtt mvl miw mld mrw mrn mso msz mnu mhw mhh mhm mbo_6 mrr_6 mak man maa mip x1 (by first | assumption | exact RB0 | (unfold vp_in; decide) | decide)) gX6_waits_X6_waitsPlain rfl rfl rfl qd_X6_waitsPlain rfl ⟨by decide, by decide⟩ ⟨by decide, by decide⟩ rfl (Nat.le_of_ble_eq_true rfl) rfl 6 0 rfl rfl (fun r7 u7 hX7 hn7 => ?_)
      obtain ⟨mbo_7, mrr_7⟩ := u7
      rw [hX7] at hR; rw [pr3_mk r7 mbo_7 mrr_7] at hR
      have hr7 : RB mrr_7 := rc_waitsPlain (by first | assumption | exact RB0) hX7
      refine j_istore_n C dX6_waits_27 28 rfl rfl (by decide) [(2, .int r7), (0, .ref (a 0)), (1, .int x1)] rfl ?_
      refine j_iload_n C dX6_waits_28 29 rfl rfl 0 rfl ?_
      refine j_aload_n C dX6_waits_29 30 rfl rfl 1 rfl ?_
      refine j_aload_n C dX6_waits_30 31 rfl rfl 1 rfl ?_
      refine j_get C dX6_waits_31 34 rfl hiX6 0 rfl rfl 24 (by decide) rfl kX6_waits_f287 rfl ?_
      refine j_cv0I (na := 1) C dX6_waits_34 37 rfl (c_X6_parts τ a ss mhd mas mbf mih mtp mtn mtk mfr mtt mvl miw mld mrw mrn mso msz mnu mhw mhh mhm mbo_7 mrr_7 mak man maa mip man (by first | assumption | exact RB0 | (unfold vp_in; decide) | decide)) gX6_waits_X6_parts rfl rfl rfl qd_X6_parts rfl ⟨by decide, by decide⟩ ⟨by decide, by decide⟩ rfl (Nat.le_of_ble_eq_true rfl) rfl 6 0 rfl rfl (fun r8 u8 hX8 hn8 => ?_)
      obtain ⟨mbo_8, mrr_8, mip_8⟩ := u8
      rw [hX8] at hR; rw [pr4_mk r8 mbo_8 mrr_8 mip_8] at hR
      have hr8 : RB mrr_8 := rc_parts (by first | assumption | exact RB0) hX8
      refine j_iadd C dX6_waits_37 38 rfl ?_
      exact Rt.ret (hR) rfl dX6_waits_38

theorem rb_waits {mbo : Nat → Int32} {mrr : Int32} {mak : Int32} {man : Int32} {maa : Int32} {mip : Int32} {x1 : Int32} (h : RB mrr) : RB (f_X6_waits mbo mrr mak man maa mip x1).2.2.1 := by
  unfold f_X6_waits
  simp only [pr1, pr2, pr3, pr4]
  repeat' split
  all_goals with_reducible first | exact rb_parts (rb_waitsPlain (rb_runs h)) | exact rb_waitsPlain (rb_runs h) | exact rb_waitsPlain h
theorem rc_waits {mbo : Nat → Int32} {mrr : Int32} {mak : Int32} {man : Int32} {maa : Int32} {mip : Int32} {x1 : Int32} {r : Int32} {w_mbo : Nat → Int32} {w_mrr : Int32} {w_mip : Int32} (h : RB mrr) (e : f_X6_waits mbo mrr mak man maa mip x1 = (r, w_mbo, w_mrr, w_mip)) : RB w_mrr := by
  have q := rb_waits (mbo := mbo) (mrr := mrr) (mak := mak) (man := man) (maa := maa) (mip := mip) (x1 := x1) h
  rw [e] at q
  exact q

-- X6_act
def f_X6_act (ss : Nat → Int32) (mhw : Nat → Int32) (mhh : Nat → Int32) (mbo : Nat → Int32) (mak : Int32) (man : Int32) (maa : Int32) (mip : Int32) (x1 : Int32) (x2 : Int32) (x3 : Int32) : Int32 × (Nat → Int32) × Int32 × Int32 × Int32 × Int32 × Int32 := if ((f_X6_isShelf x1) = 0) then ((0 : Int32), mbo, (0 : Int32), mak, man, maa, mip) else (if ((f_X6_isIn ((x2 : Int32).toInt64) (0 : Int64) (3 : Int64)) = 0) then ((0 : Int32), mbo, (0 : Int32), mak, man, maa, mip) else (if ((f_X6_heldOn ss mhw mhh x1) = 1) then (pr4 (if (x2 = 0) then (pr3 (f_X6_ticks mbo (0 : Int32) (f_X6_its ss (mhh (x1).toNatClampNeg) (0 : Int32)) (mhh (x1).toNatClampNeg) (f_X6_its ss (mhh (x1).toNatClampNeg) (1 : Int32)) x3) (fun r10 mbo_10 mrr_10 => (r10, mbo_10, mrr_10, (0 : Int32)))) else (if (x2 = 1) then (pr3 (f_X6_rings mbo (0 : Int32) (f_X6_its ss (mhh (x1).toNatClampNeg) (0 : Int32)) (mhh (x1).toNatClampNeg) (f_X6_its ss (mhh (x1).toNatClampNeg) (1 : Int32)) x3) (fun r12 mbo_12 mrr_12 => (r12, mbo_12, mrr_12, (0 : Int32)))) else (if (x2 = 2) then (pr4 (f_X6_parts mbo (0 : Int32) (f_X6_its ss (mhh (x1).toNatClampNeg) (0 : Int32)) (mhh (x1).toNatClampNeg) (f_X6_its ss (mhh (x1).toNatClampNeg) (1 : Int32)) (0 : Int32) x3) (fun r14 mbo_14 mrr_14 mip_14 => (r14, mbo_14, mrr_14, mip_14))) else (pr4 (f_X6_waits mbo (0 : Int32) (f_X6_its ss (mhh (x1).toNatClampNeg) (0 : Int32)) (mhh (x1).toNatClampNeg) (f_X6_its ss (mhh (x1).toNatClampNeg) (1 : Int32)) (0 : Int32) x3) (fun r15 mbo_15 mrr_15 mip_15 => (r15, mbo_15, mrr_15, mip_15)))))) (fun j81_0 j81_1 j81_2 j81_3 => if (j81_3 = 0) then (j81_0, j81_1, j81_2, (f_X6_its ss (mhh (x1).toNatClampNeg) (0 : Int32)), (mhh (x1).toNatClampNeg), (f_X6_its ss (mhh (x1).toNatClampNeg) (1 : Int32)), j81_3) else (((-15) : Int32), j81_1, j81_2, (f_X6_its ss (mhh (x1).toNatClampNeg) (0 : Int32)), (mhh (x1).toNatClampNeg), (f_X6_its ss (mhh (x1).toNatClampNeg) (1 : Int32)), j81_3))) else ((0 : Int32), mbo, (0 : Int32), mak, man, maa, mip)))
theorem kX6_act_f281 : Cond.fieldLink RX6 281 "TwoMinutesModel" "ran" "I" ∈ wsX6_act := by decide +kernel
theorem kX6_act_iRX6 : Cond.initialized yX6_isIn.cls ∈ wsX6_act := by decide +kernel
theorem kX6_act_sX6_isShelf : Cond.static yX6_isShelf ∈ wsX6_act := by decide +kernel
theorem kX6_act_m270 : Cond.methodLink RX6 270 yX6_isShelf ∈ wsX6_act := by decide +kernel
theorem kX6_act_c148 : Cond.constantLong RX6 148 3 ∈ wsX6_act := by decide +kernel
theorem kX6_act_sX6_isIn : Cond.static yX6_isIn ∈ wsX6_act := by decide +kernel
theorem kX6_act_m57 : Cond.methodLink RX6 57 yX6_isIn ∈ wsX6_act := by decide +kernel
theorem kX6_act_f308 : Cond.fieldLink RX6 308 "TwoMinutesModel" "isParted" "Z" ∈ wsX6_act := by decide +kernel
theorem kX6_act_f43 : Cond.fieldLink RX6 43 "TwoMinutesModel" "holdsWhich" "[I" ∈ wsX6_act := by decide +kernel
theorem kX6_act_f293 : Cond.fieldLink RX6 293 "TwoMinutesModel" "actKind" "I" ∈ wsX6_act := by decide +kernel
theorem kX6_act_f287 : Cond.fieldLink RX6 287 "TwoMinutesModel" "actN" "I" ∈ wsX6_act := by decide +kernel
theorem kX6_act_f299 : Cond.fieldLink RX6 299 "TwoMinutesModel" "actA" "I" ∈ wsX6_act := by decide +kernel
theorem qd_X6_act : yX6_act.cls = RX6 ∧ yX6_act.cls ≠ "java/lang/invoke/MethodHandle" ∧ yX6_act.cls ≠ "java/lang/invoke/VarHandle" ∧ (parseMethodDescriptor yX6_act.desc).map (fun d => d.parameters.length) = some 3 := by decide +kernel
abbrev rmX6_act : Room := { frames := 8, cells := 0, slots := 0, locals := 170 }
set_option maxHeartbeats 4000000 in
set_option maxRecDepth 100000 in
theorem c_X6_act (τ : SX) (a : Nat → Nat) (ss : Nat → Int32) (mhd : Nat → Int32) (mas : Nat → Int32) (mbf : Nat → Int32) (mih : Int32) (mtp : Nat → Int32) (mtn : Int32) (mtk : Int32) (mfr : Int32) (mtt : Int32) (mvl : Int32) (miw : Int32) (mld : Nat → Int32) (mrw : Nat → Int32) (mrn : Int32) (mso : Nat → Int32) (msz : Nat → Int32) (mnu : Nat → Int32) (mhw : Nat → Int32) (mhh : Nat → Int32) (mhm : Nat → Int32) (mbo : Nat → Int32) (mrr : Int32) (mak : Int32) (man : Int32) (maa : Int32) (mip : Int32) (x1 : Int32) (x2 : Int32) (x3 : Int32) (hok : okS ss) (sz : Nat) : McI τ yX6_act wsX6_act rmX6_act .int [.ref (a 0), .int x1, .int x2, .int x3] (wM τ a ss mhd mas mbf mih mtp mtn mtk mfr mtt mvl miw mld mrw mrn mso msz mnu mhw mhh mhm mbo mrr mak man maa mip) (fun u : (Nat → Int32) × Int32 × Int32 × Int32 × Int32 × Int32 => (wM τ a ss mhd mas mbf mih mtp mtn mtk mfr mtt mvl miw mld mrw mrn mso msz mnu mhw mhh mhm u.1 u.2.1 u.2.2.1 u.2.2.2.1 u.2.2.2.2.1 u.2.2.2.2.2)) (f_X6_act ss mhw mhh mbo mak man maa mip x1 x2 x3) sz := by
  refine mc_I (cc := cX6_act) (own := RX6) [(0, .ref (a 0)), (1, .int x1), (2, .int x2), (3, .int x3)] rfl (by decide) rfl rfl (Nat.le_of_ble_eq_true rfl) (fun κ C hR => ?_)
  have hiX6 : ∀ w ∈ wsX60, w ∈ wsX6_act := fun w h => List.mem_cons_of_mem _ (List.mem_append_right _ h)
  unfold f_X6_act at hR
  refine j_aload_n C dX6_act_0 1 rfl rfl 0 rfl ?_
  refine j_iconst (v := 0) C dX6_act_1 2 rfl (by decide) ?_
  refine j_put C dX6_act_2 5 rfl hiX6 tyX6_ok nmX6 0 rfl rfl 22 (by decide) rfl kX6_act_f281 rfl rfl rfl (Nat.le_of_ble_eq_true rfl) (wM τ a ss mhd mas mbf mih mtp mtn mtk mfr mtt mvl miw mld mrw mrn mso msz mnu mhw mhh mhm mbo 0 mak man maa mip) rfl ?_
  refine j_iload_n C dX6_act_5 6 rfl rfl 1 rfl ?_
  refine j_cs0I (na := 1) C dX6_act_6 9 rfl (c_X6_isShelf τ  x1 ) rfl ggX6_act_X6_isShelf rfl rfl rfl kX6_act_iRX6 kX6_act_m270 kX6_act_sX6_isShelf qd_X6_isShelf rfl ⟨by decide, by decide⟩ ⟨by decide, by decide⟩ rfl (Nat.le_of_ble_eq_true rfl) (fun r1 u1 hX1 hn1 => ?_)
  obtain rfl := (Prod.mk.inj hX1).1
  refine j_if_eq C dX6_act_9 33 rfl 12 rfl (fun c2 => ?_) (fun c2 => ?_)
  · rw [if_pos c2] at hR
    refine j_iconst (v := 0) C dX6_act_33 34 rfl (by decide) ?_
    exact Rt.ret (hR) rfl dX6_act_34
  · rw [if_neg c2] at hR
    refine j_iload_n C dX6_act_12 13 rfl rfl 2 rfl ?_
    refine j_i2l C dX6_act_13 14 rfl ?_
    refine j_lconst (v := 0) C dX6_act_14 15 rfl (by decide) ?_
    refine j_ldc2 C dX6_act_15 18 rfl kX6_act_c148 ?_
    refine j_cs0I (na := 3) C dX6_act_18 21 rfl (c_X6_isIn τ  ((x2 : Int32).toInt64) (0 : Int64) (3 : Int64) ) rfl ggX6_act_X6_isIn rfl rfl rfl kX6_act_iRX6 kX6_act_m57 kX6_act_sX6_isIn qd_X6_isIn rfl ⟨by decide, by decide⟩ ⟨by decide, by decide⟩ rfl (Nat.le_of_ble_eq_true rfl) (fun r3 u3 hX3 hn3 => ?_)
    obtain rfl := (Prod.mk.inj hX3).1
    refine j_if_eq C dX6_act_21 33 rfl 24 rfl (fun c4 => ?_) (fun c4 => ?_)
    · rw [if_pos c4] at hR
      refine j_iconst (v := 0) C dX6_act_33 34 rfl (by decide) ?_
      exact Rt.ret (hR) rfl dX6_act_34
    · rw [if_neg c4] at hR
      refine j_aload_n C dX6_act_24 25 rfl rfl 0 rfl ?_
      refine j_iload_n C dX6_act_25 26 rfl rfl 1 rfl ?_
      refine j_cv0I (na := 1) C dX6_act_26 29 rfl (c_X6_heldOn τ a ss mhd mas mbf mih mtp mtn mtk mfr mtt mvl miw mld mrw mrn mso msz mnu mhw mhh mhm mbo 0 mak man maa mip x1 hok (in_sf6 c2)) gX6_act_X6_heldOn rfl rfl rfl qd_X6_heldOn rfl ⟨by decide, by decide⟩ ⟨by decide, by decide⟩ rfl (Nat.le_of_ble_eq_true rfl) rfl 6 0 rfl rfl (fun r5 u5 hX5 hn5 => ?_)
      obtain rfl := (Prod.mk.inj hX5).1
      refine j_iconst (v := 1) C dX6_act_29 30 rfl (by decide) ?_
      refine j_icmp_eq C dX6_act_30 35 rfl 33 rfl (fun c6 => ?_) (fun c6 => ?_)
      · rw [if_pos c6] at hR
        refine j_aload_n C dX6_act_35 36 rfl rfl 0 rfl ?_
        refine j_iconst (v := 0) C dX6_act_36 37 rfl (by decide) ?_
        refine j_put C dX6_act_37 40 rfl hiX6 tyX6_ok nmX6 0 rfl rfl 26 (by decide) rfl kX6_act_f308 rfl rfl rfl (Nat.le_of_ble_eq_true rfl) (wM τ a ss mhd mas mbf mih mtp mtn mtk mfr mtt mvl miw mld mrw mrn mso msz mnu mhw mhh mhm mbo 0 mak man maa 0) rfl ?_
        refine j_aload_n C dX6_act_40 41 rfl rfl 0 rfl ?_
        refine j_aload_n C dX6_act_41 42 rfl rfl 0 rfl ?_
        refine j_aload_n C dX6_act_42 43 rfl rfl 0 rfl ?_
        refine j_get C dX6_act_43 46 rfl hiX6 0 rfl rfl 19 (by decide) rfl kX6_act_f43 rfl ?_
        refine j_iload_n C dX6_act_46 47 rfl rfl 1 rfl ?_
        refine j_iald C dX6_act_47 48 rfl 12 rfl (in_sf6 c2) (x1).toNatClampNeg rfl ?_
        refine j_iconst (v := 0) C dX6_act_48 49 rfl (by decide) ?_
        refine j_cv0I (na := 2) C dX6_act_49 52 rfl (c_X6_its τ a ss mhd mas mbf mih mtp mtn mtk mfr mtt mvl miw mld mrw mrn mso msz mnu mhw mhh mhm mbo 0 mak man maa 0 (mhh (x1).toNatClampNeg) (0 : Int32) (its_in (o := (mhh (x1).toNatClampNeg)) (w := 0) (by first | assumption | exact held1 (by assumption) hok) (by decide))) gX6_act_X6_its rfl rfl rfl qd_X6_its rfl ⟨by decide, by decide⟩ ⟨by decide, by decide⟩ rfl (Nat.le_of_ble_eq_true rfl) rfl 6 0 rfl rfl (fun r7 u7 hX7 hn7 => ?_)
        obtain rfl := (Prod.mk.inj hX7).1
        refine j_put C dX6_act_52 55 rfl hiX6 tyX6_ok nmX6 0 rfl rfl 23 (by decide) rfl kX6_act_f293 rfl rfl rfl (Nat.le_of_ble_eq_true rfl) (wM τ a ss mhd mas mbf mih mtp mtn mtk mfr mtt mvl miw mld mrw mrn mso msz mnu mhw mhh mhm mbo 0 (f_X6_its ss (mhh (x1).toNatClampNeg) (0 : Int32)) man maa 0) rfl ?_
        refine j_aload_n C dX6_act_55 56 rfl rfl 0 rfl ?_
        refine j_aload_n C dX6_act_56 57 rfl rfl 0 rfl ?_
        refine j_get C dX6_act_57 60 rfl hiX6 0 rfl rfl 19 (by decide) rfl kX6_act_f43 rfl ?_
        refine j_iload_n C dX6_act_60 61 rfl rfl 1 rfl ?_
        refine j_iald C dX6_act_61 62 rfl 12 rfl (in_sf6 c2) (x1).toNatClampNeg rfl ?_
        refine j_put C dX6_act_62 65 rfl hiX6 tyX6_ok nmX6 0 rfl rfl 24 (by decide) rfl kX6_act_f287 rfl rfl rfl (Nat.le_of_ble_eq_true rfl) (wM τ a ss mhd mas mbf mih mtp mtn mtk mfr mtt mvl miw mld mrw mrn mso msz mnu mhw mhh mhm mbo 0 (f_X6_its ss (mhh (x1).toNatClampNeg) (0 : Int32)) (mhh (x1).toNatClampNeg) maa 0) rfl ?_
        refine j_aload_n C dX6_act_65 66 rfl rfl 0 rfl ?_
        refine j_aload_n C dX6_act_66 67 rfl rfl 0 rfl ?_
        refine j_aload_n C dX6_act_67 68 rfl rfl 0 rfl ?_
        refine j_get C dX6_act_68 71 rfl hiX6 0 rfl rfl 19 (by decide) rfl kX6_act_f43 rfl ?_
        refine j_iload_n C dX6_act_71 72 rfl rfl 1 rfl ?_
        refine j_iald C dX6_act_72 73 rfl 12 rfl (in_sf6 c2) (x1).toNatClampNeg rfl ?_
        refine j_iconst (v := 1) C dX6_act_73 74 rfl (by decide) ?_
        refine j_cv0I (na := 2) C dX6_act_74 77 rfl (c_X6_its τ a ss mhd mas mbf mih mtp mtn mtk mfr mtt mvl miw mld mrw mrn mso msz mnu mhw mhh mhm mbo 0 (f_X6_its ss (mhh (x1).toNatClampNeg) (0 : Int32)) (mhh (x1).toNatClampNeg) maa 0 (mhh (x1).toNatClampNeg) (1 : Int32) (its_in (o := (mhh (x1).toNatClampNeg)) (w := 1) (by first | assumption | exact held1 (by assumption) hok) (by decide))) gX6_act_X6_its rfl rfl rfl qd_X6_its rfl ⟨by decide, by decide⟩ ⟨by decide, by decide⟩ rfl (Nat.le_of_ble_eq_true rfl) rfl 6 0 rfl rfl (fun r8 u8 hX8 hn8 => ?_)
        obtain rfl := (Prod.mk.inj hX8).1
        refine j_put C dX6_act_77 80 rfl hiX6 tyX6_ok nmX6 0 rfl rfl 25 (by decide) rfl kX6_act_f299 rfl rfl rfl (Nat.le_of_ble_eq_true rfl) (wM τ a ss mhd mas mbf mih mtp mtn mtk mfr mtt mvl miw mld mrw mrn mso msz mnu mhw mhh mhm mbo 0 (f_X6_its ss (mhh (x1).toNatClampNeg) (0 : Int32)) (mhh (x1).toNatClampNeg) (f_X6_its ss (mhh (x1).toNatClampNeg) (1 : Int32)) 0) rfl ?_
        refine j_iload_n C dX6_act_80 81 rfl rfl 2 rfl ?_
        have J81 : ∀ (j81_0 : Int32) (j81_1 : Nat → Int32) (j81_2 : Int32) (j81_3 : Int32), Rt τ κ cX6_act .int (fun u : (Nat → Int32) × Int32 × Int32 × Int32 × Int32 × Int32 => (wM τ a ss mhd mas mbf mih mtp mtn mtk mfr mtt mvl miw mld mrw mrn mso msz mnu mhw mhh mhm u.1 u.2.1 u.2.2.1 u.2.2.2.1 u.2.2.2.2.1 u.2.2.2.2.2)) (if (j81_3 = 0) then (j81_0, j81_1, j81_2, (f_X6_its ss (mhh (x1).toNatClampNeg) (0 : Int32)), (mhh (x1).toNatClampNeg), (f_X6_its ss (mhh (x1).toNatClampNeg) (1 : Int32)), j81_3) else (((-15) : Int32), j81_1, j81_2, (f_X6_its ss (mhh (x1).toNatClampNeg) (0 : Int32)), (mhh (x1).toNatClampNeg), (f_X6_its ss (mhh (x1).toNatClampNeg) (1 : Int32)), j81_3)) → J τ κ 0 0 (wM τ a ss mhd mas mbf mih mtp mtn mtk mfr mtt mvl miw mld mrw mrn mso msz mnu mhw mhh mhm j81_1 j81_2 (f_X6_its ss (mhh (x1).toNatClampNeg) (0 : Int32)) (mhh (x1).toNatClampNeg) (f_X6_its ss (mhh (x1).toNatClampNeg) (1 : Int32)) j81_3) [(0, .ref (a 0)), (1, .int x1), (2, .int x2), (3, .int x3)] 123 [.int j81_0] := by
          intro j81_0 j81_1 j81_2 j81_3  hR
          refine j_istore C dX6_act_123 125 rfl (by decide) [(4, .int j81_0), (0, .ref (a 0)), (1, .int x1), (2, .int x2), (3, .int x3)] rfl ?_
          refine j_aload_n C dX6_act_125 126 rfl rfl 1 rfl ?_
          refine j_get C dX6_act_126 129 rfl hiX6 0 rfl rfl 26 (by decide) rfl kX6_act_f308 rfl ?_
          refine j_if_eq C dX6_act_129 137 rfl 132 rfl (fun c16 => ?_) (fun c16 => ?_)
          · rw [if_pos c16] at hR
            refine j_iload C dX6_act_137 139 rfl 0 rfl ?_
            exact Rt.ret (hR) rfl dX6_act_139
          · rw [if_neg c16] at hR
            refine j_bipush (v := (-15)) C dX6_act_132 134 rfl (by decide) ?_
            refine j_goto C dX6_act_134 139 rfl ?_
            exact Rt.ret (hR) rfl dX6_act_139
        refine j_if_ne C dX6_act_81 92 rfl 84 rfl (fun c9 => ?_) (fun c9 => ?_)
        · rw [if_neg c9] at hR
          refine j_iload_n C dX6_act_92 93 rfl rfl 2 rfl ?_
          refine j_iconst (v := 1) C dX6_act_93 94 rfl (by decide) ?_
          refine j_icmp_ne C dX6_act_94 105 rfl 97 rfl (fun c11 => ?_) (fun c11 => ?_)
          · rw [if_neg c11] at hR
            refine j_iload_n C dX6_act_105 106 rfl rfl 2 rfl ?_
            refine j_iconst (v := 2) C dX6_act_106 107 rfl (by decide) ?_
            refine j_icmp_ne C dX6_act_107 118 rfl 110 rfl (fun c13 => ?_) (fun c13 => ?_)
            · rw [if_neg c13] at hR
              refine j_aload_n C dX6_act_118 119 rfl rfl 0 rfl ?_
              refine j_iload_n C dX6_act_119 120 rfl rfl 3 rfl ?_
              refine j_cv0I (na := 1) C dX6_act_120 123 rfl (c_X6_waits τ a ss mhd mas mbf mih mtp mtn mtk mfr mtt mvl miw mld mrw mrn mso msz mnu mhw mhh mhm mbo 0 (f_X6_its ss (mhh (x1).toNatClampNeg) (0 : Int32)) (mhh (x1).toNatClampNeg) (f_X6_its ss (mhh (x1).toNatClampNeg) (1 : Int32)) 0 x3 (by first | assumption | exact RB0 | (unfold vp_in; decide) | decide)) gX6_act_X6_waits rfl rfl rfl qd_X6_waits rfl ⟨by decide, by decide⟩ ⟨by decide, by decide⟩ rfl (Nat.le_of_ble_eq_true rfl) rfl 6 0 rfl rfl (fun r15 u15 hX15 hn15 => ?_)
              obtain ⟨mbo_15, mrr_15, mip_15⟩ := u15
              rw [hX15] at hR; rw [pr4_mk r15 mbo_15 mrr_15 mip_15] at hR
              have hr15 : RB mrr_15 := rc_waits (by first | assumption | exact RB0) hX15
              rw [pr4_mk r15 mbo_15 mrr_15 mip_15] at hR
              exact j_lv [0, 1, 2, 3] [(0, .ref (a 0)), (1, .int x1), (2, .int x2), (3, .int x3)] rfl (J81 _ _ _ _  hR)
            · rw [if_pos c13] at hR
              refine j_aload_n C dX6_act_110 111 rfl rfl 0 rfl ?_
              refine j_iload_n C dX6_act_111 112 rfl rfl 3 rfl ?_
              refine j_cv0I (na := 1) C dX6_act_112 115 rfl (c_X6_parts τ a ss mhd mas mbf mih mtp mtn mtk mfr mtt mvl miw mld mrw mrn mso msz mnu mhw mhh mhm mbo 0 (f_X6_its ss (mhh (x1).toNatClampNeg) (0 : Int32)) (mhh (x1).toNatClampNeg) (f_X6_its ss (mhh (x1).toNatClampNeg) (1 : Int32)) 0 x3 (by first | assumption | exact RB0 | (unfold vp_in; decide) | decide)) gX6_act_X6_parts rfl rfl rfl qd_X6_parts rfl ⟨by decide, by decide⟩ ⟨by decide, by decide⟩ rfl (Nat.le_of_ble_eq_true rfl) rfl 6 0 rfl rfl (fun r14 u14 hX14 hn14 => ?_)
              obtain ⟨mbo_14, mrr_14, mip_14⟩ := u14
              rw [hX14] at hR; rw [pr4_mk r14 mbo_14 mrr_14 mip_14] at hR
              have hr14 : RB mrr_14 := rc_parts (by first | assumption | exact RB0) hX14
              refine j_goto C dX6_act_115 123 rfl ?_
              rw [pr4_mk r14 mbo_14 mrr_14 mip_14] at hR
              exact j_lv [0, 1, 2, 3] [(0, .ref (a 0)), (1, .int x1), (2, .int x2), (3, .int x3)] rfl (J81 _ _ _ _  hR)
          · rw [if_pos c11] at hR
            refine j_aload_n C dX6_act_97 98 rfl rfl 0 rfl ?_
            refine j_iload_n C dX6_act_98 99 rfl rfl 3 rfl ?_
            refine j_cv0I (na := 1) C dX6_act_99 102 rfl (c_X6_rings τ a ss mhd mas mbf mih mtp mtn mtk mfr mtt mvl miw mld mrw mrn mso msz mnu mhw mhh mhm mbo 0 (f_X6_its ss (mhh (x1).toNatClampNeg) (0 : Int32)) (mhh (x1).toNatClampNeg) (f_X6_its ss (mhh (x1).toNatClampNeg) (1 : Int32)) 0 x3 (by first | assumption | exact RB0 | (unfold vp_in; decide) | decide)) gX6_act_X6_rings rfl rfl rfl qd_X6_rings rfl ⟨by decide, by decide⟩ ⟨by decide, by decide⟩ rfl (Nat.le_of_ble_eq_true rfl) rfl 6 0 rfl rfl (fun r12 u12 hX12 hn12 => ?_)
            obtain ⟨mbo_12, mrr_12⟩ := u12
            rw [hX12] at hR; rw [pr3_mk r12 mbo_12 mrr_12] at hR
            have hr12 : RB mrr_12 := rc_rings (by first | assumption | exact RB0) hX12
            refine j_goto C dX6_act_102 123 rfl ?_
            rw [pr4_mk r12 mbo_12 mrr_12 (0 : Int32)] at hR
            exact j_lv [0, 1, 2, 3] [(0, .ref (a 0)), (1, .int x1), (2, .int x2), (3, .int x3)] rfl (J81 _ _ _ _  hR)
        · rw [if_pos c9] at hR
          refine j_aload_n C dX6_act_84 85 rfl rfl 0 rfl ?_
          refine j_iload_n C dX6_act_85 86 rfl rfl 3 rfl ?_
          refine j_cv0I (na := 1) C dX6_act_86 89 rfl (c_X6_ticks τ a ss mhd mas mbf mih mtp mtn mtk mfr mtt mvl miw mld mrw mrn mso msz mnu mhw mhh mhm mbo 0 (f_X6_its ss (mhh (x1).toNatClampNeg) (0 : Int32)) (mhh (x1).toNatClampNeg) (f_X6_its ss (mhh (x1).toNatClampNeg) (1 : Int32)) 0 x3 (by first | assumption | exact RB0 | (unfold vp_in; decide) | decide)) gX6_act_X6_ticks rfl rfl rfl qd_X6_ticks rfl ⟨by decide, by decide⟩ ⟨by decide, by decide⟩ rfl (Nat.le_of_ble_eq_true rfl) rfl 6 0 rfl rfl (fun r10 u10 hX10 hn10 => ?_)
          obtain ⟨mbo_10, mrr_10⟩ := u10
          rw [hX10] at hR; rw [pr3_mk r10 mbo_10 mrr_10] at hR
          have hr10 : RB mrr_10 := rc_ticks (by first | assumption | exact RB0) hX10
          refine j_goto C dX6_act_89 123 rfl ?_
          rw [pr4_mk r10 mbo_10 mrr_10 (0 : Int32)] at hR
          exact j_lv [0, 1, 2, 3] [(0, .ref (a 0)), (1, .int x1), (2, .int x2), (3, .int x3)] rfl (J81 _ _ _ _  hR)
      · rw [if_neg c6] at hR
        refine j_iconst (v := 0) C dX6_act_33 34 rfl (by decide) ?_
        exact Rt.ret (hR) rfl dX6_act_34

