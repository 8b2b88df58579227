theorem lengthBy_keep {ss mas s2 m2 : Nat → Int32} {n a r : Int32} (h : f_X6_lengthBy ss mas n a = (r, s2, m2)) : ∀ k, k < 50 → s2 k = ss k := by
  intro k hk
  unfold f_X6_lengthBy at h
  simp only [pr1, pr3, Prod.mk.injEq] at h
  rw [← h.2.1, cpas _ _ k hk, cpsa _ _ k hk]
theorem ok_lengthBy {ss mas s2 m2 : Nat → Int32} {n a r : Int32} (o : okS ss) (h : f_X6_lengthBy ss mas n a = (r, s2, m2)) : okS s2 := ok_of_eq o (lengthBy_keep h)
theorem okS_w {ss : Nat → Int32} {o v w : Int32} (h : okS ss) (ho : vp_in o 8) (hw : 0 ≤ w.toInt ∧ w.toInt ≤ 4) (h1 : ¬ w.toInt = 1) : okS (upd ss (((10 : Int32) + ((5 : Int32) * o)) + w).toNatClampNeg v) := by
  rw [vp_in_iff] at ho
  rw [its_ix ho.1 (by omega) hw.1 hw.2]
  have e : (w.toNatClampNeg : Int) = w.toInt := by show ((w.toInt.toNat : Nat) : Int) = w.toInt; omega
  exact okS_upd h (by omega) (fun k _ => by omega)
theorem okS_b {ss : Nat → Int32} {o v : Int32} (h : okS ss) (ho : vp_in o 8) (hv : ¬ v = 0) : okS (upd ss (((10 : Int32) + ((5 : Int32) * o)) + 1).toNatClampNeg v) := by
  rw [vp_in_iff] at ho
  rw [its_ix ho.1 (by omega) (by decide) (by decide), show (1 : Int32).toNatClampNeg = 1 from rfl]
  have e0 : upd ss (10 + 5 * o.toNatClampNeg + 1) v 0 = ss 0 := pk_un (by omega)
  refine ⟨by rw [e0]; exact h.1, by rw [e0]; exact h.2.1, fun k hk => ?_⟩
  rw [e0] at hk
  by_cases ek : 10 + 5 * k + 1 = 10 + 5 * o.toNatClampNeg + 1
  · rw [ek, pk_us]; exact hv
  · rw [pk_un ek]; exact h.2.2 k hk
theorem nz1 {x : Int32} (h : 1 ≤ x.toInt) : ¬ x = 0 := fun e => by rw [e] at h; exact absurd h (by decide)
theorem m_long {x : Int32} (c : ¬ f_X6_isLong x = 0) : x.toInt ≤ 60 := (in6 c).2
theorem m_short {x : Int32} (c : ¬ f_X6_isShort x = 0) : x.toInt ≤ 60 := by
  have h := (in6 c).2
  rw [show (30 : Int64).toInt = 30 from rfl] at h
  omega
theorem m_30 {x : Int32} {l : Int64} (c : ¬ f_X6_isIn x.toInt64 l 30 = 0) : x.toInt ≤ 30 := (in6 c).2
theorem m_10 {x : Int32} {l : Int64} (c : ¬ f_X6_isIn x.toInt64 l 10 = 0) : x.toInt ≤ 10 := (in6 c).2
theorem ok_second {ss s2 : Nat → Int32} {r : Int32} (h : okS ss) (e : f_X6_second ss = (r, s2)) : okS s2 := by
  unfold f_X6_second at e
  by_cases c : ss 0 ≤ 0
  · rw [if_pos c] at e
    simp only [pr1, pr2, Prod.mk.injEq] at e
    rw [← e.2]; exact ok_goesBy h
  · rw [if_neg c] at e
    simp only [pr1, pr2, Prod.mk.injEq] at e
    rw [← e.2]
    exact ok_goesBy (ok_drawn (ok_drawn h (Prod.mk.eta).symm) (Prod.mk.eta).symm)

-- X6_kept
def l_X6_kept_13  : Nat → Int32 → (Nat → Int32) → Int32 × (Nat → Int32)
  | 0, x1, ss => (x1, ss)
  | N + 1, x1, ss => if (60 < x1) then (x1, ss) else (if ((ss 5) = 0) then (pr1 (f_X6_goes ss (1 : Int32) (0 : Int32)) (fun ss_5 => l_X6_kept_13 N (x1 + 1) ss_5)) else (x1, ss))
def f_X6_kept (ss : Nat → Int32) (mas : Nat → Int32) : Int32 × (Nat → Int32) × (Nat → Int32) := pr1 (f_X6_copyRow__sa ss mas) (fun mas_1 => pr2 (l_X6_kept_13 300 (0 : Int32) ss) (fun x1_2 ss_2 => pr1 (f_X6_copyRow__as ss_2 mas_1) (fun ss_6 => if (60 < x1_2) then (((-3) : Int32), ss_6, mas_1) else (x1_2, ss_6, mas_1))))
theorem kX6_kept_f7 : Cond.fieldLink RX6 7 "TwoMinutesModel" "s" "[I" ∈ wsX6_kept := by decide +kernel
theorem kX6_kept_f16 : Cond.fieldLink RX6 16 "TwoMinutesModel" "aside" "[I" ∈ wsX6_kept := by decide +kernel
theorem kX6_kept_iRX6 : Cond.initialized yX6_copyRow.cls ∈ wsX6_kept := by decide +kernel
theorem kX6_kept_sX6_copyRow : Cond.static yX6_copyRow ∈ wsX6_kept := by decide +kernel
theorem kX6_kept_m138 : Cond.methodLink RX6 138 yX6_copyRow ∈ wsX6_kept := by decide +kernel
theorem qd_X6_kept : yX6_kept.cls = RX6 ∧ yX6_kept.cls ≠ "java/lang/invoke/MethodHandle" ∧ yX6_kept.cls ≠ "java/lang/invoke/VarHandle" ∧ (parseMethodDescriptor yX6_kept.desc).map (fun d => d.parameters.length) = some 0 := by decide +kernel
abbrev rmX6_kept : Room := { frames := 5, cells := 0, slots := 0, locals := 113 }
set_option maxHeartbeats 4000000 in
set_option maxRecDepth 100000 in
theorem L_X6_kept_13 {τ : SX} {κ : KX} (C : Cx τ κ cX6_kept RX6 wsX6_kept rmX6_kept 2) (a : Nat → Nat) (mhd : Nat → Int32) (mas : Nat → Int32) (mbf : Nat → Int32) (mih : Int32) (mtp : Nat → Int32) (mtn : Int32) (mtk : Int32) (mfr : Int32) (mtt : Int32) (mvl : Int32) (miw : Int32) (mld : Nat → Int32) (mrw : Nat → Int32) (mrn : Int32) (mso : Nat → Int32) (msz : Nat → Int32) (mnu : Nat → Int32) (mhw : Nat → Int32) (mhh : Nat → Int32) (mhm : Nat → Int32) (mbo : Nat → Int32) (mrr : Int32) (mak : Int32) (man : Int32) (maa : Int32) (mip : Int32) (Φ : Int32 × (Nat → Int32) → Prop) (hE : ∀ (x1 : Int32) (ss : Nat → Int32), Φ (x1, ss) → J τ κ 0 0 (wM τ a ss mhd mas mbf mih mtp mtn mtk mfr mtt mvl miw mld mrw mrn mso msz mnu mhw mhh mhm mbo mrr mak man maa mip) [(0, .ref (a 0)), (1, .int x1)] 40 []) : ∀ (N : Nat) (x1 : Int32) (ss : Nat → Int32), ((61 : Int) - x1.toInt).toNat < N → (0 ≤ x1.toInt) → (x1.toInt ≤ 61) → (okS ss) → Φ (l_X6_kept_13 N x1 ss) → J τ κ 0 0 (wM τ a ss mhd mas mbf mih mtp mtn mtk mfr mtt mvl miw mld mrw mrn mso msz mnu mhw mhh mhm mbo mrr mak man maa mip) [(0, .ref (a 0)), (1, .int x1)] 13 [] := by
  have hiX6 : ∀ w ∈ wsX60, w ∈ wsX6_kept := fun w h => List.mem_cons_of_mem _ (List.mem_append_right _ h)
  intro N
  induction N with
  | zero => intro x1 ss hm; exact absurd hm (Nat.not_lt_zero _)
  | succ N ih =>
    intro x1 ss hm h0 h1 hok hR
    rw [l_X6_kept_13] at hR
    refine j_iload_n C dX6_kept_13 14 rfl rfl 1 rfl ?_
    refine j_bipush (v := 60) C dX6_kept_14 16 rfl (by decide) ?_
    refine j_icmp_gt C dX6_kept_16 40 rfl 19 rfl (fun c3 => ?_) (fun c3 => ?_)
    · rw [if_pos c3] at hR
      exact j_lv [0, 1] [(0, .ref (a 0)), (1, .int x1)] rfl (hE _ _  hR)
    · rw [if_neg c3] at hR
      have hs := cnt_stepL (B := 61) h0 (by decide) (by decide) c3
      refine j_aload_n C dX6_kept_19 20 rfl rfl 0 rfl ?_
      refine j_get C dX6_kept_20 23 rfl hiX6 0 rfl rfl 0 (by decide) rfl kX6_kept_f7 rfl ?_
      refine j_iconst (v := 5) C dX6_kept_23 24 rfl (by decide) ?_
      refine j_iald C dX6_kept_24 25 rfl 1 rfl (by unfold vp_in; decide) 5 rfl ?_
      refine j_if_ne C dX6_kept_25 40 rfl 28 rfl (fun c4 => ?_) (fun c4 => ?_)
      · rw [if_neg c4] at hR
        exact j_lv [0, 1] [(0, .ref (a 0)), (1, .int x1)] rfl (hE _ _  hR)
      · rw [if_pos c4] at hR
        refine j_aload_n C dX6_kept_28 29 rfl rfl 0 rfl ?_
        refine j_iconst (v := 1) C dX6_kept_29 30 rfl (by decide) ?_
        refine j_iconst (v := 0) C dX6_kept_30 31 rfl (by decide) ?_
        refine j_cv0V (na := 2) C dX6_kept_31 34 rfl (c_X6_goes τ a ss mhd mas mbf mih mtp mtn mtk mfr mtt mvl miw mld mrw mrn mso msz mnu mhw mhh mhm mbo mrr mak man maa mip (1 : Int32) (0 : Int32) (by first | assumption | (unfold vp_in; decide) | decide) (by first | assumption | (unfold vp_in; decide) | decide)) gX6_kept_X6_goes rfl rfl rfl qd_X6_goes rfl ⟨by decide, by decide⟩ ⟨by decide, by decide⟩ rfl (Nat.le_of_ble_eq_true rfl) rfl 6 0 rfl rfl (fun u5 hX5 => ?_)
        obtain ⟨ss_5, rfl⟩ : ∃ z, z = u5 := ⟨_, rfl⟩
        rw [hX5] at hR; rw [pr1_mk ss_5] at hR
        have hok5 : okS ss_5 := by rw [← hX5]; exact ok_goes (by assumption)
        refine j_iinc (v := (x1 + 1)) C dX6_kept_34 37 rfl 1 rfl rfl (by decide) [(1, .int (x1 + 1)), (0, .ref (a 0))] rfl ?_
        refine j_goto C dX6_kept_37 13 rfl ?_
        exact j_lv [1, 0] [(0, .ref (a 0)), (1, .int (x1 + 1))] rfl (ih _ _ (by have := hs.2.2.1; omega) hs.1 hs.2.1 (by assumption) hR)
set_option maxHeartbeats 4000000 in
set_option maxRecDepth 100000 in
theorem c_X6_kept (τ : SX) (a : Nat → Nat) (ss : Nat → Int32) (mhd : Nat → Int32) (mas : Nat → Int32) (mbf : Nat → Int32) (mih : Int32) (mtp : Nat → Int32) (mtn : Int32) (mtk : Int32) (mfr : Int32) (mtt : Int32) (mvl : Int32) (miw : Int32) (mld : Nat → Int32) (mrw : Nat → Int32) (mrn : Int32) (mso : Nat → Int32) (msz : Nat → Int32) (mnu : Nat → Int32) (mhw : Nat → Int32) (mhh : Nat → Int32) (mhm : Nat → Int32) (mbo : Nat → Int32) (mrr : Int32) (mak : Int32) (man : Int32) (maa : Int32) (mip : Int32) (hok : okS ss) (sz : Nat) : McI τ yX6_kept wsX6_kept rmX6_kept .int [.ref (a 0)] (wM τ a ss mhd mas mbf mih mtp mtn mtk mfr mtt mvl miw mld mrw mrn mso msz mnu mhw mhh mhm mbo mrr mak man maa mip) (fun u : (Nat → Int32) × (Nat → Int32) => (wM τ a u.1 mhd u.2 mbf mih mtp mtn mtk mfr mtt mvl miw mld mrw mrn mso msz mnu mhw mhh mhm mbo mrr mak man maa mip)) (f_X6_kept ss mas) sz := by
  refine mc_I (cc := cX6_kept) (own := RX6) [(0, .ref (a 0))] rfl (by decide) rfl rfl (Nat.le_of_ble_eq_true rfl) (fun κ C hR => ?_)
  have hiX6 : ∀ w ∈ wsX60, w ∈ wsX6_kept := fun w h => List.mem_cons_of_mem _ (List.mem_append_right _ h)
  unfold f_X6_kept at hR
  refine j_aload_n C dX6_kept_0 1 rfl rfl 0 rfl ?_
  refine j_get C dX6_kept_1 4 rfl hiX6 0 rfl rfl 0 (by decide) rfl kX6_kept_f7 rfl ?_
  refine j_aload_n C dX6_kept_4 5 rfl rfl 0 rfl ?_
  refine j_get C dX6_kept_5 8 rfl hiX6 0 rfl rfl 2 (by decide) rfl kX6_kept_f16 rfl ?_
  refine j_csWV (na := 2) C dX6_kept_8 11 rfl (c_X6_copyRow__sa τ a ss mhd mas mbf mih mtp mtn mtk mfr mtt mvl miw mld mrw mrn mso msz mnu mhw mhh mhm mbo mrr mak man maa mip ) ggX6_kept_X6_copyRow rfl rfl rfl kX6_kept_iRX6 kX6_kept_m138 kX6_kept_sX6_copyRow qd_X6_copyRow__sa rfl ⟨by decide, by decide⟩ ⟨by decide, by decide⟩ rfl (Nat.le_of_ble_eq_true rfl) rfl (fun u1 hX1 => ?_)
  obtain ⟨mas_1, rfl⟩ : ∃ z, z = u1 := ⟨_, rfl⟩
  rw [hX1] at hR; rw [pr1_mk mas_1] at hR
  have hoka1 : okS mas_1 := by rw [← hX1]; exact ok_cp_sa (by assumption)
  refine j_iconst (v := 0) C dX6_kept_11 12 rfl (by decide) ?_
  refine j_istore_n C dX6_kept_12 13 rfl rfl (by decide) [(1, .int 0), (0, .ref (a 0))] rfl ?_
  refine j_lv [1, 0] [(0, .ref (a 0)), (1, .int 0)] rfl (L_X6_kept_13 C a mhd mas_1 mbf mih mtp mtn mtk mfr mtt mvl miw mld mrw mrn mso msz mnu mhw mhh mhm mbo mrr mak man maa mip   (fun (o : Int32 × (Nat → Int32)) => Rt τ κ cX6_kept .int (fun u : (Nat → Int32) × (Nat → Int32) => (wM τ a u.1 mhd u.2 mbf mih mtp mtn mtk mfr mtt mvl miw mld mrw mrn mso msz mnu mhw mhh mhm mbo mrr mak man maa mip)) (pr2 o (fun x1_2 ss_2 => pr1 (f_X6_copyRow__as ss_2 mas_1) (fun ss_6 => if (60 < x1_2) then (((-3) : Int32), ss_6, mas_1) else (x1_2, ss_6, mas_1))))) (fun x1_2 ss_2  hR => ?_) 300 (0 : Int32) ss (by decide) (by decide) (by decide) (by assumption) hR)
  rw [pr2_mk x1_2 ss_2] at hR
  refine j_aload_n C dX6_kept_40 41 rfl rfl 0 rfl ?_
  refine j_get C dX6_kept_41 44 rfl hiX6 0 rfl rfl 2 (by decide) rfl kX6_kept_f16 rfl ?_
  refine j_aload_n C dX6_kept_44 45 rfl rfl 0 rfl ?_
  refine j_get C dX6_kept_45 48 rfl hiX6 0 rfl rfl 0 (by decide) rfl kX6_kept_f7 rfl ?_
  refine j_csWV (na := 2) C dX6_kept_48 51 rfl (c_X6_copyRow__as τ a ss_2 mhd mas_1 mbf mih mtp mtn mtk mfr mtt mvl miw mld mrw mrn mso msz mnu mhw mhh mhm mbo mrr mak man maa mip ) ggX6_kept_X6_copyRow rfl rfl rfl kX6_kept_iRX6 kX6_kept_m138 kX6_kept_sX6_copyRow qd_X6_copyRow__as rfl ⟨by decide, by decide⟩ ⟨by decide, by decide⟩ rfl (Nat.le_of_ble_eq_true rfl) rfl (fun u6 hX6 => ?_)
  obtain ⟨ss_6, rfl⟩ : ∃ z, z = u6 := ⟨_, rfl⟩
  rw [hX6] at hR; rw [pr1_mk ss_6] at hR
  have hok6 : okS ss_6 := by rw [← hX6]; exact ok_cp_as (by assumption)
  refine j_iload_n C dX6_kept_51 52 rfl rfl 1 rfl ?_
  refine j_bipush (v := 60) C dX6_kept_52 54 rfl (by decide) ?_
  refine j_icmp_gt C dX6_kept_54 61 rfl 57 rfl (fun c7 => ?_) (fun c7 => ?_)
  · rw [if_pos c7] at hR
    refine j_bipush (v := (-3)) C dX6_kept_61 63 rfl (by decide) ?_
    exact Rt.ret (hR) rfl dX6_kept_63
  · rw [if_neg c7] at hR
    refine j_iload_n C dX6_kept_57 58 rfl rfl 1 rfl ?_
    refine j_goto C dX6_kept_58 63 rfl ?_
    exact Rt.ret (hR) rfl dX6_kept_63

-- X6_spoilt
def l_X6_spoilt_51 (mas : Nat → Int32) (x1 : Int32) (x2 : Int32) : Nat → Int32 → Int32 → Int32 → (Nat → Int32) → Int32 × Int32 × Int32 × (Nat → Int32)
  | 0, x3, x4, x5, ss => (x3, x4, x5, ss)
  | N + 1, x3, x4, x5, ss => if (x1 ≤ x5) then (x3, x4, x5, ss) else (pr1 (f_X6_copyRow__as ss mas) (fun ss_7 => pr2 (f_X6_second (upd ss_7 2 x3)) (fun r8 ss_8 => pr1 (if (x2 ≤ r8) then (0 : Int32) else (1 : Int32)) (fun j82_0 => l_X6_spoilt_51 mas x1 x2 N (ss_8 2) (x4 + j82_0) (x5 + 1) ss_8))))
def f_X6_spoilt (ss : Nat → Int32) (mas : Nat → Int32) (x1 : Int32) : Int32 × (Nat → Int32) × (Nat → Int32) := if ((f_X6_isIn ((x1 : Int32).toInt64) (1 : Int64) (30 : Int64)) = 0) then (((-1) : Int32), ss, mas) else (pr1 (f_X6_copyRow__sa ss mas) (fun mas_3 => pr1 (f_X6_goes ss (1 : Int32) (0 : Int32)) (fun ss_4 => pr4 (l_X6_spoilt_51 mas_3 x1 (ss_4 3) 300 (mas_3 2) (0 : Int32) (0 : Int32) ss_4) (fun x3_5 x4_5 x5_5 ss_5 => pr1 (f_X6_copyRow__as ss_5 mas_3) (fun ss_10 => (x4_5, ss_10, mas_3))))))
theorem kX6_spoilt_c211 : Cond.constantLong RX6 211 30 ∈ wsX6_spoilt := by decide +kernel
theorem kX6_spoilt_iRX6 : Cond.initialized yX6_copyRow.cls ∈ wsX6_spoilt := by decide +kernel
theorem kX6_spoilt_sX6_isIn : Cond.static yX6_isIn ∈ wsX6_spoilt := by decide +kernel
theorem kX6_spoilt_m57 : Cond.methodLink RX6 57 yX6_isIn ∈ wsX6_spoilt := by decide +kernel
theorem kX6_spoilt_f7 : Cond.fieldLink RX6 7 "TwoMinutesModel" "s" "[I" ∈ wsX6_spoilt := by decide +kernel
theorem kX6_spoilt_f16 : Cond.fieldLink RX6 16 "TwoMinutesModel" "aside" "[I" ∈ wsX6_spoilt := by decide +kernel
theorem kX6_spoilt_sX6_copyRow : Cond.static yX6_copyRow ∈ wsX6_spoilt := by decide +kernel
theorem kX6_spoilt_m138 : Cond.methodLink RX6 138 yX6_copyRow ∈ wsX6_spoilt := by decide +kernel
theorem qd_X6_spoilt : yX6_spoilt.cls = RX6 ∧ yX6_spoilt.cls ≠ "java/lang/invoke/MethodHandle" ∧ yX6_spoilt.cls ≠ "java/lang/invoke/VarHandle" ∧ (parseMethodDescriptor yX6_spoilt.desc).map (fun d => d.parameters.length) = some 1 := by decide +kernel
abbrev rmX6_spoilt : Room := { frames := 5, cells := 0, slots := 0, locals := 113 }
set_option maxHeartbeats 4000000 in
set_option maxRecDepth 100000 in
theorem L_X6_spoilt_51 {τ : SX} {κ : KX} (C : Cx τ κ cX6_spoilt RX6 wsX6_spoilt rmX6_spoilt 6) (a : Nat → Nat) (mhd : Nat → Int32) (mas : Nat → Int32) (mbf : Nat → Int32) (mih : Int32) (mtp : Nat → Int32) (mtn : Int32) (mtk : Int32) (mfr : Int32) (mtt : Int32) (mvl : Int32) (miw : Int32) (mld : Nat → Int32) (mrw : Nat → Int32) (mrn : Int32) (mso : Nat → Int32) (msz : Nat → Int32) (mnu : Nat → Int32) (mhw : Nat → Int32) (mhh : Nat → Int32) (mhm : Nat → Int32) (mbo : Nat → Int32) (mrr : Int32) (mak : Int32) (man : Int32) (maa : Int32) (mip : Int32) (x1 : Int32) (x2 : Int32) (hx : x1.toInt ≤ 30) (hoka : okS mas) (Φ : Int32 × Int32 × Int32 × (Nat → Int32) → Prop) (hE : ∀ (x3 : Int32) (x4 : Int32) (x5 : Int32) (ss : Nat → Int32), Φ (x3, x4, x5, ss) → J τ κ 0 0 (wM τ a ss mhd mas mbf mih mtp mtn mtk mfr mtt mvl miw mld mrw mrn mso msz mnu mhw mhh mhm mbo mrr mak man maa mip) [(0, .ref (a 0)), (1, .int x1), (2, .int x2), (3, .int x3), (4, .int x4), (5, .int x5)] 106 []) : ∀ (N : Nat) (x3 : Int32) (x4 : Int32) (x5 : Int32) (ss : Nat → Int32), ((30 : Int) - x5.toInt).toNat < N → (0 ≤ x5.toInt) → (x5.toInt ≤ 30) → Φ (l_X6_spoilt_51 mas x1 x2 N x3 x4 x5 ss) → J τ κ 0 0 (wM τ a ss mhd mas mbf mih mtp mtn mtk mfr mtt mvl miw mld mrw mrn mso msz mnu mhw mhh mhm mbo mrr mak man maa mip) [(0, .ref (a 0)), (1, .int x1), (2, .int x2), (3, .int x3), (4, .int x4), (5, .int x5)] 51 [] := by
  have hiX6 : ∀ w ∈ wsX60, w ∈ wsX6_spoilt := fun w h => List.mem_cons_of_mem _ (List.mem_append_right _ h)
  intro N
  induction N with
  | zero => intro x3 x4 x5 ss hm; exact absurd hm (Nat.not_lt_zero _)
  | succ N ih =>
    intro x3 x4 x5 ss hm h0 h1 hR
    rw [l_X6_spoilt_51] at hR
    refine j_iload C dX6_spoilt_51 53 rfl 5 rfl ?_
    refine j_iload_n C dX6_spoilt_53 54 rfl rfl 1 rfl ?_
    refine j_icmp_ge C dX6_spoilt_54 106 rfl 57 rfl (fun c6 => ?_) (fun c6 => ?_)
    · rw [if_pos c6] at hR
      exact j_lv [0, 1, 2, 3, 4, 5] [(0, .ref (a 0)), (1, .int x1), (2, .int x2), (3, .int x3), (4, .int x4), (5, .int x5)] rfl (hE _ _ _ _  hR)
    · rw [if_neg c6] at hR
      have hs := cnt_step (B := 30) h0 (hx) (by decide) c6
      refine j_aload_n C dX6_spoilt_57 58 rfl rfl 0 rfl ?_
      refine j_get C dX6_spoilt_58 61 rfl hiX6 0 rfl rfl 2 (by decide) rfl kX6_spoilt_f16 rfl ?_
      refine j_aload_n C dX6_spoilt_61 62 rfl rfl 0 rfl ?_
      refine j_get C dX6_spoilt_62 65 rfl hiX6 0 rfl rfl 0 (by decide) rfl kX6_spoilt_f7 rfl ?_
      refine j_csWV (na := 2) C dX6_spoilt_65 68 rfl (c_X6_copyRow__as τ a ss mhd mas mbf mih mtp mtn mtk mfr mtt mvl miw mld mrw mrn mso msz mnu mhw mhh mhm mbo mrr mak man maa mip ) ggX6_spoilt_X6_copyRow rfl rfl rfl kX6_spoilt_iRX6 kX6_spoilt_m138 kX6_spoilt_sX6_copyRow qd_X6_copyRow__as rfl ⟨by decide, by decide⟩ ⟨by decide, by decide⟩ rfl (Nat.le_of_ble_eq_true rfl) rfl (fun u7 hX7 => ?_)
      obtain ⟨ss_7, rfl⟩ : ∃ z, z = u7 := ⟨_, rfl⟩
      rw [hX7] at hR; rw [pr1_mk ss_7] at hR
      have hok7 : okS ss_7 := by rw [← hX7]; exact ok_cp_as (by assumption)
      refine j_aload_n C dX6_spoilt_68 69 rfl rfl 0 rfl ?_
      refine j_get C dX6_spoilt_69 72 rfl hiX6 0 rfl rfl 0 (by decide) rfl kX6_spoilt_f7 rfl ?_
      refine j_iconst (v := 2) C dX6_spoilt_72 73 rfl (by decide) ?_
      refine j_iload_n C dX6_spoilt_73 74 rfl rfl 3 rfl ?_
      refine j_iast C dX6_spoilt_74 75 rfl 1 rfl (by unfold vp_in; decide) 2 rfl (wM τ a (upd ss_7 2 x3) mhd mas mbf mih mtp mtn mtk mfr mtt mvl miw mld mrw mrn mso msz mnu mhw mhh mhm mbo mrr mak man maa mip) rfl ?_
      refine j_iload C dX6_spoilt_75 77 rfl 4 rfl ?_
      refine j_aload_n C dX6_spoilt_77 78 rfl rfl 0 rfl ?_
      refine j_cv0I (na := 0) C dX6_spoilt_78 81 rfl (c_X6_second τ a (upd ss_7 2 x3) mhd mas mbf mih mtp mtn mtk mfr mtt mvl miw mld mrw mrn mso msz mnu mhw mhh mhm mbo mrr mak man maa mip (okS_upd (by assumption) (by decide) (fun k _ => by omega))) gX6_spoilt_X6_second rfl rfl rfl qd_X6_second rfl ⟨by decide, by decide⟩ ⟨by decide, by decide⟩ rfl (Nat.le_of_ble_eq_true rfl) rfl 6 0 rfl rfl (fun r8 u8 hX8 hn8 => ?_)
      obtain ⟨ss_8, rfl⟩ : ∃ z, z = u8 := ⟨_, rfl⟩
      rw [hX8] at hR; rw [pr2_mk r8 ss_8] at hR
      refine j_iload_n C dX6_spoilt_81 82 rfl rfl 2 rfl ?_
      have J82 : ∀ (j82_0 : Int32), Φ (l_X6_spoilt_51 mas x1 x2 N (ss_8 2) (x4 + j82_0) (x5 + 1) ss_8) → J τ κ 0 0 (wM τ a ss_8 mhd mas mbf mih mtp mtn mtk mfr mtt mvl miw mld mrw mrn mso msz mnu mhw mhh mhm mbo mrr mak man maa mip) [(0, .ref (a 0)), (1, .int x1), (2, .int x2), (3, .int x3), (4, .int x4), (5, .int x5)] 90 [.int j82_0, .int x4] := by
        intro j82_0  hR
        refine j_iadd C dX6_spoilt_90 91 rfl ?_
        refine j_istore C dX6_spoilt_91 93 rfl (by decide) [(4, .int (x4 + j82_0)), (0, .ref (a 0)), (1, .int x1), (2, .int x2), (3, .int x3), (5, .int x5)] rfl ?_
        refine j_aload_n C dX6_spoilt_93 94 rfl rfl 1 rfl ?_
        refine j_get C dX6_spoilt_94 97 rfl hiX6 0 rfl rfl 0 (by decide) rfl kX6_spoilt_f7 rfl ?_
        refine j_iconst (v := 2) C dX6_spoilt_97 98 rfl (by decide) ?_
        refine j_iald C dX6_spoilt_98 99 rfl 1 rfl (by unfold vp_in; decide) 2 rfl ?_
        refine j_istore_n C dX6_spoilt_99 100 rfl rfl (by decide) [(3, .int (ss_8 2)), (4, .int (x4 + j82_0)), (0, .ref (a 0)), (1, .int x1), (2, .int x2), (5, .int x5)] rfl ?_
        refine j_iinc (v := (x5 + 1)) C dX6_spoilt_100 103 rfl 5 rfl rfl (by decide) [(5, .int (x5 + 1)), (3, .int (ss_8 2)), (4, .int (x4 + j82_0)), (0, .ref (a 0)), (1, .int x1), (2, .int x2)] rfl ?_
        refine j_goto C dX6_spoilt_103 51 rfl ?_
        exact j_lv [3, 4, 5, 1, 2, 0] [(0, .ref (a 0)), (1, .int x1), (2, .int x2), (3, .int (ss_8 2)), (4, .int (x4 + j82_0)), (5, .int (x5 + 1))] rfl (ih _ _ _ _ (by have := hs.2.2.1; omega) hs.1 hs.2.1 hR)
      refine j_icmp_ge C dX6_spoilt_82 89 rfl 85 rfl (fun c9 => ?_) (fun c9 => ?_)
      · rw [if_pos c9] at hR
        refine j_iconst (v := 0) C dX6_spoilt_89 90 rfl (by decide) ?_
        rw [pr1_mk (0 : Int32)] at hR
        exact j_lv [0, 1, 2, 3, 4, 5] [(0, .ref (a 0)), (1, .int x1), (2, .int x2), (3, .int x3), (4, .int x4), (5, .int x5)] rfl (J82 _  hR)
      · rw [if_neg c9] at hR
        refine j_iconst (v := 1) C dX6_spoilt_85 86 rfl (by decide) ?_
        refine j_goto C dX6_spoilt_86 90 rfl ?_
        rw [pr1_mk (1 : Int32)] at hR
        exact j_lv [0, 1, 2, 3, 4, 5] [(0, .ref (a 0)), (1, .int x1), (2, .int x2), (3, .int x3), (4, .int x4), (5, .int x5)] rfl (J82 _  hR)
set_option maxHeartbeats 4000000 in
set_option maxRecDepth 100000 in
theorem c_X6_spoilt (τ : SX) (a : Nat → Nat) (ss : Nat → Int32) (mhd : Nat → Int32) (mas : Nat → Int32) (mbf : Nat → Int32) (mih : Int32) (mtp : Nat → Int32) (mtn : Int32) (mtk : Int32) (mfr : Int32) (mtt : Int32) (mvl : Int32) (miw : Int32) (mld : Nat → Int32) (mrw : Nat → Int32) (mrn : Int32) (mso : Nat → Int32) (msz : Nat → Int32) (mnu : Nat → Int32) (mhw : Nat → Int32) (mhh : Nat → Int32) (mhm : Nat → Int32) (mbo : Nat → Int32) (mrr : Int32) (mak : Int32) (man : Int32) (maa : Int32) (mip : Int32) (x1 : Int32) (hok : okS ss) (sz : Nat) : McI τ yX6_spoilt wsX6_spoilt rmX6_spoilt .int [.ref (a 0), .int x1] (wM τ a ss mhd mas mbf mih mtp mtn mtk mfr mtt mvl miw mld mrw mrn mso msz mnu mhw mhh mhm mbo mrr mak man maa mip) (fun u : (Nat → Int32) × (Nat → Int32) => (wM τ a u.1 mhd u.2 mbf mih mtp mtn mtk mfr mtt mvl miw mld mrw mrn mso msz mnu mhw mhh mhm mbo mrr mak man maa mip)) (f_X6_spoilt ss mas x1) sz := by
  refine mc_I (cc := cX6_spoilt) (own := RX6) [(0, .ref (a 0)), (1, .int x1)] rfl (by decide) rfl rfl (Nat.le_of_ble_eq_true rfl) (fun κ C hR => ?_)
  have hiX6 : ∀ w ∈ wsX60, w ∈ wsX6_spoilt := fun w h => List.mem_cons_of_mem _ (List.mem_append_right _ h)
  unfold f_X6_spoilt at hR
  refine j_iload_n C dX6_spoilt_0 1 rfl rfl 1 rfl ?_
  refine j_i2l C dX6_spoilt_1 2 rfl ?_
  refine j_lconst (v := 1) C dX6_spoilt_2 3 rfl (by decide) ?_
  refine j_ldc2 C dX6_spoilt_3 6 rfl kX6_spoilt_c211 ?_
  refine j_cs0I (na := 3) C dX6_spoilt_6 9 rfl (c_X6_isIn τ  ((x1 : Int32).toInt64) (1 : Int64) (30 : Int64) ) rfl ggX6_spoilt_X6_isIn rfl rfl rfl kX6_spoilt_iRX6 kX6_spoilt_m57 kX6_spoilt_sX6_isIn qd_X6_isIn rfl ⟨by decide, by decide⟩ ⟨by decide, by decide⟩ rfl (Nat.le_of_ble_eq_true rfl) (fun r1 u1 hX1 hn1 => ?_)
  obtain rfl := (Prod.mk.inj hX1).1
  refine j_if_ne C dX6_spoilt_9 14 rfl 12 rfl (fun c2 => ?_) (fun c2 => ?_)
  · rw [if_neg c2] at hR
    refine j_aload_n C dX6_spoilt_14 15 rfl rfl 0 rfl ?_
    refine j_get C dX6_spoilt_15 18 rfl hiX6 0 rfl rfl 0 (by decide) rfl kX6_spoilt_f7 rfl ?_
    refine j_aload_n C dX6_spoilt_18 19 rfl rfl 0 rfl ?_
    refine j_get C dX6_spoilt_19 22 rfl hiX6 0 rfl rfl 2 (by decide) rfl kX6_spoilt_f16 rfl ?_
    refine j_csWV (na := 2) C dX6_spoilt_22 25 rfl (c_X6_copyRow__sa τ a ss mhd mas mbf mih mtp mtn mtk mfr mtt mvl miw mld mrw mrn mso msz mnu mhw mhh mhm mbo mrr mak man maa mip ) ggX6_spoilt_X6_copyRow rfl rfl rfl kX6_spoilt_iRX6 kX6_spoilt_m138 kX6_spoilt_sX6_copyRow qd_X6_copyRow__sa rfl ⟨by decide, by decide⟩ ⟨by decide, by decide⟩ rfl (Nat.le_of_ble_eq_true rfl) rfl (fun u3 hX3 => ?_)
    obtain ⟨mas_3, rfl⟩ : ∃ z, z = u3 := ⟨_, rfl⟩
    rw [hX3] at hR; rw [pr1_mk mas_3] at hR
    have hoka3 : okS mas_3 := by rw [← hX3]; exact ok_cp_sa (by assumption)
    refine j_aload_n C dX6_spoilt_25 26 rfl rfl 0 rfl ?_
    refine j_iconst (v := 1) C dX6_spoilt_26 27 rfl (by decide) ?_
    refine j_iconst (v := 0) C dX6_spoilt_27 28 rfl (by decide) ?_
    refine j_cv0V (na := 2) C dX6_spoilt_28 31 rfl (c_X6_goes τ a ss mhd mas_3 mbf mih mtp mtn mtk mfr mtt mvl miw mld mrw mrn mso msz mnu mhw mhh mhm mbo mrr mak man maa mip (1 : Int32) (0 : Int32) (by first | assumption | (unfold vp_in; decide) | decide) (by first | assumption | (unfold vp_in; decide) | decide)) gX6_spoilt_X6_goes rfl rfl rfl qd_X6_goes rfl ⟨by decide, by decide⟩ ⟨by decide, by decide⟩ rfl (Nat.le_of_ble_eq_true rfl) rfl 6 0 rfl rfl (fun u4 hX4 => ?_)
    obtain ⟨ss_4, rfl⟩ : ∃ z, z = u4 := ⟨_, rfl⟩
    rw [hX4] at hR; rw [pr1_mk ss_4] at hR
    have hok4 : okS ss_4 := by rw [← hX4]; exact ok_goes (by assumption)
    refine j_aload_n C dX6_spoilt_31 32 rfl rfl 0 rfl ?_
    refine j_get C dX6_spoilt_32 35 rfl hiX6 0 rfl rfl 0 (by decide) rfl kX6_spoilt_f7 rfl ?_
    refine j_iconst (v := 3) C dX6_spoilt_35 36 rfl (by decide) ?_
    refine j_iald C dX6_spoilt_36 37 rfl 1 rfl (by unfold vp_in; decide) 3 rfl ?_
    refine j_istore_n C dX6_spoilt_37 38 rfl rfl (by decide) [(2, .int (ss_4 3)), (0, .ref (a 0)), (1, .int x1)] rfl ?_
    refine j_aload_n C dX6_spoilt_38 39 rfl rfl 1 rfl ?_
    refine j_get C dX6_spoilt_39 42 rfl hiX6 0 rfl rfl 2 (by decide) rfl kX6_spoilt_f16 rfl ?_
    refine j_iconst (v := 2) C dX6_spoilt_42 43 rfl (by decide) ?_
    refine j_iald C dX6_spoilt_43 44 rfl 3 rfl (by unfold vp_in; decide) 2 rfl ?_
    refine j_istore_n C dX6_spoilt_44 45 rfl rfl (by decide) [(3, .int (mas_3 2)), (2, .int (ss_4 3)), (0, .ref (a 0)), (1, .int x1)] rfl ?_
    refine j_iconst (v := 0) C dX6_spoilt_45 46 rfl (by decide) ?_
    refine j_istore C dX6_spoilt_46 48 rfl (by decide) [(4, .int 0), (3, .int (mas_3 2)), (2, .int (ss_4 3)), (0, .ref (a 0)), (1, .int x1)] rfl ?_
    refine j_iconst (v := 0) C dX6_spoilt_48 49 rfl (by decide) ?_
    refine j_istore C dX6_spoilt_49 51 rfl (by decide) [(5, .int 0), (4, .int 0), (3, .int (mas_3 2)), (2, .int (ss_4 3)), (0, .ref (a 0)), (1, .int x1)] rfl ?_
    refine j_lv [4, 5, 3, 2, 1, 0] [(0, .ref (a 0)), (1, .int x1), (2, .int (ss_4 3)), (3, .int (mas_3 2)), (4, .int 0), (5, .int 0)] rfl (L_X6_spoilt_51 C a mhd mas_3 mbf mih mtp mtn mtk mfr mtt mvl miw mld mrw mrn mso msz mnu mhw mhh mhm mbo mrr mak man maa mip x1 (ss_4 3) (m_30 (x := x1) c2) (by assumption) (fun (o : Int32 × Int32 × Int32 × (Nat → Int32)) => Rt τ κ cX6_spoilt .int (fun u : (Nat → Int32) × (Nat → Int32) => (wM τ a u.1 mhd u.2 mbf mih mtp mtn mtk mfr mtt mvl miw mld mrw mrn mso msz mnu mhw mhh mhm mbo mrr mak man maa mip)) (pr4 o (fun x3_5 x4_5 x5_5 ss_5 => pr1 (f_X6_copyRow__as ss_5 mas_3) (fun ss_10 => (x4_5, ss_10, mas_3))))) (fun x3_5 x4_5 x5_5 ss_5  hR => ?_) 300 (mas_3 2) (0 : Int32) (0 : Int32) ss_4 (by decide) (by decide) (by decide) hR)
    rw [pr4_mk x3_5 x4_5 x5_5 ss_5] at hR
    refine j_aload_n C dX6_spoilt_106 107 rfl rfl 0 rfl ?_
    refine j_get C dX6_spoilt_107 110 rfl hiX6 0 rfl rfl 2 (by decide) rfl kX6_spoilt_f16 rfl ?_
    refine j_aload_n C dX6_spoilt_110 111 rfl rfl 0 rfl ?_
    refine j_get C dX6_spoilt_111 114 rfl hiX6 0 rfl rfl 0 (by decide) rfl kX6_spoilt_f7 rfl ?_
    refine j_csWV (na := 2) C dX6_spoilt_114 117 rfl (c_X6_copyRow__as τ a ss_5 mhd mas_3 mbf mih mtp mtn mtk mfr mtt mvl miw mld mrw mrn mso msz mnu mhw mhh mhm mbo mrr mak man maa mip ) ggX6_spoilt_X6_copyRow rfl rfl rfl kX6_spoilt_iRX6 kX6_spoilt_m138 kX6_spoilt_sX6_copyRow qd_X6_copyRow__as rfl ⟨by decide, by decide⟩ ⟨by decide, by decide⟩ rfl (Nat.le_of_ble_eq_true rfl) rfl (fun u10 hX10 => ?_)
    obtain ⟨ss_10, rfl⟩ : ∃ z, z = u10 := ⟨_, rfl⟩
    rw [hX10] at hR; rw [pr1_mk ss_10] at hR
    have hok10 : okS ss_10 := by rw [← hX10]; exact ok_cp_as (by assumption)
    refine j_iload C dX6_spoilt_117 119 rfl 4 rfl ?_
    exact Rt.ret (hR) rfl dX6_spoilt_119
  · rw [if_pos c2] at hR
    refine j_iconst (v := (-1)) C dX6_spoilt_12 13 rfl (by decide) ?_
    exact Rt.ret (hR) rfl dX6_spoilt_13

