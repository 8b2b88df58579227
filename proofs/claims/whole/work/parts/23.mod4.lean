theorem lengthBy_keep {ss mas s2 m2 : Nat → Int32} {n a r : Int32} (h : f_X6_lengthBy ss mas n a = (r, s2, m2)) : ∀ k, k < 50 → s2 k = ss k := by
  intro k hk
  unfold f_X6_lengthBy at h
  simp only [pr1, pr3, Prod.mk.injEq] at h
  rw [← h.2.1, cpas _ _ k hk, cpsa _ _ k hk]
theorem ok_lengthBy {ss mas s2 m2 : Nat → Int32} {n a r : Int32} (o : okS ss) (h : f_X6_lengthBy ss mas n a = (r, s2, m2)) : okS s2 := ok_of_eq o (lengthBy_keep h)
theorem okS_w {ss : Nat → Int32} {o v w : Int32} (h : okS ss) (ho : vp_in o 8) (hw : 0 ≤ w.toInt ∧ w.toInt ≤ 4) (h1 : ¬ w.toInt = 1) : okS (upd ss (((10 : Int32) + ((5 : Int32) * o)) + w).toNatClampNeg v) := by
  rw [vp_in_iff] at ho
  rw [its_ix ho.1 (by omega) hw.1 hw.2]
  have e : (w.toNatClampNeg : Int) = w.toInt := by show ((w.toInt.toNat : Nat) : Int) = w.toInt; omega
  exact okS_upd h (by omega) (fun k _ => by omega)
theorem okS_b {ss : Nat → Int32} {o v : Int32} (h : okS ss) (ho : vp_in o 8) (hv : ¬ v = 0) : okS (upd ss (((10 : Int32) + ((5 : Int32) * o)) + 1).toNatClampNeg v) := by
  rw [vp_in_iff] at ho
  rw [its_ix ho.1 (by omega) (by decide) (by decide), show (1 : Int32).toNatClampNeg = 1 from rfl]
  have e0 : upd ss (10 + 5 * o.toNatClampNeg + 1) v 0 = ss 0 := pk_un (by omega)
  refine ⟨by rw [e0]; exact h.1, by rw [e0]; exact h.2.1, fun k hk => ?_⟩
  rw [e0] at hk
  by_cases ek : 10 + 5 * k + 1 = 10 + 5 * o.toNatClampNeg + 1
  · rw [ek, pk_us]; exact hv
  · rw [pk_un ek]; exact h.2.2 k hk
theorem nz1 {x : Int32} (h : 1 ≤ x.toInt) : ¬ x = 0 := fun e => by rw [e] at h; exact absurd h (by decide)
theorem m_long {x : Int32} (c : ¬ f_X6_isLong x = 0) : x.toInt ≤ 60 := (in6 c).2
theorem m_short {x : Int32} (c : ¬ f_X6_isShort x = 0) : x.toInt ≤ 60 := by
  have h := (in6 c).2
  rw [show (30 : Int64).toInt = 30 from rfl] at h
  omega
theorem m_30 {x : Int32} {l : Int64} (c : ¬ f_X6_isIn x.toInt64 l 30 = 0) : x.toInt ≤ 30 := (in6 c).2
theorem m_10 {x : Int32} {l : Int64} (c : ¬ f_X6_isIn x.toInt64 l 10 = 0) : x.toInt ≤ 10 := (in6 c).2
theorem ok_second {ss s2 : Nat → Int32} {r : Int32} (h : okS ss) (e : f_X6_second ss = (r, s2)) : okS s2 := by
  unfold f_X6_second at e
  by_cases c : ss 0 ≤ 0
  · rw [if_pos c] at e
    simp only [pr1, pr2, Prod.mk.injEq] at e
    rw [← e.2]; exact ok_goesBy h
  · rw [if_neg c] at e
    simp only [pr1, pr2, Prod.mk.injEq] at e
    rw [← e.2]
    exact ok_goesBy (ok_drawn (ok_drawn h rfl) rfl)

-- X6_kept
def l_X6_kept_13  : Nat → Int32 → (Nat → Int32) → Int32 × (Nat → Int32)
  | 0, x1, ss => (x1, ss)
  | N + 1, x1, ss => if (60 < x1) then (x1, ss) else (if ((ss 5) = 0) then (pr1 (f_X6_goes ss (1 : Int32) (0 : Int32)) (fun ss_5 => l_X6_kept_13 N (x1 + 1) ss_5)) else (x1, ss))
def f_X6_kept (ss : Nat → Int32) (mas : Nat → Int32) : Int32 × (Nat → Int32) × (Nat → Int32) := pr1 (f_X6_copyRow__sa ss mas) (fun mas_1 => pr2 (l_X6_kept_13 300 (0 : Int32) ss) (fun x1_2 ss_2 => pr1 (f_X6_copyRow__as ss_2 mas_1) (fun ss_6 => if (60 < x1_2) then (((-3) : Int32), ss_6, mas_1) else (x1_2, ss_6, mas_1))))
theorem kX6_kept_f7 : Cond.fieldLink RX6 7 "TwoMinutesModel" "s" "[I" ∈ wsX6_kept := by decide +kernel
theorem kX6_kept_f16 : Cond.fieldLink RX6 16 "TwoMinutesModel" "aside" "[I" ∈ wsX6_kept := by decide +kernel
theorem kX6_kept_iRX6 : Cond.initialized yX6_copyRow.cls ∈ wsX6_kept := by decide +kernel
theorem kX6_kept_sX6_copyRow : Cond.static yX6_copyRow ∈ wsX6_kept := by decide +kernel
theorem kX6_kept_m138 : Cond.methodLink RX6 138 yX6_copyRow ∈ wsX6_kept := by decide +kernel
theorem qd_X6_kept : yX6_kept.cls = RX6 ∧ yX6_kept.cls ≠ "java/lang/invoke/MethodHandle" ∧ yX6_kept.cls ≠ "java/lang/invoke/VarHandle" ∧ (parseMethodDescriptor yX6_kept.desc).map (fun d => d.parameters.length) = some 0 := by decide +kernel
abbrev rmX6_kept : Room := { frames := 5, cells := 0, slots := 0, locals := 113 }
set_option maxHeartbeats 4000000 in
set_option maxRecDepth 100000 in
theorem L_X6_kept_13 {τ : SX} {κ : KX} (C : Cx τ κ cX6_kept RX6 wsX6_kept rmX6_kept 2) (a : Nat → Nat) (mhd : Nat → Int32) (mas : Nat → Int32) (mbf : Nat → Int32) (mih : Int32) (mtp : Nat → Int32) (mtn : Int32) (mtk : Int32) (mfr : Int32) (mtt : Int32) (mvl : Int32) (miw : Int32) (mld : Nat → Int32) (mrw : Nat → Int32) (mrn : Int32) (mso : Nat → Int32) (msz : Nat → Int32) (mnu : Nat → Int32) (mhw : Nat → Int32) (mhh : Nat → Int32) (mhm : Nat → Int32) (mbo : Nat → Int32) (mrr : Int32) (mak : Int32) (man : Int32) (maa : Int32) (mip : Int32) (Φ : Int32 × (Nat → Int32) → Prop) (hE : ∀ (x1 : Int32) (ss : Nat → Int32), Φ (x1, ss) → J τ κ 0 0 (wM τ a ss mhd mas mbf mih mtp mtn mtk mfr mtt mvl miw mld mrw mrn mso msz mnu mhw mhh mhm mbo mrr mak man maa mip) [(0, .ref (a 0)), (1, .int x1)] 40 []) : ∀ (N : Nat) (x1 : Int32) (ss : Nat → Int32), ((61 : Int) - x1.toInt).toNat < N → (0 ≤ x1.toInt) → (x1.toInt ≤ 61) → (okS ss) → Φ (l_X6_kept_13 N x1 ss) → J τ κ 0 0 (wM τ a ss mhd mas mbf mih mtp mtn mtk mfr mtt mvl miw mld mrw mrn mso msz mnu mhw mhh mhm mbo mrr mak man maa mip) [(0, .ref (a 0)), (1, .int x1)] 13 [] := by
  have hiX6 : ∀ w ∈ wsX60, w ∈ wsX6_kept := fun w h => List.mem_cons_of_mem _ (List.mem_append_right _ h)
  intro N
  induction N with
  | zero => intro x1 ss hm; exact absurd hm (Nat.not_lt_zero _)
  | succ N ih =>
    intro x1 ss hm h0 h1 hok hR
    rw [l_X6_kept_13] at hR
    refine j_iload_n C dX6_kept_13 14 rfl rfl 1 rfl ?_
    refine j_bipush (v := 60) C dX6_kept_14 16 rfl (by decide) ?_
    refine j_icmp_gt C dX6_kept_16 40 rfl 19 rfl (fun c3 => ?_) (fun c3 => ?_)
    · rw [if_pos c3] at hR
      exact j_lv [0, 1] [(0, .ref (a 0)), (1, .int x1)] rfl (hE _ _  hR)
    · rw [if_neg c3] at hR
      have hs := cnt_stepL (B := 61) h0 (by decide) (by decide) c3
      refine j_aload_n C dX6_kept_19 20 rfl rfl 0 rfl ?_
      refine j_get C dX6_kept_20 23 rfl hiX6 0 rfl rfl 0 (by decide) rfl kX6_kept_f7 rfl ?_
      refine j_iconst (v := 5) C dX6_kept_23 24 rfl (by decide) ?_
      refine j_iald C dX6_kept_24 25 rfl 1 rfl (by unfold vp_in; decide) 5 rfl ?_
      refine j_if_ne C dX6_kept_25 40 rfl 28 rfl (fun c4 => ?_) (fun c4 => ?_)
      · rw [if_neg c4] at hR
        exact j_lv [0, 1] [(0, .ref (a 0)), (1, .int x1)] rfl (hE _ _  hR)
      · rw [if_pos c4] at hR
        refine j_aload_n C dX6_kept_28 29 rfl rfl 0 rfl ?_
        refine j_iconst (v := 1) C dX6_kept_29 30 rfl (by decide) ?_
        refine j_iconst (v := 0) C dX6_kept_30 31 rfl (by decide) ?_
        refine j_cv0V (na := 2) C dX6_kept_31 34 rfl (c_X6_goes τ a ss mhd mas mbf mih mtp mtn mtk mfr mtt mvl miw mld mrw mrn mso msz mnu mhw mhh mhm mbo mrr mak man maa mip (1 : Int32) (0 : Int32) (by first | assumption | (unfold vp_in; decide) | decide) (by first | assumption | (unfold vp_in; decide) | decide)) gX6_kept_X6_goes rfl rfl rfl qd_X6_goes rfl ⟨by decide, by decide⟩ ⟨by decide, by decide⟩ rfl (Nat.le_of_ble_eq_true rfl) rfl 6 0 rfl rfl (fun u5 hX5 => ?_)
        obtain ⟨ss_5, rfl⟩ : ∃ z, z = u5 := ⟨_, rfl⟩
        rw [hX5] at hR; rw [pr1_mk ss_5] at hR
        have hok5 : okS ss_5 := by rw [← hX5]; exact ok_goes (by assumption)
        refine j_iinc (v := (x1 + 1)) C dX6_kept_34 37 rfl 1 rfl rfl (by decide) [(1, .int (x1 + 1)), (0, .ref (a 0))] rfl ?_
        refine j_goto C dX6_kept_37 13 rfl ?_
        exact j_lv [1, 0] [(0, .ref (a 0)), (1, .int (x1 + 1))] rfl (ih _ _ (by have := hs.2.2.1; omega) hs.1 hs.2.1 (by assumption) hR)
set_option maxHeartbeats 4000000 in
set_option maxRecDepth 100000 in
theorem c_X6_kept (τ : SX) (a : Nat → Nat) (ss : Nat → Int32) (mhd : Nat → Int32) (mas : Nat → Int32) (mbf : Nat → Int32) (mih : Int32) (mtp : Nat → Int32) (mtn : Int32) (mtk : Int32) (mfr : Int32) (mtt : Int32) (mvl : Int32) (miw : Int32) (mld : Nat → Int32) (mrw : Nat → Int32) (mrn : Int32) (mso : Nat → Int32) (msz : Nat → Int32) (mnu : Nat → Int32) (mhw : Nat → Int32) (mhh : Nat → Int32) (mhm : Nat → Int32) (mbo : Nat → Int32) (mrr : Int32) (mak : Int32) (man : Int32) (maa : Int32) (mip : Int32) (hok : okS ss) (sz : Nat) : McI τ yX6_kept wsX6_kept rmX6_kept .int [.ref (a 0)] (wM τ a ss mhd mas mbf mih mtp mtn mtk mfr mtt mvl miw mld mrw mrn mso msz mnu mhw mhh mhm mbo mrr mak man maa mip) (fun u : (Nat → Int32) × (Nat → Int32) => (wM τ a u.1 mhd u.2 mbf mih mtp mtn mtk mfr mtt mvl miw mld mrw mrn mso msz mnu mhw mhh mhm mbo mrr mak man maa mip)) (f_X6_kept ss mas) sz := by
  refine mc_I (cc := cX6_kept) (own := RX6) [(0, .ref (a 0))] rfl (by decide) rfl rfl (Nat.le_of_ble_eq_true rfl) (fun κ C hR => ?_)
  have hiX6 : ∀ w ∈ wsX60, w ∈ wsX6_kept := fun w h => List.mem_cons_of_mem _ (List.mem_append_right _ h)
  unfold f_X6_kept at hR
  refine j_aload_n C dX6_kept_0 1 rfl rfl 0 rfl ?_
  refine j_get C dX6_kept_1 4 rfl hiX6 0 rfl rfl 0 (by decide) rfl kX6_kept_f7 rfl ?_
  refine j_aload_n C dX6_kept_4 5 rfl rfl 0 rfl ?_
  refine j_get C dX6_kept_5 8 rfl hiX6 0 rfl rfl 2 (by decide) rfl kX6_kept_f16 rfl ?_
  refine j_csWV (na := 2) C dX6_kept_8 11 rfl (c_X6_copyRow__sa τ a ss mhd mas mbf mih mtp mtn mtk mfr mtt mvl miw mld mrw mrn mso msz mnu mhw mhh mhm mbo mrr mak man maa mip ) ggX6_kept_X6_copyRow rfl rfl rfl kX6_kept_iRX6 kX6_kept_m138 kX6_kept_sX6_copyRow qd_X6_copyRow__sa rfl ⟨by decide, by decide⟩ ⟨by decide, by decide⟩ rfl (Nat.le_of_ble_eq_true rfl) rfl (fun u1 hX1 => ?_)
  obtain ⟨mas_1, rfl⟩ : ∃ z, z = u1 := ⟨_, rfl⟩
  rw [hX1] at hR; rw [pr1_mk mas_1] at hR
  have hoka1 : okS mas_1 := by rw [← hX1]; exact ok_cp_sa (by assumption)
  refine j_iconst (v := 0) C dX6_kept_11 12 rfl (by decide) ?_
  refine j_istore_n C dX6_kept_12 13 rfl rfl (by decide) [(1, .int 0), (0, .ref (a 0))] rfl ?_
  refine j_lv [1, 0] [(0, .ref (a 0)), (1, .int 0)] rfl (L_X6_kept_13 C a mhd mas_1 mbf mih mtp mtn mtk mfr mtt mvl miw mld mrw mrn mso msz mnu mhw mhh mhm mbo mrr mak man maa mip   (fun (o : Int32 × (Nat → Int32)) => Rt τ κ cX6_kept .int (fun u : (Nat → Int32) × (Nat → Int32) => (wM τ a u.1 mhd u.2 mbf mih mtp mtn mtk mfr mtt mvl miw mld mrw mrn mso msz mnu mhw mhh mhm mbo mrr mak man maa mip)) (pr2 o (fun x1_2 ss_2 => pr1 (f_X6_copyRow__as ss_2 mas_1) (fun ss_6 => if (60 < x1_2) then (((-3) : Int32), ss_6, mas_1) else (x1_2, ss_6, mas_1))))) (fun x1_2 ss_2  hR => ?_) 300 (0 : Int32) ss (by decide) (by decide) (by decide) (by assumption) hR)
  rw [pr2_mk x1_2 ss_2] at hR
  refine j_aload_n C dX6_kept_40 41 rfl rfl 0 rfl ?_
  refine j_get C dX6_kept_41 44 rfl hiX6 0 rfl rfl 2 (by decide) rfl kX6_kept_f16 rfl ?_
  refine j_aload_n C dX6_kept_44 45 rfl rfl 0 rfl ?_
  refine j_get C dX6_kept_45 48 rfl hiX6 0 rfl rfl 0 (by decide) rfl kX6_kept_f7 rfl ?_
  refine j_csWV (na := 2) C dX6_kept_48 51 rfl (c_X6_copyRow__as τ a ss_2 mhd mas_1 mbf mih mtp mtn mtk mfr mtt mvl miw mld mrw mrn mso msz mnu mhw mhh mhm mbo mrr mak man maa mip ) ggX6_kept_X6_copyRow rfl rfl rfl kX6_kept_iRX6 kX6_kept_m138 kX6_kept_sX6_copyRow qd_X6_copyRow__as rfl ⟨by decide, by decide⟩ ⟨by decide, by decide⟩ rfl (Nat.le_of_ble_eq_true rfl) rfl (fun u6 hX6 => ?_)
  obtain ⟨ss_6, rfl⟩ : ∃ z, z = u6 := ⟨_, rfl⟩
  rw [hX6] at hR; rw [pr1_mk ss_6] at hR
  have hok6 : okS ss_6 := by rw [← hX6]; exact ok_cp_as (by assumption)
  refine j_iload_n C dX6_kept_51 52 rfl rfl 1 rfl ?_
  refine j_bipush (v := 60) C dX6_kept_52 54 rfl (by decide) ?_
  refine j_icmp_gt C dX6_kept_54 61 rfl 57 rfl (fun c7 => ?_) (fun c7 => ?_)
  · rw [if_pos c7] at hR
    refine j_bipush (v := (-3)) C dX6_kept_61 63 rfl (by decide) ?_
    exact Rt.ret (hR) rfl dX6_kept_63
  · rw [if_neg c7] at hR
    refine j_iload_n C dX6_kept_57 58 rfl rfl 1 rfl ?_
    refine j_goto C dX6_kept_58 63 rfl ?_
    exact Rt.ret (hR) rfl dX6_kept_63

-- X6_spoilt
def l_X6_spoilt_51 (mas : Nat → Int32) (x1 : Int32) (x2 : Int32) : Nat → Int32 → Int32 → Int32 → (Nat → Int32) → Int32 × Int32 × Int32 × (Nat → Int32)
  | 0, x3, x4, x5, ss => (x3, x4, x5, ss)
  | N + 1, x3, x4, x5, ss => if (x1 ≤ x5) then (x3, x4, x5, ss) else (pr1 (f_X6_copyRow__as ss mas) (fun ss_7 => pr2 (f_X6_second (upd ss_7 2 x3)) (fun r8 ss_8 => pr1 (if (x2 ≤ r8) then (0 : Int32) else (1 : Int32)) (fun j82_0 => l_X6_spoilt_51 mas x1 x2 N (ss_8 2) (x4 + j82_0) (x5 + 1) ss_8))))
def f_X6_spoilt (ss : Nat → Int32) (mas : Nat → Int32) (x1 : Int32) : Int32 × (Nat → Int32) × (Nat → Int32) := if ((f_X6_isIn ((x1 : Int32).toInt64) (1 : Int64) (30 : Int64)) = 0) then (((-1) : Int32), ss, mas) else (pr1 (f_X6_copyRow__sa ss mas) (fun mas_3 => pr1 (f_X6_goes ss (1 : Int32) (0 : Int32)) (fun ss_4 => pr4 (l_X6_spoilt_51 mas_3 x1 (ss_4 3) 300 (mas_3 2) (0 : Int32) (0 : Int32) ss_4) (fun x3_5 x4_5 x5_5 ss_5 => pr1 (f_X6_copyRow__as ss_5 mas_3) (fun ss_10 => (x4_5, ss_10, mas_3))))))
theorem kX6_spoilt_c211 : Cond.constantLong RX6 211 30 ∈ wsX6_spoilt := by decide +kernel
theorem kX6_spoilt_iRX6 : Cond.initialized yX6_copyRow.cls ∈ wsX6_spoilt := by decide +kernel
theorem kX6_spoilt_sX6_isIn : Cond.static yX6_isIn ∈ wsX6_spoilt := by decide +kernel
theorem kX6_spoilt_m57 : Cond.methodLink RX6 57 yX6_isIn ∈ wsX6_spoilt := by decide +kernel
theorem kX6_spoilt_f7 : Cond.fieldLink RX6 7 "TwoMinutesModel" "s" "[I" ∈ wsX6_spoilt := by decide +kernel
theorem kX6_spoilt_f16 : Cond.fieldLink RX6 16 "TwoMinutesModel" "aside" "[I" ∈ wsX6_spoilt := by decide +kernel
theorem kX6_spoilt_sX6_copyRow : Cond.static yX6_copyRow ∈ wsX6_spoilt := by decide +kernel
theorem kX6_spoilt_m138 : Cond.methodLink RX6 138 yX6_copyRow ∈ wsX6_spoilt := by decide +kernel
theorem qd_X6_spoilt : yX6_spoilt.cls = RX6 ∧ yX6_spoilt.cls ≠ "java/lang/invoke/MethodHandle" ∧ yX6_spoilt.cls ≠ "java/lang/invoke/VarHandle" ∧ (parseMethodDescriptor yX6_spoilt.desc).map (fun d => d.parameters.length) = some 1 := by decide +kernel
abbrev rmX6_spoilt : Room := { frames := 5, cells := 0, slots := 0, locals := 113 }
set_option maxHeartbeats 4000000 in
set_option maxRecDepth 100000 in
theorem L_X6_spoilt_51 {τ : SX} {κ : KX} (C : Cx τ κ cX6_spoilt RX6 wsX6_spoilt rmX6_spoilt 6) (a : Nat → Nat) (mhd : Nat → Int32) (mas : Nat → Int32) (mbf : Nat → Int32) (mih : Int32) (mtp : Nat → Int32) (mtn : Int32) (mtk : Int32) (mfr : Int32) (mtt : Int32) (mvl : Int32) (miw : Int32) (mld : Nat → Int32) (mrw : Nat → Int32) (mrn : Int32) (mso : Nat → Int32) (msz : Nat → Int32) (mnu : Nat → Int32) (mhw : Nat → Int32) (mhh : Nat → Int32) (mhm : Nat → Int32) (mbo : Nat → Int32) (mrr : Int32) (mak : Int32) (man : Int32) (maa : Int32) (mip : Int32) (x1 : Int32) (x2 : Int32) (hx : x1.toInt ≤ 30) (hoka : okS mas) (Φ : Int32 × Int32 × Int32 × (Nat → Int32) → Prop) (hE : ∀ (x3 : Int32) (x4 : Int32) (x5 : Int32) (ss : Nat → Int32), Φ (x3, x4, x5, ss) → J τ κ 0 0 (wM τ a ss mhd mas mbf mih mtp mtn mtk mfr mtt mvl miw mld mrw mrn mso msz mnu mhw mhh mhm mbo mrr mak man maa mip) [(0, .ref (a 0)), (1, .int x1), (2, .int x2), (3, .int x3), (4, .int x4), (5, .int x5)] 106 []) : ∀ (N : Nat) (x3 : Int32) (x4 : Int32) (x5 : Int32) (ss : Nat → Int32), ((30 : Int) - x5.toInt).toNat < N → (0 ≤ x5.toInt) → (x5.toInt ≤ 30) → Φ (l_X6_spoilt_51 mas x1 x2 N x3 x4 x5 ss) → J τ κ 0 0 (wM τ a ss mhd mas mbf mih mtp mtn mtk mfr mtt mvl miw mld mrw mrn mso msz mnu mhw mhh mhm mbo mrr mak man maa mip) [(0, .ref (a 0)), (1, .int x1), (2, .int x2), (3, .int x3), (4, .int x4), (5, .int x5)] 51 [] := by
  have hiX6 : ∀ w ∈ wsX60, w ∈ wsX6_spoilt := fun w h => List.mem_cons_of_mem _ (List.mem_append_right _ h)
  intro N
  induction N with
  | zero => intro x3 x4 x5 ss hm; exact absurd hm (Nat.not_lt_zero _)
  | succ N ih =>
    intro x3 x4 x5 ss hm h0 h1 hR
    rw [l_X6_spoilt_51] at hR
    refine j_iload C dX6_spoilt_51 53 rfl 5 rfl ?_
    refine j_iload_n C dX6_spoilt_53 54 rfl rfl 1 rfl ?_
    refine j_icmp_ge C dX6_spoilt_54 106 rfl 57 rfl (fun c6 => ?_) (fun c6 => ?_)
    · rw [if_pos c6] at hR
      exact j_lv [0, 1, 2, 3, 4, 5] [(0, .ref (a 0)), (1, .int x1), (2, .int x2), (3, .int x3), (4, .int x4), (5, .int x5)] rfl (hE _ _ _ _  hR)
    · rw [if_neg c6] at hR
      have hs := cnt_step (B := 30) h0 (hx) (by decide) c6
      refine j_aload_n C dX6_spoilt_57 58 rfl rfl 0 rfl ?_
      refine j_get C dX6_spoilt_58 61 rfl hiX6 0 rfl rfl 2 (by decide) rfl kX6_spoilt_f16 rfl ?_
      refine j_aload_n C dX6_spoilt_61 62 rfl rfl 0 rfl ?_
      refine j_get C dX6_spoilt_62 65 rfl hiX6 0 rfl rfl 0 (by decide) rfl kX6_spoilt_f7 rfl ?_
      refine j_csWV (na := 2) C dX6_spoilt_65 68 rfl (c_X6_copyRow__as τ a ss mhd mas mbf mih mtp mtn mtk mfr mtt mvl miw mld mrw mrn mso msz mnu mhw mhh mhm mbo mrr mak man maa mip ) ggX6_spoilt_X6_copyRow rfl rfl rfl kX6_spoilt_iRX6 kX6_spoilt_m138 kX6_spoilt_sX6_copyRow qd_X6_copyRow__as rfl ⟨by decide, by decide⟩ ⟨by decide, by decide⟩ rfl (Nat.le_of_ble_eq_true rfl) rfl (fun u7 hX7 => ?_)
      obtain ⟨ss_7, rfl⟩ : ∃ z, z = u7 := ⟨_, rfl⟩
      rw [hX7] at hR; rw [pr1_mk ss_7] at hR
      have hok7 : okS ss_7 := by rw [← hX7]; exact ok_cp_as (by assumption)
      refine j_aload_n C dX6_spoilt_68 69 rfl rfl 0 rfl ?_
      refine j_get C dX6_spoilt_69 72 rfl hiX6 0 rfl rfl 0 (by decide) rfl kX6_spoilt_f7 rfl ?_
      refine j_iconst (v := 2) C dX6_spoilt_72 73 rfl (by decide) ?_
      refine j_iload_n C dX6_spoilt_73 74 rfl rfl 3 rfl ?_
      refine j_iast C dX6_spoilt_74 75 rfl 1 rfl (by unfold vp_in; decide) 2 rfl (wM τ a (upd ss_7 2 x3) mhd mas mbf mih mtp mtn mtk mfr mtt mvl miw mld mrw mrn mso msz mnu mhw mhh mhm mbo mrr mak man maa mip) rfl ?_
      refine j_iload C dX6_spoilt_75 77 rfl 4 rfl ?_
      refine j_aload_n C dX6_spoilt_77 78 rfl rfl 0 rfl ?_
      refine j_cv0I (na := 0) C dX6_spoilt_78 81 rfl (c_X6_second τ a (upd ss_7 2 x3) mhd mas mbf mih mtp mtn mtk mfr mtt mvl miw mld mrw mrn mso msz mnu mhw mhh mhm mbo mrr mak man maa mip (okS_upd (by assumption) (by decide) (fun k _ => by omega))) gX6_spoilt_X6_second rfl rfl rfl qd_X6_second rfl ⟨by decide, by decide⟩ ⟨by decide, by decide⟩ rfl (Nat.le_of_ble_eq_true rfl) rfl 6 0 rfl rfl (fun r8 u8 hX8 hn8 => ?_)
      obtain ⟨ss_8, rfl⟩ : ∃ z, z = u8 := ⟨_, rfl⟩
      rw [hX8] at hR; rw [pr2_mk r8 ss_8] at hR
      refine j_iload_n C dX6_spoilt_81 82 rfl rfl 2 rfl ?_
      have J82 : ∀ (j82_0 : Int32), Φ (l_X6_spoilt_51 mas x1 x2 N (ss_8 2) (x4 + j82_0) (x5 + 1) ss_8) → J τ κ 0 0 (wM τ a ss_8 mhd mas mbf mih mtp mtn mtk mfr mtt mvl miw mld mrw mrn mso msz mnu mhw mhh mhm mbo mrr mak man maa mip) [(0, .ref (a 0)), (1, .int x1), (2, .int x2), (3, .int x3), (4, .int x4), (5, .int x5)] 90 [.int j82_0, .int x4] := by
        intro j82_0  hR
        refine j_iadd C dX6_spoilt_90 91 rfl ?_
        refine j_istore C dX6_spoilt_91 93 rfl (by decide) [(4, .int (x4 + j82_0)), (0, .ref (a 0)), (1, .int x1), (2, .int x2), (3, .int x3), (5, .int x5)] rfl ?_
        refine j_aload_n C dX6_spoilt_93 94 rfl rfl 1 rfl ?_
        refine j_get C dX6_spoilt_94 97 rfl hiX6 0 rfl rfl 0 (by decide) rfl kX6_spoilt_f7 rfl ?_
        refine j_iconst (v := 2) C dX6_spoilt_97 98 rfl (by decide) ?_
        refine j_iald C dX6_spoilt_98 99 rfl 1 rfl (by unfold vp_in; decide) 2 rfl ?_
        refine j_istore_n C dX6_spoilt_99 100 rfl rfl (by decide) [(3, .int (ss_8 2)), (4, .int (x4 + j82_0)), (0, .ref (a 0)), (1, .int x1), (2, .int x2), (5, .int x5)] rfl ?_
        refine j_iinc (v := (x5 + 1)) C dX6_spoilt_100 103 rfl 5 rfl rfl (by decide) [(5, .int (x5 + 1)), (3, .int (ss_8 2)), (4, .int (x4 + j82_0)), (0, .ref (a 0)), (1, .int x1), (2, .int x2)] rfl ?_
        refine j_goto C dX6_spoilt_103 51 rfl ?_
        exact j_lv [3, 4, 5, 1, 2, 0] [(0, .ref (a 0)), (1, .int x1), (2, .int x2), (3, .int (ss_8 2)), (4, .int (x4 + j82_0)), (5, .int (x5 + 1))] rfl (ih _ _ _ _ (by have := hs.2.2.1; omega) hs.1 hs.2.1 hR)
      refine j_icmp_ge C dX6_spoilt_82 89 rfl 85 rfl (fun c9 => ?_) (fun c9 => ?_)
      · rw [if_pos c9] at hR
        refine j_iconst (v := 0) C dX6_spoilt_89 90 rfl (by decide) ?_
        rw [pr1_mk (0 : Int32)] at hR
        exact j_lv [0, 1, 2, 3, 4, 5] [(0, .ref (a 0)), (1, .int x1), (2, .int x2), (3, .int x3), (4, .int x4), (5, .int x5)] rfl (J82 _  hR)
      · rw [if_neg c9] at hR
        refine j_iconst (v := 1) C dX6_spoilt_85 86 rfl (by decide) ?_
        refine j_goto C dX6_spoilt_86 90 rfl ?_
        rw [pr1_mk (1 : Int32)] at hR
        exact j_lv [0, 1, 2, 3, 4, 5] [(0, .ref (a 0)), (1, .int x1), (2, .int x2), (3, .int x3), (4, .int x4), (5, .int x5)] rfl (J82 _  hR)
set_option maxHeartbeats 4000000 in
set_option maxRecDepth 100000 in
theorem c_X6_spoilt (τ : SX) (a : Nat → Nat) (ss : Nat → Int32) (mhd : Nat → Int32) (mas : Nat → Int32) (mbf : Nat → Int32) (mih : Int32) (mtp : Nat → Int32) (mtn : Int32) (mtk : Int32) (mfr : Int32) (mtt : Int32) (mvl : Int32) (miw : Int32) (mld : Nat → Int32) (mrw : Nat → Int32) (mrn : Int32) (mso : Nat → Int32) (msz : Nat → Int32) (mnu : Nat → Int32) (mhw : Nat → Int32) (mhh : Nat → Int32) (mhm : Nat → Int32) (mbo : Nat → Int32) (mrr : Int32) (mak : Int32) (man : Int32) (maa : Int32) (mip : Int32) (x1 : Int32) (hok : okS ss) (sz : Nat) : McI τ yX6_spoilt wsX6_spoilt rmX6_spoilt .int [.ref (a 0), .int x1] (wM τ a ss mhd mas mbf mih mtp mtn mtk mfr mtt mvl miw mld mrw mrn mso msz mnu mhw mhh mhm mbo mrr mak man maa mip) (fun u : (Nat → Int32) × (Nat → Int32) => (wM τ a u.1 mhd u.2 mbf mih mtp mtn mtk mfr mtt mvl miw mld mrw mrn mso msz mnu mhw mhh mhm mbo mrr mak man maa mip)) (f_X6_spoilt ss mas x1) sz := by
  refine mc_I (cc := cX6_spoilt) (own := RX6) [(0, .ref (a 0)), (1, .int x1)] rfl (by decide) rfl rfl (Nat.le_of_ble_eq_true rfl) (fun κ C hR => ?_)
  have hiX6 : ∀ w ∈ wsX60, w ∈ wsX6_spoilt := fun w h => List.mem_cons_of_mem _ (List.mem_append_right _ h)
  unfold f_X6_spoilt at hR
  refine j_iload_n C dX6_spoilt_0 1 rfl rfl 1 rfl ?_
  refine j_i2l C dX6_spoilt_1 2 rfl ?_
  refine j_lconst (v := 1) C dX6_spoilt_2 3 rfl (by decide) ?_
  refine j_ldc2 C dX6_spoilt_3 6 rfl kX6_spoilt_c211 ?_
  refine j_cs0I (na := 3) C dX6_spoilt_6 9 rfl (c_X6_isIn τ  ((x1 : Int32).toInt64) (1 : Int64) (30 : Int64) ) rfl ggX6_spoilt_X6_isIn rfl rfl rfl kX6_spoilt_iRX6 kX6_spoilt_m57 kX6_spoilt_sX6_isIn qd_X6_isIn rfl ⟨by decide, by decide⟩ ⟨by decide, by decide⟩ rfl (Nat.le_of_ble_eq_true rfl) (fun r1 u1 hX1 hn1 => ?_)
  obtain rfl := (Prod.mk.inj hX1).1
  refine j_if_ne C dX6_spoilt_9 14 rfl 12 rfl (fun c2 => ?_) (fun c2 => ?_)
  · rw [if_neg c2] at hR
    refine j_aload_n C dX6_spoilt_14 15 rfl rfl 0 rfl ?_
    refine j_get C dX6_spoilt_15 18 rfl hiX6 0 rfl rfl 0 (by decide) rfl kX6_spoilt_f7 rfl ?_
    refine j_aload_n C dX6_spoilt_18 19 rfl rfl 0 rfl ?_
    refine j_get C dX6_spoilt_19 22 rfl hiX6 0 rfl rfl 2 (by decide) rfl kX6_spoilt_f16 rfl ?_
    refine j_csWV (na := 2) C dX6_spoilt_22 25 rfl (c_X6_copyRow__sa τ a ss mhd mas mbf mih mtp mtn mtk mfr mtt mvl miw mld mrw mrn mso msz mnu mhw mhh mhm mbo mrr mak man maa mip ) ggX6_spoilt_X6_copyRow rfl rfl rfl kX6_spoilt_iRX6 kX6_spoilt_m138 kX6_spoilt_sX6_copyRow qd_X6_copyRow__sa rfl ⟨by decide, by decide⟩ ⟨by decide, by decide⟩ rfl (Nat.le_of_ble_eq_true rfl) rfl (fun u3 hX3 => ?_)
    obtain ⟨mas_3, rfl⟩ : ∃ z, z = u3 := ⟨_, rfl⟩
    rw [hX3] at hR; rw [pr1_mk mas_3] at hR
    have hoka3 : okS mas_3 := by rw [← hX3]; exact ok_cp_sa (by assumption)
    refine j_aload_n C dX6_spoilt_25 26 rfl rfl 0 rfl ?_
    refine j_iconst (v := 1) C dX6_spoilt_26 27 rfl (by decide) ?_
    refine j_iconst (v := 0) C dX6_spoilt_27 28 rfl (by decide) ?_
    refine j_cv0V (na := 2) C dX6_spoilt_28 31 rfl (c_X6_goes τ a ss mhd mas_3 mbf mih mtp mtn mtk mfr mtt mvl miw mld mrw mrn mso msz mnu mhw mhh mhm mbo mrr mak man maa mip (1 : Int32) (0 : Int32) (by first | assumption | (unfold vp_in; decide) | decide) (by first | assumption | (unfold vp_in; decide) | decide)) gX6_spoilt_X6_goes rfl rfl rfl qd_X6_goes rfl ⟨by decide, by decide⟩ ⟨by decide, by decide⟩ rfl (Nat.le_of_ble_eq_true rfl) rfl 6 0 rfl rfl (fun u4 hX4 => ?_)
    obtain ⟨ss_4, rfl⟩ : ∃ z, z = u4 := ⟨_, rfl⟩
    rw [hX4] at hR; rw [pr1_mk ss_4] at hR
    have hok4 : okS ss_4 := by rw [← hX4]; exact ok_goes (by assumption)
    refine j_aload_n C dX6_spoilt_31 32 rfl rfl 0 rfl ?_
    refine j_get C dX6_spoilt_32 35 rfl hiX6 0 rfl rfl 0 (by decide) rfl kX6_spoilt_f7 rfl ?_
    refine j_iconst (v := 3) C dX6_spoilt_35 36 rfl (by decide) ?_
    refine j_iald C dX6_spoilt_36 37 rfl 1 rfl (by unfold vp_in; decide) 3 rfl ?_
    refine j_istore_n C dX6_spoilt_37 38 rfl rfl (by decide) [(2, .int (ss_4 3)), (0, .ref (a 0)), (1, .int x1)] rfl ?_
    refine j_aload_n C dX6_spoilt_38 39 rfl rfl 1 rfl ?_
    refine j_get C dX6_spoilt_39 42 rfl hiX6 0 rfl rfl 2 (by decide) rfl kX6_spoilt_f16 rfl ?_
    refine j_iconst (v := 2) C dX6_spoilt_42 43 rfl (by decide) ?_
    refine j_iald C dX6_spoilt_43 44 rfl 3 rfl (by unfold vp_in; decide) 2 rfl ?_
    refine j_istore_n C dX6_spoilt_44 45 rfl rfl (by decide) [(3, .int (mas_3 2)), (2, .int (ss_4 3)), (0, .ref (a 0)), (1, .int x1)] rfl ?_
    refine j_iconst (v := 0) C dX6_spoilt_45 46 rfl (by decide) ?_
    refine j_istore C dX6_spoilt_46 48 rfl (by decide) [(4, .int 0), (3, .int (mas_3 2)), (2, .int (ss_4 3)), (0, .ref (a 0)), (1, .int x1)] rfl ?_
    refine j_iconst (v := 0) C dX6_spoilt_48 49 rfl (by decide) ?_
    refine j_istore C dX6_spoilt_49 51 rfl (by decide) [(5, .int 0), (4, .int 0), (3, .int (mas_3 2)), (2, .int (ss_4 3)), (0, .ref (a 0)), (1, .int x1)] rfl ?_
    refine j_lv [4, 5, 3, 2, 1, 0] [(0, .ref (a 0)), (1, .int x1), (2, .int (ss_4 3)), (3, .int (mas_3 2)), (4, .int 0), (5, .int 0)] rfl (L_X6_spoilt_51 C a mhd mas_3 mbf mih mtp mtn mtk mfr mtt mvl miw mld mrw mrn mso msz mnu mhw mhh mhm mbo mrr mak man maa mip x1 (ss_4 3) (m_30 (x := x1) c2) (by assumption) (fun (o : Int32 × Int32 × Int32 × (Nat → Int32)) => Rt τ κ cX6_spoilt .int (fun u : (Nat → Int32) × (Nat → Int32) => (wM τ a u.1 mhd u.2 mbf mih mtp mtn mtk mfr mtt mvl miw mld mrw mrn mso msz mnu mhw mhh mhm mbo mrr mak man maa mip)) (pr4 o (fun x3_5 x4_5 x5_5 ss_5 => pr1 (f_X6_copyRow__as ss_5 mas_3) (fun ss_10 => (x4_5, ss_10, mas_3))))) (fun x3_5 x4_5 x5_5 ss_5  hR => ?_) 300 (mas_3 2) (0 : Int32) (0 : Int32) ss_4 (by decide) (by decide) (by decide) hR)
    rw [pr4_mk x3_5 x4_5 x5_5 ss_5] at hR
    refine j_aload_n C dX6_spoilt_106 107 rfl rfl 0 rfl ?_
    refine j_get C dX6_spoilt_107 110 rfl hiX6 0 rfl rfl 2 (by decide) rfl kX6_spoilt_f16 rfl ?_
    refine j_aload_n C dX6_spoilt_110 111 rfl rfl 0 rfl ?_
    refine j_get C dX6_spoilt_111 114 rfl hiX6 0 rfl rfl 0 (by decide) rfl kX6_spoilt_f7 rfl ?_
    refine j_csWV (na := 2) C dX6_spoilt_114 117 rfl (c_X6_copyRow__as τ a ss_5 mhd mas_3 mbf mih mtp mtn mtk mfr mtt mvl miw mld mrw mrn mso msz mnu mhw mhh mhm mbo mrr mak man maa mip ) ggX6_spoilt_X6_copyRow rfl rfl rfl kX6_spoilt_iRX6 kX6_spoilt_m138 kX6_spoilt_sX6_copyRow qd_X6_copyRow__as rfl ⟨by decide, by decide⟩ ⟨by decide, by decide⟩ rfl (Nat.le_of_ble_eq_true rfl) rfl (fun u10 hX10 => ?_)
    obtain ⟨ss_10, rfl⟩ : ∃ z, z = u10 := ⟨_, rfl⟩
    rw [hX10] at hR; rw [pr1_mk ss_10] at hR
    have hok10 : okS ss_10 := by rw [← hX10]; exact ok_cp_as (by assumption)
    refine j_iload C dX6_spoilt_117 119 rfl 4 rfl ?_
    exact Rt.ret (hR) rfl dX6_spoilt_119
  · rw [if_pos c2] at hR
    refine j_iconst (v := (-1)) C dX6_spoilt_12 13 rfl (by decide) ?_
    exact Rt.ret (hR) rfl dX6_spoilt_13

-- X6_quietestBy
def l_X6_quietestBy__ph_28 (x5 : Int32) (x6 : Int32) : Nat → Int32 → Int32 → Int32 → (Nat → Int32) → (Nat → Int32) → Int32 × Int32 × Int32 × (Nat → Int32) × (Nat → Int32)
  | 0, x8, x9, x10, ss, mas => (x8, x9, x10, ss, mas)
  | N + 1, x8, x9, x10, ss, mas => if (8 < x10) then (x8, x9, x10, ss, mas) else (pr3 (f_X6_lengthBy (upd ss (x6).toNatClampNeg x10) mas x5 (0 : Int32)) (fun r3 ss_3 mas_3 => pr1 (if (r3 ≤ x9) then x8 else x10) (fun j57_0 => l_X6_quietestBy__ph_28 x5 x6 N j57_0 (f_X6_greatest x9 r3) (x10 + 1) ss_3 mas_3)))
def f_X6_quietestBy__ph (ss : Nat → Int32) (mas : Nat → Int32) (x1 : Int32) (x5 : Int32) : Int32 × (Nat → Int32) × (Nat → Int32) := pr5 (l_X6_quietestBy__ph_28 x5 (((10 : Int32) + ((5 : Int32) * x1)) + 2) 300 (0 : Int32) ((-1) : Int32) (0 : Int32) ss mas) (fun x8_1 x9_1 x10_1 ss_1 mas_1 => (x8_1, (upd ss_1 ((((10 : Int32) + ((5 : Int32) * x1)) + 2)).toNatClampNeg (ss ((((10 : Int32) + ((5 : Int32) * x1)) + 2)).toNatClampNeg)), mas_1))
theorem kX6_quietestBy__ph_f7 : Cond.fieldLink RX6 7 "TwoMinutesModel" "s" "[I" ∈ wsX6_quietestBy := by decide +kernel
theorem kX6_quietestBy__ph_iRX6 : Cond.initialized yX6_greatest.cls ∈ wsX6_quietestBy := by decide +kernel
theorem kX6_quietestBy__ph_sX6_greatest : Cond.static yX6_greatest ∈ wsX6_quietestBy := by decide +kernel
theorem kX6_quietestBy__ph_m195 : Cond.methodLink RX6 195 yX6_greatest ∈ wsX6_quietestBy := by decide +kernel
theorem qd_X6_quietestBy__ph : yX6_quietestBy.cls = RX6 ∧ yX6_quietestBy.cls ≠ "java/lang/invoke/MethodHandle" ∧ yX6_quietestBy.cls ≠ "java/lang/invoke/VarHandle" ∧ (parseMethodDescriptor yX6_quietestBy.desc).map (fun d => d.parameters.length) = some 5 := by decide +kernel
abbrev rmX6_quietestBy__ph : Room := { frames := 6, cells := 0, slots := 0, locals := 137 }
set_option maxHeartbeats 4000000 in
set_option maxRecDepth 100000 in
theorem L_X6_quietestBy__ph_28 {τ : SX} {κ : KX} (C : Cx τ κ cX6_quietestBy RX6 wsX6_quietestBy rmX6_quietestBy__ph 12) (a : Nat → Nat) (mhd : Nat → Int32) (mbf : Nat → Int32) (mih : Int32) (mtp : Nat → Int32) (mtn : Int32) (mtk : Int32) (mfr : Int32) (mtt : Int32) (mvl : Int32) (miw : Int32) (mld : Nat → Int32) (mrw : Nat → Int32) (mrn : Int32) (mso : Nat → Int32) (msz : Nat → Int32) (mnu : Nat → Int32) (mhw : Nat → Int32) (mhh : Nat → Int32) (mhm : Nat → Int32) (mbo : Nat → Int32) (mrr : Int32) (mak : Int32) (man : Int32) (maa : Int32) (mip : Int32) (x1 : Int32) (x5 : Int32) (x6 : Int32) (x7 : Int32) (hv : vp_in x1 8) (hx : x5.toInt ≤ 60) (ha : vp_in x6 50) (hq : ∀ (s : Nat → Int32) (v : Int32), okS s → okS (upd s (x6).toNatClampNeg v)) (Φ : Int32 × Int32 × Int32 × (Nat → Int32) × (Nat → Int32) → Prop) (hE : ∀ (x8 : Int32) (x9 : Int32) (x10 : Int32) (ss : Nat → Int32) (mas : Nat → Int32), Φ (x8, x9, x10, ss, mas) → J τ κ 0 0 (wM τ a ss mhd mas mbf mih mtp mtn mtk mfr mtt mvl miw mld mrw mrn mso msz mnu mhw mhh mhm mbo mrr mak man maa mip) [(0, .ref (a 0)), (1, .int x1), (2, .int 2), (3, .int 0), (4, .int 8), (5, .int x5), (6, .int x6), (7, .int x7), (8, .int x8), (9, .int x9), (10, .int x10)] 84 []) : ∀ (N : Nat) (x8 : Int32) (x9 : Int32) (x10 : Int32) (ss : Nat → Int32) (mas : Nat → Int32), ((9 : Int) - x10.toInt).toNat < N → (0 ≤ x10.toInt) → (x10.toInt ≤ 9) → (okS ss) → Φ (l_X6_quietestBy__ph_28 x5 x6 N x8 x9 x10 ss mas) → J τ κ 0 0 (wM τ a ss mhd mas mbf mih mtp mtn mtk mfr mtt mvl miw mld mrw mrn mso msz mnu mhw mhh mhm mbo mrr mak man maa mip) [(0, .ref (a 0)), (1, .int x1), (2, .int 2), (3, .int 0), (4, .int 8), (5, .int x5), (6, .int x6), (7, .int x7), (8, .int x8), (9, .int x9), (10, .int x10)] 28 [] := by
  have hiX6 : ∀ w ∈ wsX60, w ∈ wsX6_quietestBy := fun w h => List.mem_cons_of_mem _ (List.mem_append_right _ h)
  intro N
  induction N with
  | zero => intro x8 x9 x10 ss mas hm; exact absurd hm (Nat.not_lt_zero _)
  | succ N ih =>
    intro x8 x9 x10 ss mas hm h0 h1 hok hR
    rw [l_X6_quietestBy__ph_28] at hR
    try rw [show (0 : Int32).toNatClampNeg = 0 from rfl] at hR
    try rw [show (2 : Int32).toNatClampNeg = 2 from rfl] at hR
    try rw [show (8 : Int32).toNatClampNeg = 8 from rfl] at hR
    refine j_iload C dX6_quietestBy_28 30 rfl 10 rfl ?_
    refine j_iload C dX6_quietestBy_30 32 rfl 4 rfl ?_
    refine j_icmp_gt C dX6_quietestBy_32 84 rfl 35 rfl (fun c2 => ?_) (fun c2 => ?_)
    · rw [if_pos c2] at hR
      exact j_lv [0, 1, 2, 3, 4, 5, 6, 7, 8, 9, 10] [(0, .ref (a 0)), (1, .int x1), (2, .int 2), (3, .int 0), (4, .int 8), (5, .int x5), (6, .int x6), (7, .int x7), (8, .int x8), (9, .int x9), (10, .int x10)] rfl (hE _ _ _ _ _  hR)
    · rw [if_neg c2] at hR
      have hs := cnt_stepL (B := 9) h0 (by decide) (by decide) c2
      refine j_aload_n C dX6_quietestBy_35 36 rfl rfl 0 rfl ?_
      refine j_get C dX6_quietestBy_36 39 rfl hiX6 0 rfl rfl 0 (by decide) rfl kX6_quietestBy__ph_f7 rfl ?_
      refine j_iload C dX6_quietestBy_39 41 rfl 6 rfl ?_
      refine j_iload C dX6_quietestBy_41 43 rfl 10 rfl ?_
      refine j_iast C dX6_quietestBy_43 44 rfl 1 rfl (ha) (x6).toNatClampNeg rfl (wM τ a (upd ss (x6).toNatClampNeg x10) mhd mas mbf mih mtp mtn mtk mfr mtt mvl miw mld mrw mrn mso msz mnu mhw mhh mhm mbo mrr mak man maa mip) rfl ?_
      refine j_aload_n C dX6_quietestBy_44 45 rfl rfl 0 rfl ?_
      refine j_iload C dX6_quietestBy_45 47 rfl 5 rfl ?_
      refine j_iconst (v := 0) C dX6_quietestBy_47 48 rfl (by decide) ?_
      refine j_cv0I (na := 2) C dX6_quietestBy_48 51 rfl (c_X6_lengthBy τ a (upd ss (x6).toNatClampNeg x10) mhd mas mbf mih mtp mtn mtk mfr mtt mvl miw mld mrw mrn mso msz mnu mhw mhh mhm mbo mrr mak man maa mip x5 (0 : Int32) (hq _ _ hok) hx) gX6_quietestBy_X6_lengthBy rfl rfl rfl qd_X6_lengthBy rfl ⟨by decide, by decide⟩ ⟨by decide, by decide⟩ rfl (Nat.le_of_ble_eq_true rfl) rfl 6 0 rfl rfl (fun r3 u3 hX3 hn3 => ?_)
      obtain ⟨ss_3, mas_3⟩ := u3
      rw [hX3] at hR; rw [pr3_mk r3 ss_3 mas_3] at hR
      have hok3 : okS ss_3 := ok_lengthBy (hq _ _ hok) hX3
      refine j_istore C dX6_quietestBy_51 53 rfl (by decide) [(11, .int r3), (0, .ref (a 0)), (1, .int x1), (2, .int 2), (3, .int 0), (4, .int 8), (5, .int x5), (6, .int x6), (7, .int x7), (8, .int x8), (9, .int x9), (10, .int x10)] rfl ?_
      refine j_iload C dX6_quietestBy_53 55 rfl 0 rfl ?_
      refine j_iload C dX6_quietestBy_55 57 rfl 10 rfl ?_
      have J57 : ∀ (j57_0 : Int32), Φ (l_X6_quietestBy__ph_28 x5 x6 N j57_0 (f_X6_greatest x9 r3) (x10 + 1) ss_3 mas_3) → J τ κ 0 0 (wM τ a ss_3 mhd mas_3 mbf mih mtp mtn mtk mfr mtt mvl miw mld mrw mrn mso msz mnu mhw mhh mhm mbo mrr mak man maa mip) [(0, .ref (a 0)), (1, .int x1), (2, .int 2), (3, .int 0), (4, .int 8), (5, .int x5), (6, .int x6), (7, .int x7), (8, .int x8), (9, .int x9), (10, .int x10), (11, .int r3)] 67 [.int j57_0] := by
        intro j57_0  hR
        refine j_istore C dX6_quietestBy_67 69 rfl (by decide) [(8, .int j57_0), (0, .ref (a 0)), (1, .int x1), (2, .int 2), (3, .int 0), (4, .int 8), (5, .int x5), (6, .int x6), (7, .int x7), (9, .int x9), (10, .int x10), (11, .int r3)] rfl ?_
        refine j_iload C dX6_quietestBy_69 71 rfl 9 rfl ?_
        refine j_iload C dX6_quietestBy_71 73 rfl 11 rfl ?_
        refine j_cs0I (na := 2) C dX6_quietestBy_73 76 rfl (c_X6_greatest τ  x9 r3 ) rfl ggX6_quietestBy_X6_greatest rfl rfl rfl kX6_quietestBy__ph_iRX6 kX6_quietestBy__ph_m195 kX6_quietestBy__ph_sX6_greatest qd_X6_greatest rfl ⟨by decide, by decide⟩ ⟨by decide, by decide⟩ rfl (Nat.le_of_ble_eq_true rfl) (fun r5 u5 hX5 hn5 => ?_)
        obtain rfl := (Prod.mk.inj hX5).1
        refine j_istore C dX6_quietestBy_76 78 rfl (by decide) [(9, .int (f_X6_greatest x9 r3)), (8, .int j57_0), (0, .ref (a 0)), (1, .int x1), (2, .int 2), (3, .int 0), (4, .int 8), (5, .int x5), (6, .int x6), (7, .int x7), (10, .int x10), (11, .int r3)] rfl ?_
        refine j_iinc (v := (x10 + 1)) C dX6_quietestBy_78 81 rfl 10 rfl rfl (by decide) [(10, .int (x10 + 1)), (9, .int (f_X6_greatest x9 r3)), (8, .int j57_0), (0, .ref (a 0)), (1, .int x1), (2, .int 2), (3, .int 0), (4, .int 8), (5, .int x5), (6, .int x6), (7, .int x7), (11, .int r3)] rfl ?_
        refine j_goto C dX6_quietestBy_81 28 rfl ?_
        exact j_lv [3, 4, 5, 6, 7, 8, 9, 10, 2, 1, 0] [(0, .ref (a 0)), (1, .int x1), (2, .int 2), (3, .int 0), (4, .int 8), (5, .int x5), (6, .int x6), (7, .int x7), (8, .int j57_0), (9, .int (f_X6_greatest x9 r3)), (10, .int (x10 + 1))] rfl (ih _ _ _ _ _ (by have := hs.2.2.1; omega) hs.1 hs.2.1 (by assumption) hR)
      refine j_icmp_le C dX6_quietestBy_57 65 rfl 60 rfl (fun c4 => ?_) (fun c4 => ?_)
      · rw [if_pos c4] at hR
        refine j_iload C dX6_quietestBy_65 67 rfl 9 rfl ?_
        rw [pr1_mk x8] at hR
        exact j_lv [1, 2, 3, 4, 5, 6, 7, 8, 9, 10, 11, 0] [(0, .ref (a 0)), (1, .int x1), (2, .int 2), (3, .int 0), (4, .int 8), (5, .int x5), (6, .int x6), (7, .int x7), (8, .int x8), (9, .int x9), (10, .int x10), (11, .int r3)] rfl (J57 _  hR)
      · rw [if_neg c4] at hR
        refine j_iload C dX6_quietestBy_60 62 rfl 11 rfl ?_
        refine j_goto C dX6_quietestBy_62 67 rfl ?_
        rw [pr1_mk x10] at hR
        exact j_lv [1, 2, 3, 4, 5, 6, 7, 8, 9, 10, 11, 0] [(0, .ref (a 0)), (1, .int x1), (2, .int 2), (3, .int 0), (4, .int 8), (5, .int x5), (6, .int x6), (7, .int x7), (8, .int x8), (9, .int x9), (10, .int x10), (11, .int r3)] rfl (J57 _  hR)
set_option maxHeartbeats 4000000 in
set_option maxRecDepth 100000 in
theorem c_X6_quietestBy__ph (τ : SX) (a : Nat → Nat) (ss : Nat → Int32) (mhd : Nat → Int32) (mas : Nat → Int32) (mbf : Nat → Int32) (mih : Int32) (mtp : Nat → Int32) (mtn : Int32) (mtk : Int32) (mfr : Int32) (mtt : Int32) (mvl : Int32) (miw : Int32) (mld : Nat → Int32) (mrw : Nat → Int32) (mrn : Int32) (mso : Nat → Int32) (msz : Nat → Int32) (mnu : Nat → Int32) (mhw : Nat → Int32) (mhh : Nat → Int32) (mhm : Nat → Int32) (mbo : Nat → Int32) (mrr : Int32) (mak : Int32) (man : Int32) (maa : Int32) (mip : Int32) (x1 : Int32) (x5 : Int32) (hok : okS ss) (hv : vp_in x1 8) (hx : x5.toInt ≤ 60) (sz : Nat) : McI τ yX6_quietestBy wsX6_quietestBy rmX6_quietestBy__ph .int [.ref (a 0), .int x1, .int 2, .int 0, .int 8, .int x5] (wM τ a ss mhd mas mbf mih mtp mtn mtk mfr mtt mvl miw mld mrw mrn mso msz mnu mhw mhh mhm mbo mrr mak man maa mip) (fun u : (Nat → Int32) × (Nat → Int32) => (wM τ a u.1 mhd u.2 mbf mih mtp mtn mtk mfr mtt mvl miw mld mrw mrn mso msz mnu mhw mhh mhm mbo mrr mak man maa mip)) (f_X6_quietestBy__ph ss mas x1 x5) sz := by
  refine mc_I (cc := cX6_quietestBy) (own := RX6) [(0, .ref (a 0)), (1, .int x1), (2, .int 2), (3, .int 0), (4, .int 8), (5, .int x5)] rfl (by decide) rfl rfl (Nat.le_of_ble_eq_true rfl) (fun κ C hR => ?_)
  have hiX6 : ∀ w ∈ wsX60, w ∈ wsX6_quietestBy := fun w h => List.mem_cons_of_mem _ (List.mem_append_right _ h)
  unfold f_X6_quietestBy__ph at hR
  refine j_bipush (v := 10) C dX6_quietestBy_0 2 rfl (by decide) ?_
  refine j_iconst (v := 5) C dX6_quietestBy_2 3 rfl (by decide) ?_
  refine j_iload_n C dX6_quietestBy_3 4 rfl rfl 1 rfl ?_
  refine j_imul C dX6_quietestBy_4 5 rfl ?_
  refine j_iadd C dX6_quietestBy_5 6 rfl ?_
  refine j_iload_n C dX6_quietestBy_6 7 rfl rfl 2 rfl ?_
  refine j_iadd C dX6_quietestBy_7 8 rfl ?_
  refine j_istore C dX6_quietestBy_8 10 rfl (by decide) [(6, .int (((10 : Int32) + ((5 : Int32) * x1)) + 2)), (0, .ref (a 0)), (1, .int x1), (2, .int 2), (3, .int 0), (4, .int 8), (5, .int x5)] rfl ?_
  refine j_aload_n C dX6_quietestBy_10 11 rfl rfl 1 rfl ?_
  refine j_get C dX6_quietestBy_11 14 rfl hiX6 0 rfl rfl 0 (by decide) rfl kX6_quietestBy__ph_f7 rfl ?_
  refine j_iload C dX6_quietestBy_14 16 rfl 0 rfl ?_
  refine j_iald C dX6_quietestBy_16 17 rfl 1 rfl (its_in (o := x1) (w := 2) hv (by decide)) ((((10 : Int32) + ((5 : Int32) * x1)) + 2)).toNatClampNeg rfl ?_
  refine j_istore C dX6_quietestBy_17 19 rfl (by decide) [(7, .int (ss ((((10 : Int32) + ((5 : Int32) * x1)) + 2)).toNatClampNeg)), (6, .int (((10 : Int32) + ((5 : Int32) * x1)) + 2)), (0, .ref (a 0)), (1, .int x1), (2, .int 2), (3, .int 0), (4, .int 8), (5, .int x5)] rfl ?_
  refine j_iload_n C dX6_quietestBy_19 20 rfl rfl 5 rfl ?_
  refine j_istore C dX6_quietestBy_20 22 rfl (by decide) [(8, .int 0), (7, .int (ss ((((10 : Int32) + ((5 : Int32) * x1)) + 2)).toNatClampNeg)), (6, .int (((10 : Int32) + ((5 : Int32) * x1)) + 2)), (0, .ref (a 0)), (1, .int x1), (2, .int 2), (3, .int 0), (4, .int 8), (5, .int x5)] rfl ?_
  refine j_iconst (v := (-1)) C dX6_quietestBy_22 23 rfl (by decide) ?_
  refine j_istore C dX6_quietestBy_23 25 rfl (by decide) [(9, .int (-1)), (8, .int 0), (7, .int (ss ((((10 : Int32) + ((5 : Int32) * x1)) + 2)).toNatClampNeg)), (6, .int (((10 : Int32) + ((5 : Int32) * x1)) + 2)), (0, .ref (a 0)), (1, .int x1), (2, .int 2), (3, .int 0), (4, .int 8), (5, .int x5)] rfl ?_
  refine j_iload_n C dX6_quietestBy_25 26 rfl rfl 7 rfl ?_
  refine j_istore C dX6_quietestBy_26 28 rfl (by decide) [(10, .int 0), (9, .int (-1)), (8, .int 0), (7, .int (ss ((((10 : Int32) + ((5 : Int32) * x1)) + 2)).toNatClampNeg)), (6, .int (((10 : Int32) + ((5 : Int32) * x1)) + 2)), (0, .ref (a 0)), (1, .int x1), (2, .int 2), (3, .int 0), (4, .int 8), (5, .int x5)] rfl ?_
  refine j_lv [5, 6, 7, 8, 9, 10, 4, 3, 2, 1, 0] [(0, .ref (a 0)), (1, .int x1), (2, .int 2), (3, .int 0), (4, .int 8), (5, .int x5), (6, .int (((10 : Int32) + ((5 : Int32) * x1)) + 2)), (7, .int (ss ((((10 : Int32) + ((5 : Int32) * x1)) + 2)).toNatClampNeg)), (8, .int 0), (9, .int (-1)), (10, .int 0)] rfl (L_X6_quietestBy__ph_28 C a mhd mbf mih mtp mtn mtk mfr mtt mvl miw mld mrw mrn mso msz mnu mhw mhh mhm mbo mrr mak man maa mip x1 x5 (((10 : Int32) + ((5 : Int32) * x1)) + 2) (ss ((((10 : Int32) + ((5 : Int32) * x1)) + 2)).toNatClampNeg) hv hx (its_in (o := x1) (w := 2) hv (by decide)) (fun s v h => okS_w (o := x1) (w := 2) h hv (by decide) (by decide)) (fun (o : Int32 × Int32 × Int32 × (Nat → Int32) × (Nat → Int32)) => Rt τ κ cX6_quietestBy .int (fun u : (Nat → Int32) × (Nat → Int32) => (wM τ a u.1 mhd u.2 mbf mih mtp mtn mtk mfr mtt mvl miw mld mrw mrn mso msz mnu mhw mhh mhm mbo mrr mak man maa mip)) (pr5 o (fun x8_1 x9_1 x10_1 ss_1 mas_1 => (x8_1, (upd ss_1 ((((10 : Int32) + ((5 : Int32) * x1)) + 2)).toNatClampNeg (ss ((((10 : Int32) + ((5 : Int32) * x1)) + 2)).toNatClampNeg)), mas_1)))) (fun x8_1 x9_1 x10_1 ss_1 mas_1  hR => ?_) 300 (0 : Int32) ((-1) : Int32) (0 : Int32) ss mas (by decide) (by decide) (by decide) (by assumption) hR)
  rw [pr5_mk x8_1 x9_1 x10_1 ss_1 mas_1] at hR
  refine j_aload_n C dX6_quietestBy_84 85 rfl rfl 0 rfl ?_
  refine j_get C dX6_quietestBy_85 88 rfl hiX6 0 rfl rfl 0 (by decide) rfl kX6_quietestBy__ph_f7 rfl ?_
  refine j_iload C dX6_quietestBy_88 90 rfl 6 rfl ?_
  refine j_iload C dX6_quietestBy_90 92 rfl 7 rfl ?_
  refine j_iast C dX6_quietestBy_92 93 rfl 1 rfl (its_in (o := x1) (w := 2) hv (by decide)) ((((10 : Int32) + ((5 : Int32) * x1)) + 2)).toNatClampNeg rfl (wM τ a (upd ss_1 ((((10 : Int32) + ((5 : Int32) * x1)) + 2)).toNatClampNeg (ss ((((10 : Int32) + ((5 : Int32) * x1)) + 2)).toNatClampNeg)) mhd mas_1 mbf mih mtp mtn mtk mfr mtt mvl miw mld mrw mrn mso msz mnu mhw mhh mhm mbo mrr mak man maa mip) rfl ?_
  refine j_iload C dX6_quietestBy_93 95 rfl 8 rfl ?_
  exact Rt.ret (hR) rfl dX6_quietestBy_95

-- X6_quietestBy
def l_X6_quietestBy__kd_28 (x5 : Int32) (x6 : Int32) : Nat → Int32 → Int32 → Int32 → (Nat → Int32) → (Nat → Int32) → Int32 × Int32 × Int32 × (Nat → Int32) × (Nat → Int32)
  | 0, x8, x9, x10, ss, mas => (x8, x9, x10, ss, mas)
  | N + 1, x8, x9, x10, ss, mas => if (5 < x10) then (x8, x9, x10, ss, mas) else (pr3 (f_X6_lengthBy (upd ss (x6).toNatClampNeg x10) mas x5 (0 : Int32)) (fun r3 ss_3 mas_3 => pr1 (if (r3 ≤ x9) then x8 else x10) (fun j57_0 => l_X6_quietestBy__kd_28 x5 x6 N j57_0 (f_X6_greatest x9 r3) (x10 + 1) ss_3 mas_3)))
def f_X6_quietestBy__kd (ss : Nat → Int32) (mas : Nat → Int32) (x1 : Int32) (x5 : Int32) : Int32 × (Nat → Int32) × (Nat → Int32) := pr5 (l_X6_quietestBy__kd_28 x5 (((10 : Int32) + ((5 : Int32) * x1)) + 0) 300 (0 : Int32) ((-1) : Int32) (0 : Int32) ss mas) (fun x8_1 x9_1 x10_1 ss_1 mas_1 => (x8_1, (upd ss_1 ((((10 : Int32) + ((5 : Int32) * x1)) + 0)).toNatClampNeg (ss ((((10 : Int32) + ((5 : Int32) * x1)) + 0)).toNatClampNeg)), mas_1))
theorem kX6_quietestBy__kd_f7 : Cond.fieldLink RX6 7 "TwoMinutesModel" "s" "[I" ∈ wsX6_quietestBy := by decide +kernel
theorem kX6_quietestBy__kd_iRX6 : Cond.initialized yX6_greatest.cls ∈ wsX6_quietestBy := by decide +kernel
theorem kX6_quietestBy__kd_sX6_greatest : Cond.static yX6_greatest ∈ wsX6_quietestBy := by decide +kernel
theorem kX6_quietestBy__kd_m195 : Cond.methodLink RX6 195 yX6_greatest ∈ wsX6_quietestBy := by decide +kernel
theorem qd_X6_quietestBy__kd : yX6_quietestBy.cls = RX6 ∧ yX6_quietestBy.cls ≠ "java/lang/invoke/MethodHandle" ∧ yX6_quietestBy.cls ≠ "java/lang/invoke/VarHandle" ∧ (parseMethodDescriptor yX6_quietestBy.desc).map (fun d => d.parameters.length) = some 5 := by decide +kernel
abbrev rmX6_quietestBy__kd : Room := { frames := 6, cells := 0, slots := 0, locals := 137 }
set_option maxHeartbeats 4000000 in
set_option maxRecDepth 100000 in
theorem L_X6_quietestBy__kd_28 {τ : SX} {κ : KX} (C : Cx τ κ cX6_quietestBy RX6 wsX6_quietestBy rmX6_quietestBy__kd 12) (a : Nat → Nat) (mhd : Nat → Int32) (mbf : Nat → Int32) (mih : Int32) (mtp : Nat → Int32) (mtn : Int32) (mtk : Int32) (mfr : Int32) (mtt : Int32) (mvl : Int32) (miw : Int32) (mld : Nat → Int32) (mrw : Nat → Int32) (mrn : Int32) (mso : Nat → Int32) (msz : Nat → Int32) (mnu : Nat → Int32) (mhw : Nat → Int32) (mhh : Nat → Int32) (mhm : Nat → Int32) (mbo : Nat → Int32) (mrr : Int32) (mak : Int32) (man : Int32) (maa : Int32) (mip : Int32) (x1 : Int32) (x5 : Int32) (x6 : Int32) (x7 : Int32) (hv : vp_in x1 8) (hx : x5.toInt ≤ 60) (ha : vp_in x6 50) (hq : ∀ (s : Nat → Int32) (v : Int32), okS s → okS (upd s (x6).toNatClampNeg v)) (Φ : Int32 × Int32 × Int32 × (Nat → Int32) × (Nat → Int32) → Prop) (hE : ∀ (x8 : Int32) (x9 : Int32) (x10 : Int32) (ss : Nat → Int32) (mas : Nat → Int32), Φ (x8, x9, x10, ss, mas) → J τ κ 0 0 (wM τ a ss mhd mas mbf mih mtp mtn mtk mfr mtt mvl miw mld mrw mrn mso msz mnu mhw mhh mhm mbo mrr mak man maa mip) [(0, .ref (a 0)), (1, .int x1), (2, .int 0), (3, .int 0), (4, .int 5), (5, .int x5), (6, .int x6), (7, .int x7), (8, .int x8), (9, .int x9), (10, .int x10)] 84 []) : ∀ (N : Nat) (x8 : Int32) (x9 : Int32) (x10 : Int32) (ss : Nat → Int32) (mas : Nat → Int32), ((6 : Int) - x10.toInt).toNat < N → (0 ≤ x10.toInt) → (x10.toInt ≤ 6) → (okS ss) → Φ (l_X6_quietestBy__kd_28 x5 x6 N x8 x9 x10 ss mas) → J τ κ 0 0 (wM τ a ss mhd mas mbf mih mtp mtn mtk mfr mtt mvl miw mld mrw mrn mso msz mnu mhw mhh mhm mbo mrr mak man maa mip) [(0, .ref (a 0)), (1, .int x1), (2, .int 0), (3, .int 0), (4, .int 5), (5, .int x5), (6, .int x6), (7, .int x7), (8, .int x8), (9, .int x9), (10, .int x10)] 28 [] := by
  have hiX6 : ∀ w ∈ wsX60, w ∈ wsX6_quietestBy := fun w h => List.mem_cons_of_mem _ (List.mem_append_right _ h)
  intro N
  induction N with
  | zero => intro x8 x9 x10 ss mas hm; exact absurd hm (Nat.not_lt_zero _)
  | succ N ih =>
    intro x8 x9 x10 ss mas hm h0 h1 hok hR
    rw [l_X6_quietestBy__kd_28] at hR
    try rw [show (0 : Int32).toNatClampNeg = 0 from rfl] at hR
    try rw [show (5 : Int32).toNatClampNeg = 5 from rfl] at hR
    refine j_iload C dX6_quietestBy_28 30 rfl 10 rfl ?_
    refine j_iload C dX6_quietestBy_30 32 rfl 4 rfl ?_
    refine j_icmp_gt C dX6_quietestBy_32 84 rfl 35 rfl (fun c2 => ?_) (fun c2 => ?_)
    · rw [if_pos c2] at hR
      exact j_lv [0, 1, 2, 3, 4, 5, 6, 7, 8, 9, 10] [(0, .ref (a 0)), (1, .int x1), (2, .int 0), (3, .int 0), (4, .int 5), (5, .int x5), (6, .int x6), (7, .int x7), (8, .int x8), (9, .int x9), (10, .int x10)] rfl (hE _ _ _ _ _  hR)
    · rw [if_neg c2] at hR
      have hs := cnt_stepL (B := 6) h0 (by decide) (by decide) c2
      refine j_aload_n C dX6_quietestBy_35 36 rfl rfl 0 rfl ?_
      refine j_get C dX6_quietestBy_36 39 rfl hiX6 0 rfl rfl 0 (by decide) rfl kX6_quietestBy__kd_f7 rfl ?_
      refine j_iload C dX6_quietestBy_39 41 rfl 6 rfl ?_
      refine j_iload C dX6_quietestBy_41 43 rfl 10 rfl ?_
      refine j_iast C dX6_quietestBy_43 44 rfl 1 rfl (ha) (x6).toNatClampNeg rfl (wM τ a (upd ss (x6).toNatClampNeg x10) mhd mas mbf mih mtp mtn mtk mfr mtt mvl miw mld mrw mrn mso msz mnu mhw mhh mhm mbo mrr mak man maa mip) rfl ?_
      refine j_aload_n C dX6_quietestBy_44 45 rfl rfl 0 rfl ?_
      refine j_iload C dX6_quietestBy_45 47 rfl 5 rfl ?_
      refine j_iconst (v := 0) C dX6_quietestBy_47 48 rfl (by decide) ?_
      refine j_cv0I (na := 2) C dX6_quietestBy_48 51 rfl (c_X6_lengthBy τ a (upd ss (x6).toNatClampNeg x10) mhd mas mbf mih mtp mtn mtk mfr mtt mvl miw mld mrw mrn mso msz mnu mhw mhh mhm mbo mrr mak man maa mip x5 (0 : Int32) (hq _ _ hok) hx) gX6_quietestBy_X6_lengthBy rfl rfl rfl qd_X6_lengthBy rfl ⟨by decide, by decide⟩ ⟨by decide, by decide⟩ rfl (Nat.le_of_ble_eq_true rfl) rfl 6 0 rfl rfl (fun r3 u3 hX3 hn3 => ?_)
      obtain ⟨ss_3, mas_3⟩ := u3
      rw [hX3] at hR; rw [pr3_mk r3 ss_3 mas_3] at hR
      have hok3 : okS ss_3 := ok_lengthBy (hq _ _ hok) hX3
      refine j_istore C dX6_quietestBy_51 53 rfl (by decide) [(11, .int r3), (0, .ref (a 0)), (1, .int x1), (2, .int 0), (3, .int 0), (4, .int 5), (5, .int x5), (6, .int x6), (7, .int x7), (8, .int x8), (9, .int x9), (10, .int x10)] rfl ?_
      refine j_iload C dX6_quietestBy_53 55 rfl 0 rfl ?_
      refine j_iload C dX6_quietestBy_55 57 rfl 10 rfl ?_
      have J57 : ∀ (j57_0 : Int32), Φ (l_X6_quietestBy__kd_28 x5 x6 N j57_0 (f_X6_greatest x9 r3) (x10 + 1) ss_3 mas_3) → J τ κ 0 0 (wM τ a ss_3 mhd mas_3 mbf mih mtp mtn mtk mfr mtt mvl miw mld mrw mrn mso msz mnu mhw mhh mhm mbo mrr mak man maa mip) [(0, .ref (a 0)), (1, .int x1), (2, .int 0), (3, .int 0), (4, .int 5), (5, .int x5), (6, .int x6), (7, .int x7), (8, .int x8), (9, .int x9), (10, .int x10), (11, .int r3)] 67 [.int j57_0] := by
        intro j57_0  hR
        refine j_istore C dX6_quietestBy_67 69 rfl (by decide) [(8, .int j57_0), (0, .ref (a 0)), (1, .int x1), (2, .int 0), (3, .int 0), (4, .int 5), (5, .int x5), (6, .int x6), (7, .int x7), (9, .int x9), (10, .int x10), (11, .int r3)] rfl ?_
        refine j_iload C dX6_quietestBy_69 71 rfl 9 rfl ?_
        refine j_iload C dX6_quietestBy_71 73 rfl 11 rfl ?_
        refine j_cs0I (na := 2) C dX6_quietestBy_73 76 rfl (c_X6_greatest τ  x9 r3 ) rfl ggX6_quietestBy_X6_greatest rfl rfl rfl kX6_quietestBy__kd_iRX6 kX6_quietestBy__kd_m195 kX6_quietestBy__kd_sX6_greatest qd_X6_greatest rfl ⟨by decide, by decide⟩ ⟨by decide, by decide⟩ rfl (Nat.le_of_ble_eq_true rfl) (fun r5 u5 hX5 hn5 => ?_)
        obtain rfl := (Prod.mk.inj hX5).1
        refine j_istore C dX6_quietestBy_76 78 rfl (by decide) [(9, .int (f_X6_greatest x9 r3)), (8, .int j57_0), (0, .ref (a 0)), (1, .int x1), (2, .int 0), (3, .int 0), (4, .int 5), (5, .int x5), (6, .int x6), (7, .int x7), (10, .int x10), (11, .int r3)] rfl ?_
        refine j_iinc (v := (x10 + 1)) C dX6_quietestBy_78 81 rfl 10 rfl rfl (by decide) [(10, .int (x10 + 1)), (9, .int (f_X6_greatest x9 r3)), (8, .int j57_0), (0, .ref (a 0)), (1, .int x1), (2, .int 0), (3, .int 0), (4, .int 5), (5, .int x5), (6, .int x6), (7, .int x7), (11, .int r3)] rfl ?_
        refine j_goto C dX6_quietestBy_81 28 rfl ?_
        exact j_lv [3, 4, 5, 6, 7, 8, 9, 10, 2, 1, 0] [(0, .ref (a 0)), (1, .int x1), (2, .int 0), (3, .int 0), (4, .int 5), (5, .int x5), (6, .int x6), (7, .int x7), (8, .int j57_0), (9, .int (f_X6_greatest x9 r3)), (10, .int (x10 + 1))] rfl (ih _ _ _ _ _ (by have := hs.2.2.1; omega) hs.1 hs.2.1 (by assumption) hR)
      refine j_icmp_le C dX6_quietestBy_57 65 rfl 60 rfl (fun c4 => ?_) (fun c4 => ?_)
      · rw [if_pos c4] at hR
        refine j_iload C dX6_quietestBy_65 67 rfl 9 rfl ?_
        rw [pr1_mk x8] at hR
        exact j_lv [1, 2, 3, 4, 5, 6, 7, 8, 9, 10, 11, 0] [(0, .ref (a 0)), (1, .int x1), (2, .int 0), (3, .int 0), (4, .int 5), (5, .int x5), (6, .int x6), (7, .int x7), (8, .int x8), (9, .int x9), (10, .int x10), (11, .int r3)] rfl (J57 _  hR)
      · rw [if_neg c4] at hR
        refine j_iload C dX6_quietestBy_60 62 rfl 11 rfl ?_
        refine j_goto C dX6_quietestBy_62 67 rfl ?_
        rw [pr1_mk x10] at hR
        exact j_lv [1, 2, 3, 4, 5, 6, 7, 8, 9, 10, 11, 0] [(0, .ref (a 0)), (1, .int x1), (2, .int 0), (3, .int 0), (4, .int 5), (5, .int x5), (6, .int x6), (7, .int x7), (8, .int x8), (9, .int x9), (10, .int x10), (11, .int r3)] rfl (J57 _  hR)
set_option maxHeartbeats 4000000 in
set_option maxRecDepth 100000 in
theorem c_X6_quietestBy__kd (τ : SX) (a : Nat → Nat) (ss : Nat → Int32) (mhd : Nat → Int32) (mas : Nat → Int32) (mbf : Nat → Int32) (mih : Int32) (mtp : Nat → Int32) (mtn : Int32) (mtk : Int32) (mfr : Int32) (mtt : Int32) (mvl : Int32) (miw : Int32) (mld : Nat → Int32) (mrw : Nat → Int32) (mrn : Int32) (mso : Nat → Int32) (msz : Nat → Int32) (mnu : Nat → Int32) (mhw : Nat → Int32) (mhh : Nat → Int32) (mhm : Nat → Int32) (mbo : Nat → Int32) (mrr : Int32) (mak : Int32) (man : Int32) (maa : Int32) (mip : Int32) (x1 : Int32) (x5 : Int32) (hok : okS ss) (hv : vp_in x1 8) (hx : x5.toInt ≤ 60) (sz : Nat) : McI τ yX6_quietestBy wsX6_quietestBy rmX6_quietestBy__kd .int [.ref (a 0), .int x1, .int 0, .int 0, .int 5, .int x5] (wM τ a ss mhd mas mbf mih mtp mtn mtk mfr mtt mvl miw mld mrw mrn mso msz mnu mhw mhh mhm mbo mrr mak man maa mip) (fun u : (Nat → Int32) × (Nat → Int32) => (wM τ a u.1 mhd u.2 mbf mih mtp mtn mtk mfr mtt mvl miw mld mrw mrn mso msz mnu mhw mhh mhm mbo mrr mak man maa mip)) (f_X6_quietestBy__kd ss mas x1 x5) sz := by
  refine mc_I (cc := cX6_quietestBy) (own := RX6) [(0, .ref (a 0)), (1, .int x1), (2, .int 0), (3, .int 0), (4, .int 5), (5, .int x5)] rfl (by decide) rfl rfl (Nat.le_of_ble_eq_true rfl) (fun κ C hR => ?_)
  have hiX6 : ∀ w ∈ wsX60, w ∈ wsX6_quietestBy := fun w h => List.mem_cons_of_mem _ (List.mem_append_right _ h)
  unfold f_X6_quietestBy__kd at hR
  refine j_bipush (v := 10) C dX6_quietestBy_0 2 rfl (by decide) ?_
  refine j_iconst (v := 5) C dX6_quietestBy_2 3 rfl (by decide) ?_
  refine j_iload_n C dX6_quietestBy_3 4 rfl rfl 1 rfl ?_
  refine j_imul C dX6_quietestBy_4 5 rfl ?_
  refine j_iadd C dX6_quietestBy_5 6 rfl ?_
  refine j_iload_n C dX6_quietestBy_6 7 rfl rfl 2 rfl ?_
  refine j_iadd C dX6_quietestBy_7 8 rfl ?_
  refine j_istore C dX6_quietestBy_8 10 rfl (by decide) [(6, .int (((10 : Int32) + ((5 : Int32) * x1)) + 0)), (0, .ref (a 0)), (1, .int x1), (2, .int 0), (3, .int 0), (4, .int 5), (5, .int x5)] rfl ?_
  refine j_aload_n C dX6_quietestBy_10 11 rfl rfl 1 rfl ?_
  refine j_get C dX6_quietestBy_11 14 rfl hiX6 0 rfl rfl 0 (by decide) rfl kX6_quietestBy__kd_f7 rfl ?_
  refine j_iload C dX6_quietestBy_14 16 rfl 0 rfl ?_
  refine j_iald C dX6_quietestBy_16 17 rfl 1 rfl (its_in (o := x1) (w := 0) hv (by decide)) ((((10 : Int32) + ((5 : Int32) * x1)) + 0)).toNatClampNeg rfl ?_
  refine j_istore C dX6_quietestBy_17 19 rfl (by decide) [(7, .int (ss ((((10 : Int32) + ((5 : Int32) * x1)) + 0)).toNatClampNeg)), (6, .int (((10 : Int32) + ((5 : Int32) * x1)) + 0)), (0, .ref (a 0)), (1, .int x1), (2, .int 0), (3, .int 0), (4, .int 5), (5, .int x5)] rfl ?_
  refine j_iload_n C dX6_quietestBy_19 20 rfl rfl 5 rfl ?_
  refine j_istore C dX6_quietestBy_20 22 rfl (by decide) [(8, .int 0), (7, .int (ss ((((10 : Int32) + ((5 : Int32) * x1)) + 0)).toNatClampNeg)), (6, .int (((10 : Int32) + ((5 : Int32) * x1)) + 0)), (0, .ref (a 0)), (1, .int x1), (2, .int 0), (3, .int 0), (4, .int 5), (5, .int x5)] rfl ?_
  refine j_iconst (v := (-1)) C dX6_quietestBy_22 23 rfl (by decide) ?_
  refine j_istore C dX6_quietestBy_23 25 rfl (by decide) [(9, .int (-1)), (8, .int 0), (7, .int (ss ((((10 : Int32) + ((5 : Int32) * x1)) + 0)).toNatClampNeg)), (6, .int (((10 : Int32) + ((5 : Int32) * x1)) + 0)), (0, .ref (a 0)), (1, .int x1), (2, .int 0), (3, .int 0), (4, .int 5), (5, .int x5)] rfl ?_
  refine j_iload_n C dX6_quietestBy_25 26 rfl rfl 7 rfl ?_
  refine j_istore C dX6_quietestBy_26 28 rfl (by decide) [(10, .int 0), (9, .int (-1)), (8, .int 0), (7, .int (ss ((((10 : Int32) + ((5 : Int32) * x1)) + 0)).toNatClampNeg)), (6, .int (((10 : Int32) + ((5 : Int32) * x1)) + 0)), (0, .ref (a 0)), (1, .int x1), (2, .int 0), (3, .int 0), (4, .int 5), (5, .int x5)] rfl ?_
  refine j_lv [5, 6, 7, 8, 9, 10, 4, 3, 2, 1, 0] [(0, .ref (a 0)), (1, .int x1), (2, .int 0), (3, .int 0), (4, .int 5), (5, .int x5), (6, .int (((10 : Int32) + ((5 : Int32) * x1)) + 0)), (7, .int (ss ((((10 : Int32) + ((5 : Int32) * x1)) + 0)).toNatClampNeg)), (8, .int 0), (9, .int (-1)), (10, .int 0)] rfl (L_X6_quietestBy__kd_28 C a mhd mbf mih mtp mtn mtk mfr mtt mvl miw mld mrw mrn mso msz mnu mhw mhh mhm mbo mrr mak man maa mip x1 x5 (((10 : Int32) + ((5 : Int32) * x1)) + 0) (ss ((((10 : Int32) + ((5 : Int32) * x1)) + 0)).toNatClampNeg) hv hx (its_in (o := x1) (w := 0) hv (by decide)) (fun s v h => okS_w (o := x1) (w := 0) h hv (by decide) (by decide)) (fun (o : Int32 × Int32 × Int32 × (Nat → Int32) × (Nat → Int32)) => Rt τ κ cX6_quietestBy .int (fun u : (Nat → Int32) × (Nat → Int32) => (wM τ a u.1 mhd u.2 mbf mih mtp mtn mtk mfr mtt mvl miw mld mrw mrn mso msz mnu mhw mhh mhm mbo mrr mak man maa mip)) (pr5 o (fun x8_1 x9_1 x10_1 ss_1 mas_1 => (x8_1, (upd ss_1 ((((10 : Int32) + ((5 : Int32) * x1)) + 0)).toNatClampNeg (ss ((((10 : Int32) + ((5 : Int32) * x1)) + 0)).toNatClampNeg)), mas_1)))) (fun x8_1 x9_1 x10_1 ss_1 mas_1  hR => ?_) 300 (0 : Int32) ((-1) : Int32) (0 : Int32) ss mas (by decide) (by decide) (by decide) (by assumption) hR)
  rw [pr5_mk x8_1 x9_1 x10_1 ss_1 mas_1] at hR
  refine j_aload_n C dX6_quietestBy_84 85 rfl rfl 0 rfl ?_
  refine j_get C dX6_quietestBy_85 88 rfl hiX6 0 rfl rfl 0 (by decide) rfl kX6_quietestBy__kd_f7 rfl ?_
  refine j_iload C dX6_quietestBy_88 90 rfl 6 rfl ?_
  refine j_iload C dX6_quietestBy_90 92 rfl 7 rfl ?_
  refine j_iast C dX6_quietestBy_92 93 rfl 1 rfl (its_in (o := x1) (w := 0) hv (by decide)) ((((10 : Int32) + ((5 : Int32) * x1)) + 0)).toNatClampNeg rfl (wM τ a (upd ss_1 ((((10 : Int32) + ((5 : Int32) * x1)) + 0)).toNatClampNeg (ss ((((10 : Int32) + ((5 : Int32) * x1)) + 0)).toNatClampNeg)) mhd mas_1 mbf mih mtp mtn mtk mfr mtt mvl miw mld mrw mrn mso msz mnu mhw mhh mhm mbo mrr mak man maa mip) rfl ?_
  refine j_iload C dX6_quietestBy_93 95 rfl 8 rfl ?_
  exact Rt.ret (hR) rfl dX6_quietestBy_95

-- X6_quietestBy
def l_X6_quietestBy__bt_28 (x5 : Int32) (x6 : Int32) : Nat → Int32 → Int32 → Int32 → (Nat → Int32) → (Nat → Int32) → Int32 × Int32 × Int32 × (Nat → Int32) × (Nat → Int32)
  | 0, x8, x9, x10, ss, mas => (x8, x9, x10, ss, mas)
  | N + 1, x8, x9, x10, ss, mas => if (9 < x10) then (x8, x9, x10, ss, mas) else (pr3 (f_X6_lengthBy (upd ss (x6).toNatClampNeg x10) mas x5 (0 : Int32)) (fun r3 ss_3 mas_3 => pr1 (if (r3 ≤ x9) then x8 else x10) (fun j57_0 => l_X6_quietestBy__bt_28 x5 x6 N j57_0 (f_X6_greatest x9 r3) (x10 + 1) ss_3 mas_3)))
def f_X6_quietestBy__bt (ss : Nat → Int32) (mas : Nat → Int32) (x1 : Int32) (x5 : Int32) : Int32 × (Nat → Int32) × (Nat → Int32) := pr5 (l_X6_quietestBy__bt_28 x5 (((10 : Int32) + ((5 : Int32) * x1)) + 1) 300 (1 : Int32) ((-1) : Int32) (1 : Int32) ss mas) (fun x8_1 x9_1 x10_1 ss_1 mas_1 => (x8_1, (upd ss_1 ((((10 : Int32) + ((5 : Int32) * x1)) + 1)).toNatClampNeg (ss ((((10 : Int32) + ((5 : Int32) * x1)) + 1)).toNatClampNeg)), mas_1))
theorem kX6_quietestBy__bt_f7 : Cond.fieldLink RX6 7 "TwoMinutesModel" "s" "[I" ∈ wsX6_quietestBy := by decide +kernel
theorem kX6_quietestBy__bt_iRX6 : Cond.initialized yX6_greatest.cls ∈ wsX6_quietestBy := by decide +kernel
theorem kX6_quietestBy__bt_sX6_greatest : Cond.static yX6_greatest ∈ wsX6_quietestBy := by decide +kernel
theorem kX6_quietestBy__bt_m195 : Cond.methodLink RX6 195 yX6_greatest ∈ wsX6_quietestBy := by decide +kernel
theorem qd_X6_quietestBy__bt : yX6_quietestBy.cls = RX6 ∧ yX6_quietestBy.cls ≠ "java/lang/invoke/MethodHandle" ∧ yX6_quietestBy.cls ≠ "java/lang/invoke/VarHandle" ∧ (parseMethodDescriptor yX6_quietestBy.desc).map (fun d => d.parameters.length) = some 5 := by decide +kernel
abbrev rmX6_quietestBy__bt : Room := { frames := 6, cells := 0, slots := 0, locals := 137 }
set_option maxHeartbeats 4000000 in
set_option maxRecDepth 100000 in
theorem L_X6_quietestBy__bt_28 {τ : SX} {κ : KX} (C : Cx τ κ cX6_quietestBy RX6 wsX6_quietestBy rmX6_quietestBy__bt 12) (a : Nat → Nat) (mhd : Nat → Int32) (mbf : Nat → Int32) (mih : Int32) (mtp : Nat → Int32) (mtn : Int32) (mtk : Int32) (mfr : Int32) (mtt : Int32) (mvl : Int32) (miw : Int32) (mld : Nat → Int32) (mrw : Nat → Int32) (mrn : Int32) (mso : Nat → Int32) (msz : Nat → Int32) (mnu : Nat → Int32) (mhw : Nat → Int32) (mhh : Nat → Int32) (mhm : Nat → Int32) (mbo : Nat → Int32) (mrr : Int32) (mak : Int32) (man : Int32) (maa : Int32) (mip : Int32) (x1 : Int32) (x5 : Int32) (x6 : Int32) (x7 : Int32) (hv : vp_in x1 8) (hx : x5.toInt ≤ 60) (ha : vp_in x6 50) (hq : ∀ (s : Nat → Int32) (v : Int32), ¬ v = 0 → okS s → okS (upd s (x6).toNatClampNeg v)) (Φ : Int32 × Int32 × Int32 × (Nat → Int32) × (Nat → Int32) → Prop) (hE : ∀ (x8 : Int32) (x9 : Int32) (x10 : Int32) (ss : Nat → Int32) (mas : Nat → Int32), Φ (x8, x9, x10, ss, mas) → J τ κ 0 0 (wM τ a ss mhd mas mbf mih mtp mtn mtk mfr mtt mvl miw mld mrw mrn mso msz mnu mhw mhh mhm mbo mrr mak man maa mip) [(0, .ref (a 0)), (1, .int x1), (2, .int 1), (3, .int 1), (4, .int 9), (5, .int x5), (6, .int x6), (7, .int x7), (8, .int x8), (9, .int x9), (10, .int x10)] 84 []) : ∀ (N : Nat) (x8 : Int32) (x9 : Int32) (x10 : Int32) (ss : Nat → Int32) (mas : Nat → Int32), ((10 : Int) - x10.toInt).toNat < N → (1 ≤ x10.toInt) → (x10.toInt ≤ 10) → (okS ss) → Φ (l_X6_quietestBy__bt_28 x5 x6 N x8 x9 x10 ss mas) → J τ κ 0 0 (wM τ a ss mhd mas mbf mih mtp mtn mtk mfr mtt mvl miw mld mrw mrn mso msz mnu mhw mhh mhm mbo mrr mak man maa mip) [(0, .ref (a 0)), (1, .int x1), (2, .int 1), (3, .int 1), (4, .int 9), (5, .int x5), (6, .int x6), (7, .int x7), (8, .int x8), (9, .int x9), (10, .int x10)] 28 [] := by
  have hiX6 : ∀ w ∈ wsX60, w ∈ wsX6_quietestBy := fun w h => List.mem_cons_of_mem _ (List.mem_append_right _ h)
  intro N
  induction N with
  | zero => intro x8 x9 x10 ss mas hm; exact absurd hm (Nat.not_lt_zero _)
  | succ N ih =>
    intro x8 x9 x10 ss mas hm h0 h1 hok hR
    rw [l_X6_quietestBy__bt_28] at hR
    try rw [show (1 : Int32).toNatClampNeg = 1 from rfl] at hR
    try rw [show (9 : Int32).toNatClampNeg = 9 from rfl] at hR
    refine j_iload C dX6_quietestBy_28 30 rfl 10 rfl ?_
    refine j_iload C dX6_quietestBy_30 32 rfl 4 rfl ?_
    refine j_icmp_gt C dX6_quietestBy_32 84 rfl 35 rfl (fun c2 => ?_) (fun c2 => ?_)
    · rw [if_pos c2] at hR
      exact j_lv [0, 1, 2, 3, 4, 5, 6, 7, 8, 9, 10] [(0, .ref (a 0)), (1, .int x1), (2, .int 1), (3, .int 1), (4, .int 9), (5, .int x5), (6, .int x6), (7, .int x7), (8, .int x8), (9, .int x9), (10, .int x10)] rfl (hE _ _ _ _ _  hR)
    · rw [if_neg c2] at hR
      have hs := cnt_stepL (B := 10) (i := x10) (b := 9) (by omega) (by decide) (by decide) c2
      have hs2 := i32_add1 (i := x10) (by omega)
      refine j_aload_n C dX6_quietestBy_35 36 rfl rfl 0 rfl ?_
      refine j_get C dX6_quietestBy_36 39 rfl hiX6 0 rfl rfl 0 (by decide) rfl kX6_quietestBy__bt_f7 rfl ?_
      refine j_iload C dX6_quietestBy_39 41 rfl 6 rfl ?_
      refine j_iload C dX6_quietestBy_41 43 rfl 10 rfl ?_
      refine j_iast C dX6_quietestBy_43 44 rfl 1 rfl (ha) (x6).toNatClampNeg rfl (wM τ a (upd ss (x6).toNatClampNeg x10) mhd mas mbf mih mtp mtn mtk mfr mtt mvl miw mld mrw mrn mso msz mnu mhw mhh mhm mbo mrr mak man maa mip) rfl ?_
      refine j_aload_n C dX6_quietestBy_44 45 rfl rfl 0 rfl ?_
      refine j_iload C dX6_quietestBy_45 47 rfl 5 rfl ?_
      refine j_iconst (v := 0) C dX6_quietestBy_47 48 rfl (by decide) ?_
      refine j_cv0I (na := 2) C dX6_quietestBy_48 51 rfl (c_X6_lengthBy τ a (upd ss (x6).toNatClampNeg x10) mhd mas mbf mih mtp mtn mtk mfr mtt mvl miw mld mrw mrn mso msz mnu mhw mhh mhm mbo mrr mak man maa mip x5 (0 : Int32) (hq _ _ (nz1 h0) hok) hx) gX6_quietestBy_X6_lengthBy rfl rfl rfl qd_X6_lengthBy rfl ⟨by decide, by decide⟩ ⟨by decide, by decide⟩ rfl (Nat.le_of_ble_eq_true rfl) rfl 6 0 rfl rfl (fun r3 u3 hX3 hn3 => ?_)
      obtain ⟨ss_3, mas_3⟩ := u3
      rw [hX3] at hR; rw [pr3_mk r3 ss_3 mas_3] at hR
      have hok3 : okS ss_3 := ok_lengthBy (hq _ _ (nz1 h0) hok) hX3
      refine j_istore C dX6_quietestBy_51 53 rfl (by decide) [(11, .int r3), (0, .ref (a 0)), (1, .int x1), (2, .int 1), (3, .int 1), (4, .int 9), (5, .int x5), (6, .int x6), (7, .int x7), (8, .int x8), (9, .int x9), (10, .int x10)] rfl ?_
      refine j_iload C dX6_quietestBy_53 55 rfl 0 rfl ?_
      refine j_iload C dX6_quietestBy_55 57 rfl 10 rfl ?_
      have J57 : ∀ (j57_0 : Int32), Φ (l_X6_quietestBy__bt_28 x5 x6 N j57_0 (f_X6_greatest x9 r3) (x10 + 1) ss_3 mas_3) → J τ κ 0 0 (wM τ a ss_3 mhd mas_3 mbf mih mtp mtn mtk mfr mtt mvl miw mld mrw mrn mso msz mnu mhw mhh mhm mbo mrr mak man maa mip) [(0, .ref (a 0)), (1, .int x1), (2, .int 1), (3, .int 1), (4, .int 9), (5, .int x5), (6, .int x6), (7, .int x7), (8, .int x8), (9, .int x9), (10, .int x10), (11, .int r3)] 67 [.int j57_0] := by
        intro j57_0  hR
        refine j_istore C dX6_quietestBy_67 69 rfl (by decide) [(8, .int j57_0), (0, .ref (a 0)), (1, .int x1), (2, .int 1), (3, .int 1), (4, .int 9), (5, .int x5), (6, .int x6), (7, .int x7), (9, .int x9), (10, .int x10), (11, .int r3)] rfl ?_
        refine j_iload C dX6_quietestBy_69 71 rfl 9 rfl ?_
        refine j_iload C dX6_quietestBy_71 73 rfl 11 rfl ?_
        refine j_cs0I (na := 2) C dX6_quietestBy_73 76 rfl (c_X6_greatest τ  x9 r3 ) rfl ggX6_quietestBy_X6_greatest rfl rfl rfl kX6_quietestBy__bt_iRX6 kX6_quietestBy__bt_m195 kX6_quietestBy__bt_sX6_greatest qd_X6_greatest rfl ⟨by decide, by decide⟩ ⟨by decide, by decide⟩ rfl (Nat.le_of_ble_eq_true rfl) (fun r5 u5 hX5 hn5 => ?_)
        obtain rfl := (Prod.mk.inj hX5).1
        refine j_istore C dX6_quietestBy_76 78 rfl (by decide) [(9, .int (f_X6_greatest x9 r3)), (8, .int j57_0), (0, .ref (a 0)), (1, .int x1), (2, .int 1), (3, .int 1), (4, .int 9), (5, .int x5), (6, .int x6), (7, .int x7), (10, .int x10), (11, .int r3)] rfl ?_
        refine j_iinc (v := (x10 + 1)) C dX6_quietestBy_78 81 rfl 10 rfl rfl (by decide) [(10, .int (x10 + 1)), (9, .int (f_X6_greatest x9 r3)), (8, .int j57_0), (0, .ref (a 0)), (1, .int x1), (2, .int 1), (3, .int 1), (4, .int 9), (5, .int x5), (6, .int x6), (7, .int x7), (11, .int r3)] rfl ?_
        refine j_goto C dX6_quietestBy_81 28 rfl ?_
        exact j_lv [3, 4, 5, 6, 7, 8, 9, 10, 2, 1, 0] [(0, .ref (a 0)), (1, .int x1), (2, .int 1), (3, .int 1), (4, .int 9), (5, .int x5), (6, .int x6), (7, .int x7), (8, .int j57_0), (9, .int (f_X6_greatest x9 r3)), (10, .int (x10 + 1))] rfl (ih _ _ _ _ _ (by have := hs.2.2.1; omega) (by omega) hs.2.1 (by assumption) hR)
      refine j_icmp_le C dX6_quietestBy_57 65 rfl 60 rfl (fun c4 => ?_) (fun c4 => ?_)
      · rw [if_pos c4] at hR
        refine j_iload C dX6_quietestBy_65 67 rfl 9 rfl ?_
        rw [pr1_mk x8] at hR
        exact j_lv [1, 2, 3, 4, 5, 6, 7, 8, 9, 10, 11, 0] [(0, .ref (a 0)), (1, .int x1), (2, .int 1), (3, .int 1), (4, .int 9), (5, .int x5), (6, .int x6), (7, .int x7), (8, .int x8), (9, .int x9), (10, .int x10), (11, .int r3)] rfl (J57 _  hR)
      · rw [if_neg c4] at hR
        refine j_iload C dX6_quietestBy_60 62 rfl 11 rfl ?_
        refine j_goto C dX6_quietestBy_62 67 rfl ?_
        rw [pr1_mk x10] at hR
        exact j_lv [1, 2, 3, 4, 5, 6, 7, 8, 9, 10, 11, 0] [(0, .ref (a 0)), (1, .int x1), (2, .int 1), (3, .int 1), (4, .int 9), (5, .int x5), (6, .int x6), (7, .int x7), (8, .int x8), (9, .int x9), (10, .int x10), (11, .int r3)] rfl (J57 _  hR)
set_option maxHeartbeats 4000000 in
set_option maxRecDepth 100000 in
theorem c_X6_quietestBy__bt (τ : SX) (a : Nat → Nat) (ss : Nat → Int32) (mhd : Nat → Int32) (mas : Nat → Int32) (mbf : Nat → Int32) (mih : Int32) (mtp : Nat → Int32) (mtn : Int32) (mtk : Int32) (mfr : Int32) (mtt : Int32) (mvl : Int32) (miw : Int32) (mld : Nat → Int32) (mrw : Nat → Int32) (mrn : Int32) (mso : Nat → Int32) (msz : Nat → Int32) (mnu : Nat → Int32) (mhw : Nat → Int32) (mhh : Nat → Int32) (mhm : Nat → Int32) (mbo : Nat → Int32) (mrr : Int32) (mak : Int32) (man : Int32) (maa : Int32) (mip : Int32) (x1 : Int32) (x5 : Int32) (hok : okS ss) (hv : vp_in x1 8) (hx : x5.toInt ≤ 60) (sz : Nat) : McI τ yX6_quietestBy wsX6_quietestBy rmX6_quietestBy__bt .int [.ref (a 0), .int x1, .int 1, .int 1, .int 9, .int x5] (wM τ a ss mhd mas mbf mih mtp mtn mtk mfr mtt mvl miw mld mrw mrn mso msz mnu mhw mhh mhm mbo mrr mak man maa mip) (fun u : (Nat → Int32) × (Nat → Int32) => (wM τ a u.1 mhd u.2 mbf mih mtp mtn mtk mfr mtt mvl miw mld mrw mrn mso msz mnu mhw mhh mhm mbo mrr mak man maa mip)) (f_X6_quietestBy__bt ss mas x1 x5) sz := by
  refine mc_I (cc := cX6_quietestBy) (own := RX6) [(0, .ref (a 0)), (1, .int x1), (2, .int 1), (3, .int 1), (4, .int 9), (5, .int x5)] rfl (by decide) rfl rfl (Nat.le_of_ble_eq_true rfl) (fun κ C hR => ?_)
  have hiX6 : ∀ w ∈ wsX60, w ∈ wsX6_quietestBy := fun w h => List.mem_cons_of_mem _ (List.mem_append_right _ h)
  unfold f_X6_quietestBy__bt at hR
  refine j_bipush (v := 10) C dX6_quietestBy_0 2 rfl (by decide) ?_
  refine j_iconst (v := 5) C dX6_quietestBy_2 3 rfl (by decide) ?_
  refine j_iload_n C dX6_quietestBy_3 4 rfl rfl 1 rfl ?_
  refine j_imul C dX6_quietestBy_4 5 rfl ?_
  refine j_iadd C dX6_quietestBy_5 6 rfl ?_
  refine j_iload_n C dX6_quietestBy_6 7 rfl rfl 2 rfl ?_
  refine j_iadd C dX6_quietestBy_7 8 rfl ?_
  refine j_istore C dX6_quietestBy_8 10 rfl (by decide) [(6, .int (((10 : Int32) + ((5 : Int32) * x1)) + 1)), (0, .ref (a 0)), (1, .int x1), (2, .int 1), (3, .int 1), (4, .int 9), (5, .int x5)] rfl ?_
  refine j_aload_n C dX6_quietestBy_10 11 rfl rfl 1 rfl ?_
  refine j_get C dX6_quietestBy_11 14 rfl hiX6 0 rfl rfl 0 (by decide) rfl kX6_quietestBy__bt_f7 rfl ?_
  refine j_iload C dX6_quietestBy_14 16 rfl 0 rfl ?_
  refine j_iald C dX6_quietestBy_16 17 rfl 1 rfl (its_in (o := x1) (w := 1) hv (by decide)) ((((10 : Int32) + ((5 : Int32) * x1)) + 1)).toNatClampNeg rfl ?_
  refine j_istore C dX6_quietestBy_17 19 rfl (by decide) [(7, .int (ss ((((10 : Int32) + ((5 : Int32) * x1)) + 1)).toNatClampNeg)), (6, .int (((10 : Int32) + ((5 : Int32) * x1)) + 1)), (0, .ref (a 0)), (1, .int x1), (2, .int 1), (3, .int 1), (4, .int 9), (5, .int x5)] rfl ?_
  refine j_iload_n C dX6_quietestBy_19 20 rfl rfl 5 rfl ?_
  refine j_istore C dX6_quietestBy_20 22 rfl (by decide) [(8, .int 1), (7, .int (ss ((((10 : Int32) + ((5 : Int32) * x1)) + 1)).toNatClampNeg)), (6, .int (((10 : Int32) + ((5 : Int32) * x1)) + 1)), (0, .ref (a 0)), (1, .int x1), (2, .int 1), (3, .int 1), (4, .int 9), (5, .int x5)] rfl ?_
  refine j_iconst (v := (-1)) C dX6_quietestBy_22 23 rfl (by decide) ?_
  refine j_istore C dX6_quietestBy_23 25 rfl (by decide) [(9, .int (-1)), (8, .int 1), (7, .int (ss ((((10 : Int32) + ((5 : Int32) * x1)) + 1)).toNatClampNeg)), (6, .int (((10 : Int32) + ((5 : Int32) * x1)) + 1)), (0, .ref (a 0)), (1, .int x1), (2, .int 1), (3, .int 1), (4, .int 9), (5, .int x5)] rfl ?_
  refine j_iload_n C dX6_quietestBy_25 26 rfl rfl 7 rfl ?_
  refine j_istore C dX6_quietestBy_26 28 rfl (by decide) [(10, .int 1), (9, .int (-1)), (8, .int 1), (7, .int (ss ((((10 : Int32) + ((5 : Int32) * x1)) + 1)).toNatClampNeg)), (6, .int (((10 : Int32) + ((5 : Int32) * x1)) + 1)), (0, .ref (a 0)), (1, .int x1), (2, .int 1), (3, .int 1), (4, .int 9), (5, .int x5)] rfl ?_
  refine j_lv [5, 6, 7, 8, 9, 10, 4, 3, 2, 1, 0] [(0, .ref (a 0)), (1, .int x1), (2, .int 1), (3, .int 1), (4, .int 9), (5, .int x5), (6, .int (((10 : Int32) + ((5 : Int32) * x1)) + 1)), (7, .int (ss ((((10 : Int32) + ((5 : Int32) * x1)) + 1)).toNatClampNeg)), (8, .int 1), (9, .int (-1)), (10, .int 1)] rfl (L_X6_quietestBy__bt_28 C a mhd mbf mih mtp mtn mtk mfr mtt mvl miw mld mrw mrn mso msz mnu mhw mhh mhm mbo mrr mak man maa mip x1 x5 (((10 : Int32) + ((5 : Int32) * x1)) + 1) (ss ((((10 : Int32) + ((5 : Int32) * x1)) + 1)).toNatClampNeg) hv hx (its_in (o := x1) (w := 1) hv (by decide)) (fun s v hz h => okS_b (o := x1) h hv hz) (fun (o : Int32 × Int32 × Int32 × (Nat → Int32) × (Nat → Int32)) => Rt τ κ cX6_quietestBy .int (fun u : (Nat → Int32) × (Nat → Int32) => (wM τ a u.1 mhd u.2 mbf mih mtp mtn mtk mfr mtt mvl miw mld mrw mrn mso msz mnu mhw mhh mhm mbo mrr mak man maa mip)) (pr5 o (fun x8_1 x9_1 x10_1 ss_1 mas_1 => (x8_1, (upd ss_1 ((((10 : Int32) + ((5 : Int32) * x1)) + 1)).toNatClampNeg (ss ((((10 : Int32) + ((5 : Int32) * x1)) + 1)).toNatClampNeg)), mas_1)))) (fun x8_1 x9_1 x10_1 ss_1 mas_1  hR => ?_) 300 (1 : Int32) ((-1) : Int32) (1 : Int32) ss mas (by decide) (by decide) (by decide) (by assumption) hR)
  rw [pr5_mk x8_1 x9_1 x10_1 ss_1 mas_1] at hR
  refine j_aload_n C dX6_quietestBy_84 85 rfl rfl 0 rfl ?_
  refine j_get C dX6_quietestBy_85 88 rfl hiX6 0 rfl rfl 0 (by decide) rfl kX6_quietestBy__bt_f7 rfl ?_
  refine j_iload C dX6_quietestBy_88 90 rfl 6 rfl ?_
  refine j_iload C dX6_quietestBy_90 92 rfl 7 rfl ?_
  refine j_iast C dX6_quietestBy_92 93 rfl 1 rfl (its_in (o := x1) (w := 1) hv (by decide)) ((((10 : Int32) + ((5 : Int32) * x1)) + 1)).toNatClampNeg rfl (wM τ a (upd ss_1 ((((10 : Int32) + ((5 : Int32) * x1)) + 1)).toNatClampNeg (ss ((((10 : Int32) + ((5 : Int32) * x1)) + 1)).toNatClampNeg)) mhd mas_1 mbf mih mtp mtn mtk mfr mtt mvl miw mld mrw mrn mso msz mnu mhw mhh mhm mbo mrr mak man maa mip) rfl ?_
  refine j_iload C dX6_quietestBy_93 95 rfl 8 rfl ?_
  exact Rt.ret (hR) rfl dX6_quietestBy_95

-- X6_phaseFor
def f_X6_phaseFor (ss : Nat → Int32) (mas : Nat → Int32) (x1 : Int32) (x2 : Int32) : Int32 × (Nat → Int32) × (Nat → Int32) := if ((f_X6_isOne ss x1) = 0) then (((-1) : Int32), ss, mas) else (if ((f_X6_isLong x2) = 0) then (((-1) : Int32), ss, mas) else (pr3 (f_X6_quietestBy__ph ss mas x1 x2) (fun r5 ss_5 mas_5 => (r5, ss_5, mas_5))))
theorem kX6_phaseFor_iRX6 : Cond.initialized yX6_isLong.cls ∈ wsX6_phaseFor := by decide +kernel
theorem kX6_phaseFor_sX6_isLong : Cond.static yX6_isLong ∈ wsX6_phaseFor := by decide +kernel
theorem kX6_phaseFor_m219 : Cond.methodLink RX6 219 yX6_isLong ∈ wsX6_phaseFor := by decide +kernel
theorem qd_X6_phaseFor : yX6_phaseFor.cls = RX6 ∧ yX6_phaseFor.cls ≠ "java/lang/invoke/MethodHandle" ∧ yX6_phaseFor.cls ≠ "java/lang/invoke/VarHandle" ∧ (parseMethodDescriptor yX6_phaseFor.desc).map (fun d => d.parameters.length) = some 2 := by decide +kernel
abbrev rmX6_phaseFor : Room := { frames := 7, cells := 0, slots := 0, locals := 168 }
set_option maxHeartbeats 4000000 in
set_option maxRecDepth 100000 in
theorem c_X6_phaseFor (τ : SX) (a : Nat → Nat) (ss : Nat → Int32) (mhd : Nat → Int32) (mas : Nat → Int32) (mbf : Nat → Int32) (mih : Int32) (mtp : Nat → Int32) (mtn : Int32) (mtk : Int32) (mfr : Int32) (mtt : Int32) (mvl : Int32) (miw : Int32) (mld : Nat → Int32) (mrw : Nat → Int32) (mrn : Int32) (mso : Nat → Int32) (msz : Nat → Int32) (mnu : Nat → Int32) (mhw : Nat → Int32) (mhh : Nat → Int32) (mhm : Nat → Int32) (mbo : Nat → Int32) (mrr : Int32) (mak : Int32) (man : Int32) (maa : Int32) (mip : Int32) (x1 : Int32) (x2 : Int32) (hok : okS ss) (sz : Nat) : McI τ yX6_phaseFor wsX6_phaseFor rmX6_phaseFor .int [.ref (a 0), .int x1, .int x2] (wM τ a ss mhd mas mbf mih mtp mtn mtk mfr mtt mvl miw mld mrw mrn mso msz mnu mhw mhh mhm mbo mrr mak man maa mip) (fun u : (Nat → Int32) × (Nat → Int32) => (wM τ a u.1 mhd u.2 mbf mih mtp mtn mtk mfr mtt mvl miw mld mrw mrn mso msz mnu mhw mhh mhm mbo mrr mak man maa mip)) (f_X6_phaseFor ss mas x1 x2) sz := by
  refine mc_I (cc := cX6_phaseFor) (own := RX6) [(0, .ref (a 0)), (1, .int x1), (2, .int x2)] rfl (by decide) rfl rfl (Nat.le_of_ble_eq_true rfl) (fun κ C hR => ?_)
  have hiX6 : ∀ w ∈ wsX60, w ∈ wsX6_phaseFor := fun w h => List.mem_cons_of_mem _ (List.mem_append_right _ h)
  unfold f_X6_phaseFor at hR
  refine j_aload_n C dX6_phaseFor_0 1 rfl rfl 0 rfl ?_
  refine j_iload_n C dX6_phaseFor_1 2 rfl rfl 1 rfl ?_
  refine j_cv0I (na := 1) C dX6_phaseFor_2 5 rfl (c_X6_isOne τ a ss mhd mas mbf mih mtp mtn mtk mfr mtt mvl miw mld mrw mrn mso msz mnu mhw mhh mhm mbo mrr mak man maa mip x1 (by first | assumption | (unfold vp_in; decide) | decide)) gX6_phaseFor_X6_isOne rfl rfl rfl qd_X6_isOne rfl ⟨by decide, by decide⟩ ⟨by decide, by decide⟩ rfl (Nat.le_of_ble_eq_true rfl) rfl 6 0 rfl rfl (fun r1 u1 hX1 hn1 => ?_)
  obtain rfl := (Prod.mk.inj hX1).1
  refine j_if_eq C dX6_phaseFor_5 28 rfl 8 rfl (fun c2 => ?_) (fun c2 => ?_)
  · rw [if_pos c2] at hR
    refine j_iconst (v := (-1)) C dX6_phaseFor_28 29 rfl (by decide) ?_
    exact Rt.ret (hR) rfl dX6_phaseFor_29
  · rw [if_neg c2] at hR
    refine j_iload_n C dX6_phaseFor_8 9 rfl rfl 2 rfl ?_
    refine j_cs0I (na := 1) C dX6_phaseFor_9 12 rfl (c_X6_isLong τ  x2 ) rfl ggX6_phaseFor_X6_isLong rfl rfl rfl kX6_phaseFor_iRX6 kX6_phaseFor_m219 kX6_phaseFor_sX6_isLong qd_X6_isLong rfl ⟨by decide, by decide⟩ ⟨by decide, by decide⟩ rfl (Nat.le_of_ble_eq_true rfl) (fun r3 u3 hX3 hn3 => ?_)
    obtain rfl := (Prod.mk.inj hX3).1
    refine j_if_eq C dX6_phaseFor_12 28 rfl 15 rfl (fun c4 => ?_) (fun c4 => ?_)
    · rw [if_pos c4] at hR
      refine j_iconst (v := (-1)) C dX6_phaseFor_28 29 rfl (by decide) ?_
      exact Rt.ret (hR) rfl dX6_phaseFor_29
    · rw [if_neg c4] at hR
      refine j_aload_n C dX6_phaseFor_15 16 rfl rfl 0 rfl ?_
      refine j_iload_n C dX6_phaseFor_16 17 rfl rfl 1 rfl ?_
      refine j_iconst (v := 2) C dX6_phaseFor_17 18 rfl (by decide) ?_
      refine j_iconst (v := 0) C dX6_phaseFor_18 19 rfl (by decide) ?_
      refine j_bipush (v := 8) C dX6_phaseFor_19 21 rfl (by decide) ?_
      refine j_iload_n C dX6_phaseFor_21 22 rfl rfl 2 rfl ?_
      refine j_cv0I (na := 5) C dX6_phaseFor_22 25 rfl (c_X6_quietestBy__ph τ a ss mhd mas mbf mih mtp mtn mtk mfr mtt mvl miw mld mrw mrn mso msz mnu mhw mhh mhm mbo mrr mak man maa mip x1 x2 hok (m_one c2 hok) (m_long c4)) gX6_phaseFor_X6_quietestBy rfl rfl rfl qd_X6_quietestBy__ph rfl ⟨by decide, by decide⟩ ⟨by decide, by decide⟩ rfl (Nat.le_of_ble_eq_true rfl) rfl 6 0 rfl rfl (fun r5 u5 hX5 hn5 => ?_)
      obtain ⟨ss_5, mas_5⟩ := u5
      rw [hX5] at hR; rw [pr3_mk r5 ss_5 mas_5] at hR
      refine j_goto C dX6_phaseFor_25 29 rfl ?_
      exact Rt.ret (hR) rfl dX6_phaseFor_29

-- X6_beatFor
def f_X6_beatFor (ss : Nat → Int32) (mas : Nat → Int32) (x1 : Int32) (x2 : Int32) : Int32 × (Nat → Int32) × (Nat → Int32) := if ((f_X6_isOne ss x1) = 0) then (((-1) : Int32), ss, mas) else (if ((f_X6_isLong x2) = 0) then (((-1) : Int32), ss, mas) else (pr3 (f_X6_quietestBy__bt ss mas x1 x2) (fun r5 ss_5 mas_5 => (r5, ss_5, mas_5))))
theorem kX6_beatFor_iRX6 : Cond.initialized yX6_isLong.cls ∈ wsX6_beatFor := by decide +kernel
theorem kX6_beatFor_sX6_isLong : Cond.static yX6_isLong ∈ wsX6_beatFor := by decide +kernel
theorem kX6_beatFor_m219 : Cond.methodLink RX6 219 yX6_isLong ∈ wsX6_beatFor := by decide +kernel
theorem qd_X6_beatFor : yX6_beatFor.cls = RX6 ∧ yX6_beatFor.cls ≠ "java/lang/invoke/MethodHandle" ∧ yX6_beatFor.cls ≠ "java/lang/invoke/VarHandle" ∧ (parseMethodDescriptor yX6_beatFor.desc).map (fun d => d.parameters.length) = some 2 := by decide +kernel
abbrev rmX6_beatFor : Room := { frames := 7, cells := 0, slots := 0, locals := 168 }
set_option maxHeartbeats 4000000 in
set_option maxRecDepth 100000 in
theorem c_X6_beatFor (τ : SX) (a : Nat → Nat) (ss : Nat → Int32) (mhd : Nat → Int32) (mas : Nat → Int32) (mbf : Nat → Int32) (mih : Int32) (mtp : Nat → Int32) (mtn : Int32) (mtk : Int32) (mfr : Int32) (mtt : Int32) (mvl : Int32) (miw : Int32) (mld : Nat → Int32) (mrw : Nat → Int32) (mrn : Int32) (mso : Nat → Int32) (msz : Nat → Int32) (mnu : Nat → Int32) (mhw : Nat → Int32) (mhh : Nat → Int32) (mhm : Nat → Int32) (mbo : Nat → Int32) (mrr : Int32) (mak : Int32) (man : Int32) (maa : Int32) (mip : Int32) (x1 : Int32) (x2 : Int32) (hok : okS ss) (sz : Nat) : McI τ yX6_beatFor wsX6_beatFor rmX6_beatFor .int [.ref (a 0), .int x1, .int x2] (wM τ a ss mhd mas mbf mih mtp mtn mtk mfr mtt mvl miw mld mrw mrn mso msz mnu mhw mhh mhm mbo mrr mak man maa mip) (fun u : (Nat → Int32) × (Nat → Int32) => (wM τ a u.1 mhd u.2 mbf mih mtp mtn mtk mfr mtt mvl miw mld mrw mrn mso msz mnu mhw mhh mhm mbo mrr mak man maa mip)) (f_X6_beatFor ss mas x1 x2) sz := by
  refine mc_I (cc := cX6_beatFor) (own := RX6) [(0, .ref (a 0)), (1, .int x1), (2, .int x2)] rfl (by decide) rfl rfl (Nat.le_of_ble_eq_true rfl) (fun κ C hR => ?_)
  have hiX6 : ∀ w ∈ wsX60, w ∈ wsX6_beatFor := fun w h => List.mem_cons_of_mem _ (List.mem_append_right _ h)
  unfold f_X6_beatFor at hR
  refine j_aload_n C dX6_beatFor_0 1 rfl rfl 0 rfl ?_
  refine j_iload_n C dX6_beatFor_1 2 rfl rfl 1 rfl ?_
  refine j_cv0I (na := 1) C dX6_beatFor_2 5 rfl (c_X6_isOne τ a ss mhd mas mbf mih mtp mtn mtk mfr mtt mvl miw mld mrw mrn mso msz mnu mhw mhh mhm mbo mrr mak man maa mip x1 (by first | assumption | (unfold vp_in; decide) | decide)) gX6_beatFor_X6_isOne rfl rfl rfl qd_X6_isOne rfl ⟨by decide, by decide⟩ ⟨by decide, by decide⟩ rfl (Nat.le_of_ble_eq_true rfl) rfl 6 0 rfl rfl (fun r1 u1 hX1 hn1 => ?_)
  obtain rfl := (Prod.mk.inj hX1).1
  refine j_if_eq C dX6_beatFor_5 28 rfl 8 rfl (fun c2 => ?_) (fun c2 => ?_)
  · rw [if_pos c2] at hR
    refine j_iconst (v := (-1)) C dX6_beatFor_28 29 rfl (by decide) ?_
    exact Rt.ret (hR) rfl dX6_beatFor_29
  · rw [if_neg c2] at hR
    refine j_iload_n C dX6_beatFor_8 9 rfl rfl 2 rfl ?_
    refine j_cs0I (na := 1) C dX6_beatFor_9 12 rfl (c_X6_isLong τ  x2 ) rfl ggX6_beatFor_X6_isLong rfl rfl rfl kX6_beatFor_iRX6 kX6_beatFor_m219 kX6_beatFor_sX6_isLong qd_X6_isLong rfl ⟨by decide, by decide⟩ ⟨by decide, by decide⟩ rfl (Nat.le_of_ble_eq_true rfl) (fun r3 u3 hX3 hn3 => ?_)
    obtain rfl := (Prod.mk.inj hX3).1
    refine j_if_eq C dX6_beatFor_12 28 rfl 15 rfl (fun c4 => ?_) (fun c4 => ?_)
    · rw [if_pos c4] at hR
      refine j_iconst (v := (-1)) C dX6_beatFor_28 29 rfl (by decide) ?_
      exact Rt.ret (hR) rfl dX6_beatFor_29
    · rw [if_neg c4] at hR
      refine j_aload_n C dX6_beatFor_15 16 rfl rfl 0 rfl ?_
      refine j_iload_n C dX6_beatFor_16 17 rfl rfl 1 rfl ?_
      refine j_iconst (v := 1) C dX6_beatFor_17 18 rfl (by decide) ?_
      refine j_iconst (v := 1) C dX6_beatFor_18 19 rfl (by decide) ?_
      refine j_bipush (v := 9) C dX6_beatFor_19 21 rfl (by decide) ?_
      refine j_iload_n C dX6_beatFor_21 22 rfl rfl 2 rfl ?_
      refine j_cv0I (na := 5) C dX6_beatFor_22 25 rfl (c_X6_quietestBy__bt τ a ss mhd mas mbf mih mtp mtn mtk mfr mtt mvl miw mld mrw mrn mso msz mnu mhw mhh mhm mbo mrr mak man maa mip x1 x2 hok (m_one c2 hok) (m_long c4)) gX6_beatFor_X6_quietestBy rfl rfl rfl qd_X6_quietestBy__bt rfl ⟨by decide, by decide⟩ ⟨by decide, by decide⟩ rfl (Nat.le_of_ble_eq_true rfl) rfl 6 0 rfl rfl (fun r5 u5 hX5 hn5 => ?_)
      obtain ⟨ss_5, mas_5⟩ := u5
      rw [hX5] at hR; rw [pr3_mk r5 ss_5 mas_5] at hR
      refine j_goto C dX6_beatFor_25 29 rfl ?_
      exact Rt.ret (hR) rfl dX6_beatFor_29

-- X6_kindFor
def f_X6_kindFor (ss : Nat → Int32) (mas : Nat → Int32) (x1 : Int32) (x2 : Int32) : Int32 × (Nat → Int32) × (Nat → Int32) := if ((f_X6_isOne ss x1) = 0) then (((-1) : Int32), ss, mas) else (if ((f_X6_isLong x2) = 0) then (((-1) : Int32), ss, mas) else (pr3 (f_X6_quietestBy__kd ss mas x1 x2) (fun r5 ss_5 mas_5 => (r5, ss_5, mas_5))))
theorem kX6_kindFor_iRX6 : Cond.initialized yX6_isLong.cls ∈ wsX6_kindFor := by decide +kernel
theorem kX6_kindFor_sX6_isLong : Cond.static yX6_isLong ∈ wsX6_kindFor := by decide +kernel
theorem kX6_kindFor_m219 : Cond.methodLink RX6 219 yX6_isLong ∈ wsX6_kindFor := by decide +kernel
theorem qd_X6_kindFor : yX6_kindFor.cls = RX6 ∧ yX6_kindFor.cls ≠ "java/lang/invoke/MethodHandle" ∧ yX6_kindFor.cls ≠ "java/lang/invoke/VarHandle" ∧ (parseMethodDescriptor yX6_kindFor.desc).map (fun d => d.parameters.length) = some 2 := by decide +kernel
abbrev rmX6_kindFor : Room := { frames := 7, cells := 0, slots := 0, locals := 168 }
set_option maxHeartbeats 4000000 in
set_option maxRecDepth 100000 in
theorem c_X6_kindFor (τ : SX) (a : Nat → Nat) (ss : Nat → Int32) (mhd : Nat → Int32) (mas : Nat → Int32) (mbf : Nat → Int32) (mih : Int32) (mtp : Nat → Int32) (mtn : Int32) (mtk : Int32) (mfr : Int32) (mtt : Int32) (mvl : Int32) (miw : Int32) (mld : Nat → Int32) (mrw : Nat → Int32) (mrn : Int32) (mso : Nat → Int32) (msz : Nat → Int32) (mnu : Nat → Int32) (mhw : Nat → Int32) (mhh : Nat → Int32) (mhm : Nat → Int32) (mbo : Nat → Int32) (mrr : Int32) (mak : Int32) (man : Int32) (maa : Int32) (mip : Int32) (x1 : Int32) (x2 : Int32) (hok : okS ss) (sz : Nat) : McI τ yX6_kindFor wsX6_kindFor rmX6_kindFor .int [.ref (a 0), .int x1, .int x2] (wM τ a ss mhd mas mbf mih mtp mtn mtk mfr mtt mvl miw mld mrw mrn mso msz mnu mhw mhh mhm mbo mrr mak man maa mip) (fun u : (Nat → Int32) × (Nat → Int32) => (wM τ a u.1 mhd u.2 mbf mih mtp mtn mtk mfr mtt mvl miw mld mrw mrn mso msz mnu mhw mhh mhm mbo mrr mak man maa mip)) (f_X6_kindFor ss mas x1 x2) sz := by
  refine mc_I (cc := cX6_kindFor) (own := RX6) [(0, .ref (a 0)), (1, .int x1), (2, .int x2)] rfl (by decide) rfl rfl (Nat.le_of_ble_eq_true rfl) (fun κ C hR => ?_)
  have hiX6 : ∀ w ∈ wsX60, w ∈ wsX6_kindFor := fun w h => List.mem_cons_of_mem _ (List.mem_append_right _ h)
  unfold f_X6_kindFor at hR
  refine j_aload_n C dX6_kindFor_0 1 rfl rfl 0 rfl ?_
  refine j_iload_n C dX6_kindFor_1 2 rfl rfl 1 rfl ?_
  refine j_cv0I (na := 1) C dX6_kindFor_2 5 rfl (c_X6_isOne τ a ss mhd mas mbf mih mtp mtn mtk mfr mtt mvl miw mld mrw mrn mso msz mnu mhw mhh mhm mbo mrr mak man maa mip x1 (by first | assumption | (unfold vp_in; decide) | decide)) gX6_kindFor_X6_isOne rfl rfl rfl qd_X6_isOne rfl ⟨by decide, by decide⟩ ⟨by decide, by decide⟩ rfl (Nat.le_of_ble_eq_true rfl) rfl 6 0 rfl rfl (fun r1 u1 hX1 hn1 => ?_)
  obtain rfl := (Prod.mk.inj hX1).1
  refine j_if_eq C dX6_kindFor_5 27 rfl 8 rfl (fun c2 => ?_) (fun c2 => ?_)
  · rw [if_pos c2] at hR
    refine j_iconst (v := (-1)) C dX6_kindFor_27 28 rfl (by decide) ?_
    exact Rt.ret (hR) rfl dX6_kindFor_28
  · rw [if_neg c2] at hR
    refine j_iload_n C dX6_kindFor_8 9 rfl rfl 2 rfl ?_
    refine j_cs0I (na := 1) C dX6_kindFor_9 12 rfl (c_X6_isLong τ  x2 ) rfl ggX6_kindFor_X6_isLong rfl rfl rfl kX6_kindFor_iRX6 kX6_kindFor_m219 kX6_kindFor_sX6_isLong qd_X6_isLong rfl ⟨by decide, by decide⟩ ⟨by decide, by decide⟩ rfl (Nat.le_of_ble_eq_true rfl) (fun r3 u3 hX3 hn3 => ?_)
    obtain rfl := (Prod.mk.inj hX3).1
    refine j_if_eq C dX6_kindFor_12 27 rfl 15 rfl (fun c4 => ?_) (fun c4 => ?_)
    · rw [if_pos c4] at hR
      refine j_iconst (v := (-1)) C dX6_kindFor_27 28 rfl (by decide) ?_
      exact Rt.ret (hR) rfl dX6_kindFor_28
    · rw [if_neg c4] at hR
      refine j_aload_n C dX6_kindFor_15 16 rfl rfl 0 rfl ?_
      refine j_iload_n C dX6_kindFor_16 17 rfl rfl 1 rfl ?_
      refine j_iconst (v := 0) C dX6_kindFor_17 18 rfl (by decide) ?_
      refine j_iconst (v := 0) C dX6_kindFor_18 19 rfl (by decide) ?_
      refine j_iconst (v := 5) C dX6_kindFor_19 20 rfl (by decide) ?_
      refine j_iload_n C dX6_kindFor_20 21 rfl rfl 2 rfl ?_
      refine j_cv0I (na := 5) C dX6_kindFor_21 24 rfl (c_X6_quietestBy__kd τ a ss mhd mas mbf mih mtp mtn mtk mfr mtt mvl miw mld mrw mrn mso msz mnu mhw mhh mhm mbo mrr mak man maa mip x1 x2 hok (m_one c2 hok) (m_long c4)) gX6_kindFor_X6_quietestBy rfl rfl rfl qd_X6_quietestBy__kd rfl ⟨by decide, by decide⟩ ⟨by decide, by decide⟩ rfl (Nat.le_of_ble_eq_true rfl) rfl 6 0 rfl rfl (fun r5 u5 hX5 hn5 => ?_)
      obtain ⟨ss_5, mas_5⟩ := u5
      rw [hX5] at hR; rw [pr3_mk r5 ss_5 mas_5] at hR
      refine j_goto C dX6_kindFor_24 28 rfl ?_
      exact Rt.ret (hR) rfl dX6_kindFor_28

