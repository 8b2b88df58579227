def TN (n : Int32) : Prop := 0 ≤ n.toInt ∧ n.toInt ≤ 200
def TX (k f t : Int32) : Prop := 0 ≤ f.toInt ∧ f.toInt ≤ t.toInt ∧ t.toInt ≤ 200 ∧ (¬ k = 0 → f.toInt < t.toInt)
theorem TN0 : TN 0 := by unfold TN; decide
theorem TX.f {k f t : Int32} (h : TX k f t) : TN f := ⟨h.1, Int.le_trans h.2.1 h.2.2.1⟩
theorem TX.t {k f t : Int32} (h : TX k f t) : TN t := ⟨Int.le_trans h.1 h.2.1, h.2.2.1⟩
theorem by_in {x n : Int32} (hn : TN n) (h0 : 0 ≤ x.toInt) (c : ¬ n ≤ x) : vp_in x 200 := by
  rw [i32_le] at c
  exact vpI h0 (by have := hn.2; omega)
theorem ad_nn {f i : Int32} (h : TN f) (h0 : 0 ≤ i.toInt) (h1 : i.toInt ≤ 20) : 0 ≤ (f + i).toInt ∧ (f + i).toInt = f.toInt + i.toInt := by
  have e : (f + i).toInt = f.toInt + i.toInt := i32_addE (by have := h.1; omega) (by have := h.2; omega)
  have := h.1
  omega
theorem ad_n2 {f i : Int32} (h : TN f) (h0 : 0 ≤ i.toInt) (h1 : i.toInt ≤ 20) {j : Int32} (j0 : 0 ≤ j.toInt) (j1 : j.toInt ≤ 20) : 0 ≤ (f + i + j).toInt := by
  have e := ad_nn h h0 h1
  have e2 : (f + i + j).toInt = (f + i).toInt + j.toInt := i32_addE (by have := h.1; omega) (by have := h.2; omega)
  omega
theorem sb_nn {f t x : Int32} (hf : TN f) (ht : TN t) (c : t - f = x) (h : 1 ≤ x.toInt) : 0 ≤ (t - 1).toInt := by
  have e : (t - f).toInt = t.toInt - f.toInt := i32_subE (by have := hf.2; have := ht.1; omega) (by have := hf.1; have := ht.2; omega)
  have e2 : (t - 1).toInt = t.toInt - 1 := i32_sub1' ht.1
  rw [c] at e
  have := hf.1
  omega

-- X6_byteAt
def f_X6_byteAt (mtp : Nat → Int32) (mtn : Int32) (x1 : Int32) : Int32 := if (mtn ≤ x1) then ((-1) : Int32) else (mtp (x1).toNatClampNeg)
theorem kX6_byteAt_f61 : Cond.fieldLink RX6 61 "TwoMinutesModel" "taped" "I" ∈ wsX6_byteAt := by decide +kernel
theorem kX6_byteAt_f22 : Cond.fieldLink RX6 22 "TwoMinutesModel" "tape" "[I" ∈ wsX6_byteAt := by decide +kernel
theorem qd_X6_byteAt : yX6_byteAt.cls = RX6 ∧ yX6_byteAt.cls ≠ "java/lang/invoke/MethodHandle" ∧ yX6_byteAt.cls ≠ "java/lang/invoke/VarHandle" ∧ (parseMethodDescriptor yX6_byteAt.desc).map (fun d => d.parameters.length) = some 1 := by decide +kernel
abbrev rmX6_byteAt : Room := { frames := 0, cells := 0, slots := 0, locals := 0 }
set_option maxHeartbeats 4000000 in
set_option maxRecDepth 100000 in
theorem c_X6_byteAt (τ : SX) (a : Nat → Nat) (ss : Nat → Int32) (mhd : Nat → Int32) (mas : Nat → Int32) (mbf : Nat → Int32) (mih : Int32) (mtp : Nat → Int32) (mtn : Int32) (mtk : Int32) (mfr : Int32) (mtt : Int32) (mvl : Int32) (miw : Int32) (mld : Nat → Int32) (mrw : Nat → Int32) (mrn : Int32) (mso : Nat → Int32) (msz : Nat → Int32) (mnu : Nat → Int32) (mhw : Nat → Int32) (mhh : Nat → Int32) (mhm : Nat → Int32) (mbo : Nat → Int32) (mrr : Int32) (mak : Int32) (man : Int32) (maa : Int32) (mip : Int32) (x1 : Int32) (hn : TN mtn) (hx : 0 ≤ x1.toInt) (sz : Nat) : McI τ yX6_byteAt wsX6_byteAt rmX6_byteAt .int [.ref (a 0), .int x1] (wM τ a ss mhd mas mbf mih mtp mtn mtk mfr mtt mvl miw mld mrw mrn mso msz mnu mhw mhh mhm mbo mrr mak man maa mip) (fun _ : Unit => (wM τ a ss mhd mas mbf mih mtp mtn mtk mfr mtt mvl miw mld mrw mrn mso msz mnu mhw mhh mhm mbo mrr mak man maa mip)) (f_X6_byteAt mtp mtn x1, ()) sz := by
  refine mc_I (cc := cX6_byteAt) (own := RX6) [(0, .ref (a 0)), (1, .int x1)] rfl (by decide) rfl rfl (Nat.le_of_ble_eq_true rfl) (fun κ C hR => ?_)
  have hiX6 : ∀ w ∈ wsX60, w ∈ wsX6_byteAt := fun w h => List.mem_cons_of_mem _ (List.mem_append_right _ h)
  unfold f_X6_byteAt at hR
  refine j_iload_n C dX6_byteAt_0 1 rfl rfl 1 rfl ?_
  refine j_aload_n C dX6_byteAt_1 2 rfl rfl 0 rfl ?_
  refine j_get C dX6_byteAt_2 5 rfl hiX6 0 rfl rfl 6 (by decide) rfl kX6_byteAt_f61 rfl ?_
  refine j_icmp_ge C dX6_byteAt_5 17 rfl 8 rfl (fun c1 => ?_) (fun c1 => ?_)
  · rw [if_pos c1] at hR
    refine j_iconst (v := (-1)) C dX6_byteAt_17 18 rfl (by decide) ?_
    exact Rt.ret (hR) rfl dX6_byteAt_18
  · rw [if_neg c1] at hR
    refine j_aload_n C dX6_byteAt_8 9 rfl rfl 0 rfl ?_
    refine j_get C dX6_byteAt_9 12 rfl hiX6 0 rfl rfl 5 (by decide) rfl kX6_byteAt_f22 rfl ?_
    refine j_iload_n C dX6_byteAt_12 13 rfl rfl 1 rfl ?_
    refine j_iald C dX6_byteAt_13 14 rfl 5 rfl (by_in hn hx c1) (x1).toNatClampNeg rfl ?_
    refine j_goto C dX6_byteAt_14 18 rfl ?_
    exact Rt.ret (hR) rfl dX6_byteAt_18

theorem by_lt {p : Nat → Int32} {n x : Int32} (c : ¬ f_X6_byteAt p n x = -1) : x.toInt < n.toInt := by
  unfold f_X6_byteAt at c
  by_cases h : n ≤ x
  · rw [if_pos h] at c; exact absurd rfl c
  · rw [i32_le] at h; omega
theorem by_step {p : Nat → Int32} {n x : Int32} (hn : TN n) (h : TN x) (c : ¬ f_X6_byteAt p n x = -1) : TN (x + 1) ∧ ((201 : Int) - (x + 1).toInt).toNat < ((201 : Int) - x.toInt).toNat ∧ (x + 1).toInt = x.toInt + 1 ∧ x.toInt < 200 := by
  have h1 := by_lt c
  have h2 := hn.2
  have h3 := h.1
  have e := i32_add1 (i := x) (by omega)
  exact ⟨⟨by omega, by omega⟩, by omega, e, by omega⟩
theorem by_sp {p : Nat → Int32} {n x v : Int32} (c : f_X6_byteAt p n x = v) (hv : ¬ v = -1) : ¬ f_X6_byteAt p n x = -1 := by rw [c]; exact hv
theorem by_al {p : Nat → Int32} {n x : Int32} (c : ¬ f_X6_isAlpha (f_X6_byteAt p n x) = 0) : ¬ f_X6_byteAt p n x = -1 := fun e => c (by rw [e]; rfl)
theorem by_dg {p : Nat → Int32} {n x : Int32} (c : ¬ f_X6_isDigit (f_X6_byteAt p n x) = 0) : ¬ f_X6_byteAt p n x = -1 := fun e => c (by rw [e]; rfl)

theorem nt_fuel {x : Int32} (h : TN x) : ((201 : Int) - x.toInt).toNat < 300 := by have := h.1; omega
-- X6_nextToken
def l_X6_nextToken_8 (mtp : Nat → Int32) (mtn : Int32) : Nat → Int32 → Int32
  | 0, mfr => mfr
  | N + 1, mfr => if ((f_X6_byteAt mtp mtn mfr) = 32) then (l_X6_nextToken_8 mtp mtn N (mfr + 1)) else mfr
def l_X6_nextToken_91 (mtp : Nat → Int32) (mtn : Int32) (mtk : Int32) : Nat → Int32 → Int32
  | 0, mtt => mtt
  | N + 1, mtt => if (mtk = 1) then (if ((f_X6_isAlpha (f_X6_byteAt mtp mtn mtt)) = 0) then mtt else (l_X6_nextToken_91 mtp mtn mtk N (mtt + 1))) else mtt
def l_X6_nextToken_126 (mtp : Nat → Int32) (mtn : Int32) (mtk : Int32) : Nat → Int32 → Int32 → Int32 × Int32
  | 0, mtt, mvl => (mtt, mvl)
  | N + 1, mtt, mvl => if (mtk = 2) then (if ((f_X6_isDigit (f_X6_byteAt mtp mtn mtt)) = 0) then (mtt, mvl) else (pr1 (if (mvl ≤ 999) then ((((10 : Int32) * mvl) + (f_X6_byteAt mtp mtn mtt)) - 48) else mvl) (fun j156_0 => l_X6_nextToken_126 mtp mtn mtk N (mtt + 1) j156_0))) else (mtt, mvl)
def f_X6_nextToken (mtp : Nat → Int32) (mtn : Int32) (mtt : Int32) : Int32 × Int32 × Int32 × Int32 := pr1 (l_X6_nextToken_8 mtp mtn 300 mtt) (fun mfr_1 => pr1 (if (0 ≤ (f_X6_byteAt mtp mtn mfr_1)) then (if ((f_X6_isAlpha (f_X6_byteAt mtp mtn mfr_1)) = 0) then (if ((f_X6_isDigit (f_X6_byteAt mtp mtn mfr_1)) = 0) then (3 : Int32) else (2 : Int32)) else (1 : Int32)) else (0 : Int32)) (fun j53_0 => pr1 (l_X6_nextToken_91 mtp mtn j53_0 300 mfr_1) (fun mtt_10 => pr2 (l_X6_nextToken_126 mtp mtn j53_0 300 mtt_10 (0 : Int32)) (fun mtt_15 mvl_15 => pr1 (if (j53_0 ≤ 2) then (0 : Int32) else (1 : Int32)) (fun j211_0 => (j53_0, mfr_1, (mtt_15 + j211_0), mvl_15))))))
theorem kX6_nextToken_f67 : Cond.fieldLink RX6 67 "TwoMinutesModel" "to" "I" ∈ wsX6_nextToken := by decide +kernel
theorem kX6_nextToken_f70 : Cond.fieldLink RX6 70 "TwoMinutesModel" "from" "I" ∈ wsX6_nextToken := by decide +kernel
theorem kX6_nextToken_iRX6 : Cond.initialized yX6_isDigit.cls ∈ wsX6_nextToken := by decide +kernel
theorem kX6_nextToken_sX6_isAlpha : Cond.static yX6_isAlpha ∈ wsX6_nextToken := by decide +kernel
theorem kX6_nextToken_m77 : Cond.methodLink RX6 77 yX6_isAlpha ∈ wsX6_nextToken := by decide +kernel
theorem kX6_nextToken_sX6_isDigit : Cond.static yX6_isDigit ∈ wsX6_nextToken := by decide +kernel
theorem kX6_nextToken_m81 : Cond.methodLink RX6 81 yX6_isDigit ∈ wsX6_nextToken := by decide +kernel
theorem kX6_nextToken_f84 : Cond.fieldLink RX6 84 "TwoMinutesModel" "token" "I" ∈ wsX6_nextToken := by decide +kernel
theorem kX6_nextToken_f87 : Cond.fieldLink RX6 87 "TwoMinutesModel" "value" "I" ∈ wsX6_nextToken := by decide +kernel
theorem qd_X6_nextToken : yX6_nextToken.cls = RX6 ∧ yX6_nextToken.cls ≠ "java/lang/invoke/MethodHandle" ∧ yX6_nextToken.cls ≠ "java/lang/invoke/VarHandle" ∧ (parseMethodDescriptor yX6_nextToken.desc).map (fun d => d.parameters.length) = some 0 := by decide +kernel
abbrev rmX6_nextToken : Room := { frames := 1, cells := 0, slots := 0, locals := 21 }
set_option maxHeartbeats 4000000 in
set_option maxRecDepth 100000 in
theorem L_X6_nextToken_8 {τ : SX} {κ : KX} (C : Cx τ κ cX6_nextToken RX6 wsX6_nextToken rmX6_nextToken 2) (a : Nat → Nat) (ss : Nat → Int32) (mhd : Nat → Int32) (mas : Nat → Int32) (mbf : Nat → Int32) (mih : Int32) (mtp : Nat → Int32) (mtn : Int32) (mtk : Int32) (mtt : Int32) (mvl : Int32) (miw : Int32) (mld : Nat → Int32) (mrw : Nat → Int32) (mrn : Int32) (mso : Nat → Int32) (msz : Nat → Int32) (mnu : Nat → Int32) (mhw : Nat → Int32) (mhh : Nat → Int32) (mhm : Nat → Int32) (mbo : Nat → Int32) (mrr : Int32) (mak : Int32) (man : Int32) (maa : Int32) (mip : Int32) (hn : TN mtn) (hmt : TN mtt) (Φ : Int32 → Prop) (hE : ∀ (mfr : Int32), (TN mfr) → Φ mfr → J τ κ 0 0 (wM τ a ss mhd mas mbf mih mtp mtn mtk mfr mtt mvl miw mld mrw mrn mso msz mnu mhw mhh mhm mbo mrr mak man maa mip) [(0, .ref (a 0))] 34 []) : ∀ (N : Nat) (mfr : Int32), ((201 : Int) - mfr.toInt).toNat < N → (TN mfr) → Φ (l_X6_nextToken_8 mtp mtn N mfr) → J τ κ 0 0 (wM τ a ss mhd mas mbf mih mtp mtn mtk mfr mtt mvl miw mld mrw mrn mso msz mnu mhw mhh mhm mbo mrr mak man maa mip) [(0, .ref (a 0))] 8 [] := by
  have hiX6 : ∀ w ∈ wsX60, w ∈ wsX6_nextToken := fun w h => List.mem_cons_of_mem _ (List.mem_append_right _ h)
  intro N
  induction N with
  | zero => intro mfr hm; exact absurd hm (Nat.not_lt_zero _)
  | succ N ih =>
    intro mfr hm hf hR
    rw [l_X6_nextToken_8] at hR
    refine j_aload_n C dX6_nextToken_8 9 rfl rfl 0 rfl ?_
    refine j_aload_n C dX6_nextToken_9 10 rfl rfl 0 rfl ?_
    refine j_get C dX6_nextToken_10 13 rfl hiX6 0 rfl rfl 8 (by decide) rfl kX6_nextToken_f70 rfl ?_
    refine j_cv0I (na := 1) C dX6_nextToken_13 16 rfl (c_X6_byteAt τ a ss mhd mas mbf mih mtp mtn mtk mfr mtt mvl miw mld mrw mrn mso msz mnu mhw mhh mhm mbo mrr mak man maa mip mfr hn hf.1) gX6_nextToken_X6_byteAt rfl rfl rfl qd_X6_byteAt rfl ⟨by decide, by decide⟩ ⟨by decide, by decide⟩ rfl (Nat.le_of_ble_eq_true rfl) rfl 6 0 rfl rfl (fun r2 u2 hX2 hn2 => ?_)
    obtain rfl := (Prod.mk.inj hX2).1
    refine j_bipush (v := 32) C dX6_nextToken_16 18 rfl (by decide) ?_
    refine j_icmp_ne C dX6_nextToken_18 34 rfl 21 rfl (fun c3 => ?_) (fun c3 => ?_)
    · rw [if_neg c3] at hR
      exact j_lv [0] [(0, .ref (a 0))] rfl (hE _ hf hR)
    · rw [if_pos c3] at hR
      have hs := by_step hn hf (by_sp c3 (by decide))
      refine j_aload_n C dX6_nextToken_21 22 rfl rfl 0 rfl ?_
      refine j_dup C dX6_nextToken_22 23 rfl rfl ?_
      refine j_get C dX6_nextToken_23 26 rfl hiX6 0 rfl rfl 8 (by decide) rfl kX6_nextToken_f70 rfl ?_
      refine j_iconst (v := 1) C dX6_nextToken_26 27 rfl (by decide) ?_
      refine j_iadd C dX6_nextToken_27 28 rfl ?_
      refine j_put C dX6_nextToken_28 31 rfl hiX6 tyX6_ok nmX6 0 rfl rfl 8 (by decide) rfl kX6_nextToken_f70 rfl rfl rfl (Nat.le_of_ble_eq_true rfl) (wM τ a ss mhd mas mbf mih mtp mtn mtk (mfr + 1) mtt mvl miw mld mrw mrn mso msz mnu mhw mhh mhm mbo mrr mak man maa mip) rfl ?_
      refine j_goto C dX6_nextToken_31 8 rfl ?_
      exact j_lv [0] [(0, .ref (a 0))] rfl (ih _ (by have := hs.2.1; omega) hs.1 hR)
set_option maxHeartbeats 4000000 in
set_option maxRecDepth 100000 in
theorem L_X6_nextToken_91 {τ : SX} {κ : KX} (C : Cx τ κ cX6_nextToken RX6 wsX6_nextToken rmX6_nextToken 2) (a : Nat → Nat) (ss : Nat → Int32) (mhd : Nat → Int32) (mas : Nat → Int32) (mbf : Nat → Int32) (mih : Int32) (mtp : Nat → Int32) (mtn : Int32) (mtk : Int32) (mfr : Int32) (mvl : Int32) (miw : Int32) (mld : Nat → Int32) (mrw : Nat → Int32) (mrn : Int32) (mso : Nat → Int32) (msz : Nat → Int32) (mnu : Nat → Int32) (mhw : Nat → Int32) (mhh : Nat → Int32) (mhm : Nat → Int32) (mbo : Nat → Int32) (mrr : Int32) (mak : Int32) (man : Int32) (maa : Int32) (mip : Int32) (x1 : Int32) (hn : TN mtn) (Φ : Int32 → Prop) (hE : ∀ (mtt : Int32), (TN mtt) → Φ mtt → J τ κ 0 0 (wM τ a ss mhd mas mbf mih mtp mtn mtk mfr mtt mvl miw mld mrw mrn mso msz mnu mhw mhh mhm mbo mrr mak man maa mip) [(0, .ref (a 0)), (1, .int x1)] 126 []) : ∀ (N : Nat) (mtt : Int32), ((201 : Int) - mtt.toInt).toNat < N → (TN mtt) → Φ (l_X6_nextToken_91 mtp mtn mtk N mtt) → J τ κ 0 0 (wM τ a ss mhd mas mbf mih mtp mtn mtk mfr mtt mvl miw mld mrw mrn mso msz mnu mhw mhh mhm mbo mrr mak man maa mip) [(0, .ref (a 0)), (1, .int x1)] 91 [] := by
  have hiX6 : ∀ w ∈ wsX60, w ∈ wsX6_nextToken := fun w h => List.mem_cons_of_mem _ (List.mem_append_right _ h)
  intro N
  induction N with
  | zero => intro mtt hm; exact absurd hm (Nat.not_lt_zero _)
  | succ N ih =>
    intro mtt hm ht hR
    rw [l_X6_nextToken_91] at hR
    refine j_aload_n C dX6_nextToken_91 92 rfl rfl 0 rfl ?_
    refine j_get C dX6_nextToken_92 95 rfl hiX6 0 rfl rfl 7 (by decide) rfl kX6_nextToken_f84 rfl ?_
    refine j_iconst (v := 1) C dX6_nextToken_95 96 rfl (by decide) ?_
    refine j_icmp_ne C dX6_nextToken_96 126 rfl 99 rfl (fun c11 => ?_) (fun c11 => ?_)
    · rw [if_neg c11] at hR
      exact j_lv [0, 1] [(0, .ref (a 0)), (1, .int x1)] rfl (hE _ ht hR)
    · rw [if_pos c11] at hR
      refine j_aload_n C dX6_nextToken_99 100 rfl rfl 0 rfl ?_
      refine j_aload_n C dX6_nextToken_100 101 rfl rfl 0 rfl ?_
      refine j_get C dX6_nextToken_101 104 rfl hiX6 0 rfl rfl 9 (by decide) rfl kX6_nextToken_f67 rfl ?_
      refine j_cv0I (na := 1) C dX6_nextToken_104 107 rfl (c_X6_byteAt τ a ss mhd mas mbf mih mtp mtn mtk mfr mtt mvl miw mld mrw mrn mso msz mnu mhw mhh mhm mbo mrr mak man maa mip mtt hn ht.1) gX6_nextToken_X6_byteAt rfl rfl rfl qd_X6_byteAt rfl ⟨by decide, by decide⟩ ⟨by decide, by decide⟩ rfl (Nat.le_of_ble_eq_true rfl) rfl 6 0 rfl rfl (fun r12 u12 hX12 hn12 => ?_)
      obtain rfl := (Prod.mk.inj hX12).1
      refine j_cs0I (na := 1) C dX6_nextToken_107 110 rfl (c_X6_isAlpha τ  (f_X6_byteAt mtp mtn mtt) ) rfl ggX6_nextToken_X6_isAlpha rfl rfl rfl kX6_nextToken_iRX6 kX6_nextToken_m77 kX6_nextToken_sX6_isAlpha qd_X6_isAlpha rfl ⟨by decide, by decide⟩ ⟨by decide, by decide⟩ rfl (Nat.le_of_ble_eq_true rfl) (fun r13 u13 hX13 hn13 => ?_)
      obtain rfl := (Prod.mk.inj hX13).1
      refine j_if_eq C dX6_nextToken_110 126 rfl 113 rfl (fun c14 => ?_) (fun c14 => ?_)
      · rw [if_pos c14] at hR
        exact j_lv [0, 1] [(0, .ref (a 0)), (1, .int x1)] rfl (hE _ ht hR)
      · rw [if_neg c14] at hR
        have hs := by_step hn ht (by_al c14)
        refine j_aload_n C dX6_nextToken_113 114 rfl rfl 0 rfl ?_
        refine j_dup C dX6_nextToken_114 115 rfl rfl ?_
        refine j_get C dX6_nextToken_115 118 rfl hiX6 0 rfl rfl 9 (by decide) rfl kX6_nextToken_f67 rfl ?_
        refine j_iconst (v := 1) C dX6_nextToken_118 119 rfl (by decide) ?_
        refine j_iadd C dX6_nextToken_119 120 rfl ?_
        refine j_put C dX6_nextToken_120 123 rfl hiX6 tyX6_ok nmX6 0 rfl rfl 9 (by decide) rfl kX6_nextToken_f67 rfl rfl rfl (Nat.le_of_ble_eq_true rfl) (wM τ a ss mhd mas mbf mih mtp mtn mtk mfr (mtt + 1) mvl miw mld mrw mrn mso msz mnu mhw mhh mhm mbo mrr mak man maa mip) rfl ?_
        refine j_goto C dX6_nextToken_123 91 rfl ?_
        exact j_lv [0, 1] [(0, .ref (a 0)), (1, .int x1)] rfl (ih _ (by have := hs.2.1; omega) hs.1 hR)
set_option maxHeartbeats 4000000 in
set_option maxRecDepth 100000 in
theorem L_X6_nextToken_126 {τ : SX} {κ : KX} (C : Cx τ κ cX6_nextToken RX6 wsX6_nextToken rmX6_nextToken 2) (a : Nat → Nat) (ss : Nat → Int32) (mhd : Nat → Int32) (mas : Nat → Int32) (mbf : Nat → Int32) (mih : Int32) (mtp : Nat → Int32) (mtn : Int32) (mtk : Int32) (mfr : Int32) (miw : Int32) (mld : Nat → Int32) (mrw : Nat → Int32) (mrn : Int32) (mso : Nat → Int32) (msz : Nat → Int32) (mnu : Nat → Int32) (mhw : Nat → Int32) (mhh : Nat → Int32) (mhm : Nat → Int32) (mbo : Nat → Int32) (mrr : Int32) (mak : Int32) (man : Int32) (maa : Int32) (mip : Int32) (x1 : Int32) (hn : TN mtn) (Φ : Int32 × Int32 → Prop) (hE : ∀ (mtt : Int32) (mvl : Int32), (TN mtt) → Φ (mtt, mvl) → J τ κ 0 0 (wM τ a ss mhd mas mbf mih mtp mtn mtk mfr mtt mvl miw mld mrw mrn mso msz mnu mhw mhh mhm mbo mrr mak man maa mip) [(0, .ref (a 0)), (1, .int x1)] 201 []) : ∀ (N : Nat) (mtt : Int32) (mvl : Int32), ((201 : Int) - mtt.toInt).toNat < N → (TN mtt) → Φ (l_X6_nextToken_126 mtp mtn mtk N mtt mvl) → J τ κ 0 0 (wM τ a ss mhd mas mbf mih mtp mtn mtk mfr mtt mvl miw mld mrw mrn mso msz mnu mhw mhh mhm mbo mrr mak man maa mip) [(0, .ref (a 0)), (1, .int x1)] 126 [] := by
  have hiX6 : ∀ w ∈ wsX60, w ∈ wsX6_nextToken := fun w h => List.mem_cons_of_mem _ (List.mem_append_right _ h)
  intro N
  induction N with
  | zero => intro mtt mvl hm; exact absurd hm (Nat.not_lt_zero _)
  | succ N ih =>
    intro mtt mvl hm ht hR
    rw [l_X6_nextToken_126] at hR
    refine j_aload_n C dX6_nextToken_126 127 rfl rfl 0 rfl ?_
    refine j_get C dX6_nextToken_127 130 rfl hiX6 0 rfl rfl 7 (by decide) rfl kX6_nextToken_f84 rfl ?_
    refine j_iconst (v := 2) C dX6_nextToken_130 131 rfl (by decide) ?_
    refine j_icmp_ne C dX6_nextToken_131 201 rfl 134 rfl (fun c16 => ?_) (fun c16 => ?_)
    · rw [if_neg c16] at hR
      exact j_lv [0, 1] [(0, .ref (a 0)), (1, .int x1)] rfl (hE _ _ ht hR)
    · rw [if_pos c16] at hR
      refine j_aload_n C dX6_nextToken_134 135 rfl rfl 0 rfl ?_
      refine j_aload_n C dX6_nextToken_135 136 rfl rfl 0 rfl ?_
      refine j_get C dX6_nextToken_136 139 rfl hiX6 0 rfl rfl 9 (by decide) rfl kX6_nextToken_f67 rfl ?_
      refine j_cv0I (na := 1) C dX6_nextToken_139 142 rfl (c_X6_byteAt τ a ss mhd mas mbf mih mtp mtn mtk mfr mtt mvl miw mld mrw mrn mso msz mnu mhw mhh mhm mbo mrr mak man maa mip mtt hn ht.1) gX6_nextToken_X6_byteAt rfl rfl rfl qd_X6_byteAt rfl ⟨by decide, by decide⟩ ⟨by decide, by decide⟩ rfl (Nat.le_of_ble_eq_true rfl) rfl 6 0 rfl rfl (fun r17 u17 hX17 hn17 => ?_)
      obtain rfl := (Prod.mk.inj hX17).1
      refine j_cs0I (na := 1) C dX6_nextToken_142 145 rfl (c_X6_isDigit τ  (f_X6_byteAt mtp mtn mtt) ) rfl ggX6_nextToken_X6_isDigit rfl rfl rfl kX6_nextToken_iRX6 kX6_nextToken_m81 kX6_nextToken_sX6_isDigit qd_X6_isDigit rfl ⟨by decide, by decide⟩ ⟨by decide, by decide⟩ rfl (Nat.le_of_ble_eq_true rfl) (fun r18 u18 hX18 hn18 => ?_)
      obtain rfl := (Prod.mk.inj hX18).1
      refine j_if_eq C dX6_nextToken_145 201 rfl 148 rfl (fun c19 => ?_) (fun c19 => ?_)
      · rw [if_pos c19] at hR
        exact j_lv [0, 1] [(0, .ref (a 0)), (1, .int x1)] rfl (hE _ _ ht hR)
      · rw [if_neg c19] at hR
        have hs := by_step hn ht (by_dg c19)
        refine j_aload_n C dX6_nextToken_148 149 rfl rfl 0 rfl ?_
        refine j_aload_n C dX6_nextToken_149 150 rfl rfl 0 rfl ?_
        refine j_get C dX6_nextToken_150 153 rfl hiX6 0 rfl rfl 10 (by decide) rfl kX6_nextToken_f87 rfl ?_
        refine j_sipush (v := 999) C dX6_nextToken_153 156 rfl (by decide) ?_
        have J156 : ∀ (j156_0 : Int32), Φ (l_X6_nextToken_126 mtp mtn mtk N (mtt + 1) j156_0) → J τ κ 0 0 (wM τ a ss mhd mas mbf mih mtp mtn mtk mfr mtt mvl miw mld mrw mrn mso msz mnu mhw mhh mhm mbo mrr mak man maa mip) [(0, .ref (a 0)), (1, .int x1)] 185 [.int j156_0, .ref (a 0)] := by
          intro j156_0  hR
          refine j_put C dX6_nextToken_185 188 rfl hiX6 tyX6_ok nmX6 0 rfl rfl 10 (by decide) rfl kX6_nextToken_f87 rfl rfl rfl (Nat.le_of_ble_eq_true rfl) (wM τ a ss mhd mas mbf mih mtp mtn mtk mfr mtt j156_0 miw mld mrw mrn mso msz mnu mhw mhh mhm mbo mrr mak man maa mip) rfl ?_
          refine j_aload_n C dX6_nextToken_188 189 rfl rfl 0 rfl ?_
          refine j_dup C dX6_nextToken_189 190 rfl rfl ?_
          refine j_get C dX6_nextToken_190 193 rfl hiX6 0 rfl rfl 9 (by decide) rfl kX6_nextToken_f67 rfl ?_
          refine j_iconst (v := 1) C dX6_nextToken_193 194 rfl (by decide) ?_
          refine j_iadd C dX6_nextToken_194 195 rfl ?_
          refine j_put C dX6_nextToken_195 198 rfl hiX6 tyX6_ok nmX6 0 rfl rfl 9 (by decide) rfl kX6_nextToken_f67 rfl rfl rfl (Nat.le_of_ble_eq_true rfl) (wM τ a ss mhd mas mbf mih mtp mtn mtk mfr (mtt + 1) j156_0 miw mld mrw mrn mso msz mnu mhw mhh mhm mbo mrr mak man maa mip) rfl ?_
          refine j_goto C dX6_nextToken_198 126 rfl ?_
          exact j_lv [0, 1] [(0, .ref (a 0)), (1, .int x1)] rfl (ih _ _ (by have := hs.2.1; omega) hs.1 hR)
        refine j_icmp_le C dX6_nextToken_156 166 rfl 159 rfl (fun c20 => ?_) (fun c20 => ?_)
        · rw [if_pos c20] at hR
          refine j_bipush (v := 10) C dX6_nextToken_166 168 rfl (by decide) ?_
          refine j_aload_n C dX6_nextToken_168 169 rfl rfl 0 rfl ?_
          refine j_get C dX6_nextToken_169 172 rfl hiX6 0 rfl rfl 10 (by decide) rfl kX6_nextToken_f87 rfl ?_
          refine j_imul C dX6_nextToken_172 173 rfl ?_
          refine j_aload_n C dX6_nextToken_173 174 rfl rfl 0 rfl ?_
          refine j_aload_n C dX6_nextToken_174 175 rfl rfl 0 rfl ?_
          refine j_get C dX6_nextToken_175 178 rfl hiX6 0 rfl rfl 9 (by decide) rfl kX6_nextToken_f67 rfl ?_
          refine j_cv0I (na := 1) C dX6_nextToken_178 181 rfl (c_X6_byteAt τ a ss mhd mas mbf mih mtp mtn mtk mfr mtt mvl miw mld mrw mrn mso msz mnu mhw mhh mhm mbo mrr mak man maa mip mtt hn ht.1) gX6_nextToken_X6_byteAt rfl rfl rfl qd_X6_byteAt rfl ⟨by decide, by decide⟩ ⟨by decide, by decide⟩ rfl (Nat.le_of_ble_eq_true rfl) rfl 6 0 rfl rfl (fun r21 u21 hX21 hn21 => ?_)
          obtain rfl := (Prod.mk.inj hX21).1
          refine j_iadd C dX6_nextToken_181 182 rfl ?_
          refine j_bipush (v := 48) C dX6_nextToken_182 184 rfl (by decide) ?_
          refine j_isub C dX6_nextToken_184 185 rfl ?_
          rw [pr1_mk ((((10 : Int32) * mvl) + (f_X6_byteAt mtp mtn mtt)) - 48)] at hR
          exact j_lv [0, 1] [(0, .ref (a 0)), (1, .int x1)] rfl (J156 _  hR)
        · rw [if_neg c20] at hR
          refine j_aload_n C dX6_nextToken_159 160 rfl rfl 0 rfl ?_
          refine j_get C dX6_nextToken_160 163 rfl hiX6 0 rfl rfl 10 (by decide) rfl kX6_nextToken_f87 rfl ?_
          refine j_goto C dX6_nextToken_163 185 rfl ?_
          rw [pr1_mk mvl] at hR
          exact j_lv [0, 1] [(0, .ref (a 0)), (1, .int x1)] rfl (J156 _  hR)
set_option maxHeartbeats 4000000 in
set_option maxRecDepth 100000 in
theorem c_X6_nextToken (τ : SX) (a : Nat → Nat) (ss : Nat → Int32) (mhd : Nat → Int32) (mas : Nat → Int32) (mbf : Nat → Int32) (mih : Int32) (mtp : Nat → Int32) (mtn : Int32) (mtk : Int32) (mfr : Int32) (mtt : Int32) (mvl : Int32) (miw : Int32) (mld : Nat → Int32) (mrw : Nat → Int32) (mrn : Int32) (mso : Nat → Int32) (msz : Nat → Int32) (mnu : Nat → Int32) (mhw : Nat → Int32) (mhh : Nat → Int32) (mhm : Nat → Int32) (mbo : Nat → Int32) (mrr : Int32) (mak : Int32) (man : Int32) (maa : Int32) (mip : Int32) (hn : TN mtn) (hmt : TN mtt) (sz : Nat) : McV τ yX6_nextToken wsX6_nextToken rmX6_nextToken [.ref (a 0)] (wM τ a ss mhd mas mbf mih mtp mtn mtk mfr mtt mvl miw mld mrw mrn mso msz mnu mhw mhh mhm mbo mrr mak man maa mip) (fun u : Int32 × Int32 × Int32 × Int32 => (wM τ a ss mhd mas mbf mih mtp mtn u.1 u.2.1 u.2.2.1 u.2.2.2 miw mld mrw mrn mso msz mnu mhw mhh mhm mbo mrr mak man maa mip)) (f_X6_nextToken mtp mtn mtt) 0 0 sz := by
  refine mc_V (cc := cX6_nextToken) (own := RX6) [(0, .ref (a 0))] rfl (by decide) rfl rfl (Nat.le_of_ble_eq_true rfl) (fun κ C _ hR => ?_)
  have hiX6 : ∀ w ∈ wsX60, w ∈ wsX6_nextToken := fun w h => List.mem_cons_of_mem _ (List.mem_append_right _ h)
  unfold f_X6_nextToken at hR
  refine j_aload_n C dX6_nextToken_0 1 rfl rfl 0 rfl ?_
  refine j_aload_n C dX6_nextToken_1 2 rfl rfl 0 rfl ?_
  refine j_get C dX6_nextToken_2 5 rfl hiX6 0 rfl rfl 9 (by decide) rfl kX6_nextToken_f67 rfl ?_
  refine j_put C dX6_nextToken_5 8 rfl hiX6 tyX6_ok nmX6 0 rfl rfl 8 (by decide) rfl kX6_nextToken_f70 rfl rfl rfl (Nat.le_of_ble_eq_true rfl) (wM τ a ss mhd mas mbf mih mtp mtn mtk mtt mtt mvl miw mld mrw mrn mso msz mnu mhw mhh mhm mbo mrr mak man maa mip) rfl ?_
  refine j_lv [0] [(0, .ref (a 0))] rfl (L_X6_nextToken_8 C a ss mhd mas mbf mih mtp mtn mtk mtt mvl miw mld mrw mrn mso msz mnu mhw mhh mhm mbo mrr mak man maa mip  hn hmt (fun (o : Int32) => RtV τ κ cX6_nextToken 0 0 (fun u : Int32 × Int32 × Int32 × Int32 => (wM τ a ss mhd mas mbf mih mtp mtn u.1 u.2.1 u.2.2.1 u.2.2.2 miw mld mrw mrn mso msz mnu mhw mhh mhm mbo mrr mak man maa mip)) (pr1 o (fun mfr_1 => pr1 (if (0 ≤ (f_X6_byteAt mtp mtn mfr_1)) then (if ((f_X6_isAlpha (f_X6_byteAt mtp mtn mfr_1)) = 0) then (if ((f_X6_isDigit (f_X6_byteAt mtp mtn mfr_1)) = 0) then (3 : Int32) else (2 : Int32)) else (1 : Int32)) else (0 : Int32)) (fun j53_0 => pr1 (l_X6_nextToken_91 mtp mtn j53_0 300 mfr_1) (fun mtt_10 => pr2 (l_X6_nextToken_126 mtp mtn j53_0 300 mtt_10 (0 : Int32)) (fun mtt_15 mvl_15 => pr1 (if (j53_0 ≤ 2) then (0 : Int32) else (1 : Int32)) (fun j211_0 => (j53_0, mfr_1, (mtt_15 + j211_0), mvl_15)))))))) (fun mfr_1 hfo hR => ?_) 300 mtt (nt_fuel (by assumption)) (by assumption) hR)
  rw [pr1_mk mfr_1] at hR
  refine j_aload_n C dX6_nextToken_34 35 rfl rfl 0 rfl ?_
  refine j_aload_n C dX6_nextToken_35 36 rfl rfl 0 rfl ?_
  refine j_get C dX6_nextToken_36 39 rfl hiX6 0 rfl rfl 8 (by decide) rfl kX6_nextToken_f70 rfl ?_
  refine j_put C dX6_nextToken_39 42 rfl hiX6 tyX6_ok nmX6 0 rfl rfl 9 (by decide) rfl kX6_nextToken_f67 rfl rfl rfl (Nat.le_of_ble_eq_true rfl) (wM τ a ss mhd mas mbf mih mtp mtn mtk mfr_1 mfr_1 mvl miw mld mrw mrn mso msz mnu mhw mhh mhm mbo mrr mak man maa mip) rfl ?_
  refine j_aload_n C dX6_nextToken_42 43 rfl rfl 0 rfl ?_
  refine j_aload_n C dX6_nextToken_43 44 rfl rfl 0 rfl ?_
  refine j_get C dX6_nextToken_44 47 rfl hiX6 0 rfl rfl 8 (by decide) rfl kX6_nextToken_f70 rfl ?_
  refine j_cv0I (na := 1) C dX6_nextToken_47 50 rfl (c_X6_byteAt τ a ss mhd mas mbf mih mtp mtn mtk mfr_1 mfr_1 mvl miw mld mrw mrn mso msz mnu mhw mhh mhm mbo mrr mak man maa mip mfr_1 hn hfo.1) gX6_nextToken_X6_byteAt rfl rfl rfl qd_X6_byteAt rfl ⟨by decide, by decide⟩ ⟨by decide, by decide⟩ rfl (Nat.le_of_ble_eq_true rfl) rfl 6 0 rfl rfl (fun r4 u4 hX4 hn4 => ?_)
  obtain rfl := (Prod.mk.inj hX4).1
  refine j_istore_n C dX6_nextToken_50 51 rfl rfl (by decide) [(1, .int (f_X6_byteAt mtp mtn mfr_1)), (0, .ref (a 0))] rfl ?_
  refine j_aload_n C dX6_nextToken_51 52 rfl rfl 1 rfl ?_
  refine j_iload_n C dX6_nextToken_52 53 rfl rfl 0 rfl ?_
  have J53 : ∀ (j53_0 : Int32), RtV τ κ cX6_nextToken 0 0 (fun u : Int32 × Int32 × Int32 × Int32 => (wM τ a ss mhd mas mbf mih mtp mtn u.1 u.2.1 u.2.2.1 u.2.2.2 miw mld mrw mrn mso msz mnu mhw mhh mhm mbo mrr mak man maa mip)) (pr1 (l_X6_nextToken_91 mtp mtn j53_0 300 mfr_1) (fun mtt_10 => pr2 (l_X6_nextToken_126 mtp mtn j53_0 300 mtt_10 (0 : Int32)) (fun mtt_15 mvl_15 => pr1 (if (j53_0 ≤ 2) then (0 : Int32) else (1 : Int32)) (fun j211_0 => (j53_0, mfr_1, (mtt_15 + j211_0), mvl_15))))) → J τ κ 0 0 (wM τ a ss mhd mas mbf mih mtp mtn mtk mfr_1 mfr_1 mvl miw mld mrw mrn mso msz mnu mhw mhh mhm mbo mrr mak man maa mip) [(0, .ref (a 0)), (1, .int (f_X6_byteAt mtp mtn mfr_1))] 83 [.int j53_0, .ref (a 0)] := by
    intro j53_0  hR
    refine j_put C dX6_nextToken_83 86 rfl hiX6 tyX6_ok nmX6 0 rfl rfl 7 (by decide) rfl kX6_nextToken_f84 rfl rfl rfl (Nat.le_of_ble_eq_true rfl) (wM τ a ss mhd mas mbf mih mtp mtn j53_0 mfr_1 mfr_1 mvl miw mld mrw mrn mso msz mnu mhw mhh mhm mbo mrr mak man maa mip) rfl ?_
    refine j_aload_n C dX6_nextToken_86 87 rfl rfl 0 rfl ?_
    refine j_iconst (v := 0) C dX6_nextToken_87 88 rfl (by decide) ?_
    refine j_put C dX6_nextToken_88 91 rfl hiX6 tyX6_ok nmX6 0 rfl rfl 10 (by decide) rfl kX6_nextToken_f87 rfl rfl rfl (Nat.le_of_ble_eq_true rfl) (wM τ a ss mhd mas mbf mih mtp mtn j53_0 mfr_1 mfr_1 0 miw mld mrw mrn mso msz mnu mhw mhh mhm mbo mrr mak man maa mip) rfl ?_
    refine j_lv [0, 1] [(0, .ref (a 0)), (1, .int (f_X6_byteAt mtp mtn mfr_1))] rfl (L_X6_nextToken_91 C a ss mhd mas mbf mih mtp mtn j53_0 mfr_1 0 miw mld mrw mrn mso msz mnu mhw mhh mhm mbo mrr mak man maa mip (f_X6_byteAt mtp mtn mfr_1) hn (fun (o : Int32) => RtV τ κ cX6_nextToken 0 0 (fun u : Int32 × Int32 × Int32 × Int32 => (wM τ a ss mhd mas mbf mih mtp mtn u.1 u.2.1 u.2.2.1 u.2.2.2 miw mld mrw mrn mso msz mnu mhw mhh mhm mbo mrr mak man maa mip)) (pr1 o (fun mtt_10 => pr2 (l_X6_nextToken_126 mtp mtn j53_0 300 mtt_10 (0 : Int32)) (fun mtt_15 mvl_15 => pr1 (if (j53_0 ≤ 2) then (0 : Int32) else (1 : Int32)) (fun j211_0 => (j53_0, mfr_1, (mtt_15 + j211_0), mvl_15)))))) (fun mtt_10 hto hR => ?_) 300 mfr_1 (nt_fuel (by assumption)) (by assumption) hR)
    rw [pr1_mk mtt_10] at hR
    refine j_lv [0, 1] [(0, .ref (a 0)), (1, .int (f_X6_byteAt mtp mtn mfr_1))] rfl (L_X6_nextToken_126 C a ss mhd mas mbf mih mtp mtn j53_0 mfr_1 miw mld mrw mrn mso msz mnu mhw mhh mhm mbo mrr mak man maa mip (f_X6_byteAt mtp mtn mfr_1) hn (fun (o : Int32 × Int32) => RtV τ κ cX6_nextToken 0 0 (fun u : Int32 × Int32 × Int32 × Int32 => (wM τ a ss mhd mas mbf mih mtp mtn u.1 u.2.1 u.2.2.1 u.2.2.2 miw mld mrw mrn mso msz mnu mhw mhh mhm mbo mrr mak man maa mip)) (pr2 o (fun mtt_15 mvl_15 => pr1 (if (j53_0 ≤ 2) then (0 : Int32) else (1 : Int32)) (fun j211_0 => (j53_0, mfr_1, (mtt_15 + j211_0), mvl_15))))) (fun mtt_15 mvl_15 hto hR => ?_) 300 mtt_10 (0 : Int32) (nt_fuel (by assumption)) (by assumption) hR)
    rw [pr2_mk mtt_15 mvl_15] at hR
    refine j_aload_n C dX6_nextToken_201 202 rfl rfl 0 rfl ?_
    refine j_dup C dX6_nextToken_202 203 rfl rfl ?_
    refine j_get C dX6_nextToken_203 206 rfl hiX6 0 rfl rfl 9 (by decide) rfl kX6_nextToken_f67 rfl ?_
    refine j_aload_n C dX6_nextToken_206 207 rfl rfl 0 rfl ?_
    refine j_get C dX6_nextToken_207 210 rfl hiX6 0 rfl rfl 7 (by decide) rfl kX6_nextToken_f84 rfl ?_
    refine j_iconst (v := 2) C dX6_nextToken_210 211 rfl (by decide) ?_
    have J211 : ∀ (j211_0 : Int32), RtV τ κ cX6_nextToken 0 0 (fun u : Int32 × Int32 × Int32 × Int32 => (wM τ a ss mhd mas mbf mih mtp mtn u.1 u.2.1 u.2.2.1 u.2.2.2 miw mld mrw mrn mso msz mnu mhw mhh mhm mbo mrr mak man maa mip)) ((j53_0, mfr_1, (mtt_15 + j211_0), mvl_15)) → J τ κ 0 0 (wM τ a ss mhd mas mbf mih mtp mtn j53_0 mfr_1 mtt_15 mvl_15 miw mld mrw mrn mso msz mnu mhw mhh mhm mbo mrr mak man maa mip) [(0, .ref (a 0)), (1, .int (f_X6_byteAt mtp mtn mfr_1))] 219 [.int j211_0, .int mtt_15, .ref (a 0)] := by
      intro j211_0  hR
      refine j_iadd C dX6_nextToken_219 220 rfl ?_
      refine j_put C dX6_nextToken_220 223 rfl hiX6 tyX6_ok nmX6 0 rfl rfl 9 (by decide) rfl kX6_nextToken_f67 rfl rfl rfl (Nat.le_of_ble_eq_true rfl) (wM τ a ss mhd mas mbf mih mtp mtn j53_0 mfr_1 (mtt_15 + j211_0) mvl_15 miw mld mrw mrn mso msz mnu mhw mhh mhm mbo mrr mak man maa mip) rfl ?_
      exact hR _ _ dX6_nextToken_223
    refine j_icmp_le C dX6_nextToken_211 218 rfl 214 rfl (fun c22 => ?_) (fun c22 => ?_)
    · rw [if_pos c22] at hR
      refine j_iconst (v := 0) C dX6_nextToken_218 219 rfl (by decide) ?_
      rw [pr1_mk (0 : Int32)] at hR
      exact j_lv [0, 1] [(0, .ref (a 0)), (1, .int (f_X6_byteAt mtp mtn mfr_1))] rfl (J211 _  hR)
    · rw [if_neg c22] at hR
      refine j_iconst (v := 1) C dX6_nextToken_214 215 rfl (by decide) ?_
      refine j_goto C dX6_nextToken_215 219 rfl ?_
      rw [pr1_mk (1 : Int32)] at hR
      exact j_lv [0, 1] [(0, .ref (a 0)), (1, .int (f_X6_byteAt mtp mtn mfr_1))] rfl (J211 _  hR)
  refine j_if_ge C dX6_nextToken_53 60 rfl 56 rfl (fun c5 => ?_) (fun c5 => ?_)
  · rw [if_pos c5] at hR
    refine j_iload_n C dX6_nextToken_60 61 rfl rfl 0 rfl ?_
    refine j_cs0I (na := 1) C dX6_nextToken_61 64 rfl (c_X6_isAlpha τ  (f_X6_byteAt mtp mtn mfr_1) ) rfl ggX6_nextToken_X6_isAlpha rfl rfl rfl kX6_nextToken_iRX6 kX6_nextToken_m77 kX6_nextToken_sX6_isAlpha qd_X6_isAlpha rfl ⟨by decide, by decide⟩ ⟨by decide, by decide⟩ rfl (Nat.le_of_ble_eq_true rfl) (fun r6 u6 hX6 hn6 => ?_)
    obtain rfl := (Prod.mk.inj hX6).1
    refine j_if_eq C dX6_nextToken_64 71 rfl 67 rfl (fun c7 => ?_) (fun c7 => ?_)
    · rw [if_pos c7] at hR
      refine j_iload_n C dX6_nextToken_71 72 rfl rfl 0 rfl ?_
      refine j_cs0I (na := 1) C dX6_nextToken_72 75 rfl (c_X6_isDigit τ  (f_X6_byteAt mtp mtn mfr_1) ) rfl ggX6_nextToken_X6_isDigit rfl rfl rfl kX6_nextToken_iRX6 kX6_nextToken_m81 kX6_nextToken_sX6_isDigit qd_X6_isDigit rfl ⟨by decide, by decide⟩ ⟨by decide, by decide⟩ rfl (Nat.le_of_ble_eq_true rfl) (fun r8 u8 hX8 hn8 => ?_)
      obtain rfl := (Prod.mk.inj hX8).1
      refine j_if_eq C dX6_nextToken_75 82 rfl 78 rfl (fun c9 => ?_) (fun c9 => ?_)
      · rw [if_pos c9] at hR
        refine j_iconst (v := 3) C dX6_nextToken_82 83 rfl (by decide) ?_
        rw [pr1_mk (3 : Int32)] at hR
        exact j_lv [1, 0] [(0, .ref (a 0)), (1, .int (f_X6_byteAt mtp mtn mfr_1))] rfl (J53 _  hR)
      · rw [if_neg c9] at hR
        refine j_iconst (v := 2) C dX6_nextToken_78 79 rfl (by decide) ?_
        refine j_goto C dX6_nextToken_79 83 rfl ?_
        rw [pr1_mk (2 : Int32)] at hR
        exact j_lv [1, 0] [(0, .ref (a 0)), (1, .int (f_X6_byteAt mtp mtn mfr_1))] rfl (J53 _  hR)
    · rw [if_neg c7] at hR
      refine j_iconst (v := 1) C dX6_nextToken_67 68 rfl (by decide) ?_
      refine j_goto C dX6_nextToken_68 83 rfl ?_
      rw [pr1_mk (1 : Int32)] at hR
      exact j_lv [1, 0] [(0, .ref (a 0)), (1, .int (f_X6_byteAt mtp mtn mfr_1))] rfl (J53 _  hR)
  · rw [if_neg c5] at hR
    refine j_iconst (v := 0) C dX6_nextToken_56 57 rfl (by decide) ?_
    refine j_goto C dX6_nextToken_57 83 rfl ?_
    rw [pr1_mk (0 : Int32)] at hR
    exact j_lv [1, 0] [(0, .ref (a 0)), (1, .int (f_X6_byteAt mtp mtn mfr_1))] rfl (J53 _  hR)

theorem nt8 {p : Nat → Int32} {n : Int32} (hn : TN n) : ∀ (N : Nat) (f : Int32), TN f → TN (l_X6_nextToken_8 p n N f) ∧ f.toInt ≤ (l_X6_nextToken_8 p n N f).toInt := by
  intro N
  induction N with
  | zero => intro f h; rw [l_X6_nextToken_8]; exact ⟨h, Int.le_refl _⟩
  | succ N ih =>
    intro f h
    rw [l_X6_nextToken_8]
    by_cases c : f_X6_byteAt p n f = 32
    · rw [if_pos c]
      have hs := by_step hn h (by_sp c (by decide))
      have hi := ih (f + 1) hs.1
      exact ⟨hi.1, by omega⟩
    · rw [if_neg c]; exact ⟨h, Int.le_refl _⟩
theorem nt91 {p : Nat → Int32} {n k : Int32} (hn : TN n) : ∀ (N : Nat) (f : Int32), TN f → TN (l_X6_nextToken_91 p n k N f) ∧ f.toInt ≤ (l_X6_nextToken_91 p n k N f).toInt := by
  intro N
  induction N with
  | zero => intro f h; rw [l_X6_nextToken_91]; exact ⟨h, Int.le_refl _⟩
  | succ N ih =>
    intro f h
    rw [l_X6_nextToken_91]
    by_cases c0 : k = 1
    · rw [if_pos c0]
      by_cases c : f_X6_isAlpha (f_X6_byteAt p n f) = 0
      · rw [if_pos c]; exact ⟨h, Int.le_refl _⟩
      · rw [if_neg c]
        have hs := by_step hn h (by_al c)
        have hi := ih (f + 1) hs.1
        exact ⟨hi.1, by omega⟩
    · rw [if_neg c0]; exact ⟨h, Int.le_refl _⟩
theorem nt91s {p : Nat → Int32} {n : Int32} (hn : TN n) (N : Nat) (f : Int32) (h : TN f) (c : ¬ f_X6_isAlpha (f_X6_byteAt p n f) = 0) : f.toInt < (l_X6_nextToken_91 p n 1 (N + 1) f).toInt := by
  rw [l_X6_nextToken_91, if_pos rfl, if_neg c]
  have hs := by_step hn h (by_al c)
  have hi := nt91 (p := p) (k := 1) hn N (f + 1) hs.1
  omega
theorem nt126 {p : Nat → Int32} {n k : Int32} (hn : TN n) : ∀ (N : Nat) (f v : Int32), TN f → TN (l_X6_nextToken_126 p n k N f v).1 ∧ f.toInt ≤ (l_X6_nextToken_126 p n k N f v).1.toInt := by
  intro N
  induction N with
  | zero => intro f v h; rw [l_X6_nextToken_126]; exact ⟨h, Int.le_refl _⟩
  | succ N ih =>
    intro f v h
    rw [l_X6_nextToken_126]
    by_cases c0 : k = 2
    · rw [if_pos c0]
      by_cases c : f_X6_isDigit (f_X6_byteAt p n f) = 0
      · rw [if_pos c]; exact ⟨h, Int.le_refl _⟩
      · rw [if_neg c]
        have hs := by_step hn h (by_dg c)
        rw [pr1_mk]
        have hi := ih (f + 1) (if v ≤ 999 then 10 * v + f_X6_byteAt p n f - 48 else v) hs.1
        exact ⟨hi.1, by omega⟩
    · rw [if_neg c0]; exact ⟨h, Int.le_refl _⟩
theorem nt126s {p : Nat → Int32} {n : Int32} (hn : TN n) (N : Nat) (f v : Int32) (h : TN f) (c : ¬ f_X6_isDigit (f_X6_byteAt p n f) = 0) : f.toInt < (l_X6_nextToken_126 p n 2 (N + 1) f v).1.toInt := by
  rw [l_X6_nextToken_126, if_pos rfl, if_neg c, pr1_mk]
  have hs := by_step hn h (by_dg c)
  have hi := nt126 (k := 2) (p := p) hn N (f + 1) (if v ≤ 999 then 10 * v + f_X6_byteAt p n f - 48 else v) hs.1
  omega
theorem nt126n {p : Nat → Int32} {n k : Int32} (h : ¬ k = 2) (N : Nat) (f v : Int32) : l_X6_nextToken_126 p n k N f v = (f, v) := by
  cases N with
  | zero => rw [l_X6_nextToken_126]
  | succ N => rw [l_X6_nextToken_126, if_neg h]
theorem nt91n {p : Nat → Int32} {n k : Int32} (h : ¬ k = 1) (N : Nat) (f : Int32) : l_X6_nextToken_91 p n k N f = f := by
  cases N with
  | zero => rw [l_X6_nextToken_91]
  | succ N => rw [l_X6_nextToken_91, if_neg h]
theorem next_TX {p : Nat → Int32} {n t k f t2 v : Int32} (hn : TN n) (ht : TN t) (e : f_X6_nextToken p n t = (k, f, t2, v)) : TX k f t2 ∧ t.toInt ≤ f.toInt := by
  unfold f_X6_nextToken at e
  rw [pr1_mk] at e
  have h8 := nt8 (p := p) hn 300 t ht
  generalize l_X6_nextToken_8 p n 300 t = f1 at e h8
  obtain ⟨hf, hle⟩ := h8
  by_cases c0 : 0 ≤ f_X6_byteAt p n f1
  · rw [if_pos c0] at e
    by_cases ca : f_X6_isAlpha (f_X6_byteAt p n f1) = 0
    · rw [if_pos ca] at e
      by_cases cd : f_X6_isDigit (f_X6_byteAt p n f1) = 0
      · rw [if_pos cd, pr1_mk, pr1_mk, nt91n (by decide), nt126n (by decide), pr2_mk, pr1_mk, if_neg (by decide)] at e
        have hb : ¬ f_X6_byteAt p n f1 = -1 := fun q => by rw [q] at c0; exact absurd c0 (by decide)
        have hs := by_step hn hf hb
        simp only [Prod.mk.injEq] at e
        obtain ⟨rfl, rfl, rfl, _⟩ := e
        exact ⟨⟨hf.1, by omega, hs.1.2, fun _ => by omega⟩, hle⟩
      · rw [if_neg cd, pr1_mk, pr1_mk, nt91n (by decide)] at e
        have h1 := nt126 (p := p) (k := 2) hn 300 f1 0 hf
        have h2 := nt126s (p := p) hn 299 f1 0 hf cd
        generalize l_X6_nextToken_126 p n 2 300 f1 0 = q at e h1 h2
        obtain ⟨q1, q2⟩ := q
        rw [pr2_mk, pr1_mk, if_pos (by decide)] at e
        simp only [Prod.mk.injEq] at e
        obtain ⟨rfl, rfl, e3, _⟩ := e
        rw [Int32.add_zero] at e3
        rw [← e3]
        exact ⟨⟨hf.1, h1.2, h1.1.2, fun _ => h2⟩, hle⟩
    · rw [if_neg ca, pr1_mk, pr1_mk, nt126n (by decide), pr2_mk, pr1_mk, if_pos (by decide)] at e
      have h1 := nt91 (p := p) (k := 1) hn 300 f1 hf
      have h2 := nt91s (p := p) hn 299 f1 hf ca
      simp only [Prod.mk.injEq] at e
      obtain ⟨rfl, rfl, e3, _⟩ := e
      rw [Int32.add_zero] at e3
      rw [← e3]
      exact ⟨⟨hf.1, h1.2, h1.1.2, fun _ => h2⟩, hle⟩
  · rw [if_neg c0, pr1_mk, pr1_mk, nt91n (by decide), nt126n (by decide), pr2_mk, pr1_mk, if_pos (by decide)] at e
    simp only [Prod.mk.injEq] at e
    obtain ⟨rfl, rfl, e3, _⟩ := e
    rw [Int32.add_zero] at e3
    rw [← e3]
    exact ⟨⟨hf.1, Int.le_refl _, hf.2, fun q => absurd rfl q⟩, hle⟩

-- X6_needs
def f_X6_needs (mtp : Nat → Int32) (mtn : Int32) (mtk : Int32) (mfr : Int32) (mtt : Int32) (mvl : Int32) (miw : Int32) (x1 : Int32) : Int32 × Int32 × Int32 × Int32 × Int32 := pr1 (if (miw = 0) then (if (x1 = 0) then (1 : Int32) else (0 : Int32)) else (1 : Int32)) (fun j5_0 => if (j5_0 = 0) then (pr4 (f_X6_nextToken mtp mtn mtt) (fun mtk_4 mfr_4 mtt_4 mvl_4 => (mtk_4, mfr_4, mtt_4, mvl_4, j5_0))) else (mtk, mfr, mtt, mvl, j5_0))
theorem kX6_needs_f90 : Cond.fieldLink RX6 90 "TwoMinutesModel" "isWrong" "Z" ∈ wsX6_needs := by decide +kernel
theorem qd_X6_needs : yX6_needs.cls = RX6 ∧ yX6_needs.cls ≠ "java/lang/invoke/MethodHandle" ∧ yX6_needs.cls ≠ "java/lang/invoke/VarHandle" ∧ (parseMethodDescriptor yX6_needs.desc).map (fun d => d.parameters.length) = some 1 := by decide +kernel
abbrev rmX6_needs : Room := { frames := 2, cells := 0, slots := 0, locals := 42 }
set_option maxHeartbeats 4000000 in
set_option maxRecDepth 100000 in
theorem c_X6_needs (τ : SX) (a : Nat → Nat) (ss : Nat → Int32) (mhd : Nat → Int32) (mas : Nat → Int32) (mbf : Nat → Int32) (mih : Int32) (mtp : Nat → Int32) (mtn : Int32) (mtk : Int32) (mfr : Int32) (mtt : Int32) (mvl : Int32) (miw : Int32) (mld : Nat → Int32) (mrw : Nat → Int32) (mrn : Int32) (mso : Nat → Int32) (msz : Nat → Int32) (mnu : Nat → Int32) (mhw : Nat → Int32) (mhh : Nat → Int32) (mhm : Nat → Int32) (mbo : Nat → Int32) (mrr : Int32) (mak : Int32) (man : Int32) (maa : Int32) (mip : Int32) (x1 : Int32) (hn : TN mtn) (hx : TX mtk mfr mtt) (sz : Nat) : McV τ yX6_needs wsX6_needs rmX6_needs [.ref (a 0), .int x1] (wM τ a ss mhd mas mbf mih mtp mtn mtk mfr mtt mvl miw mld mrw mrn mso msz mnu mhw mhh mhm mbo mrr mak man maa mip) (fun u : Int32 × Int32 × Int32 × Int32 × Int32 => (wM τ a ss mhd mas mbf mih mtp mtn u.1 u.2.1 u.2.2.1 u.2.2.2.1 u.2.2.2.2 mld mrw mrn mso msz mnu mhw mhh mhm mbo mrr mak man maa mip)) (f_X6_needs mtp mtn mtk mfr mtt mvl miw x1) 0 0 sz := by
  refine mc_V (cc := cX6_needs) (own := RX6) [(0, .ref (a 0)), (1, .int x1)] rfl (by decide) rfl rfl (Nat.le_of_ble_eq_true rfl) (fun κ C _ hR => ?_)
  have hiX6 : ∀ w ∈ wsX60, w ∈ wsX6_needs := fun w h => List.mem_cons_of_mem _ (List.mem_append_right _ h)
  unfold f_X6_needs at hR
  refine j_aload_n C dX6_needs_0 1 rfl rfl 0 rfl ?_
  refine j_aload_n C dX6_needs_1 2 rfl rfl 0 rfl ?_
  refine j_get C dX6_needs_2 5 rfl hiX6 0 rfl rfl 11 (by decide) rfl kX6_needs_f90 rfl ?_
  have J5 : ∀ (j5_0 : Int32), (narrow .boolean (.int j5_0) = .int j5_0) → RtV τ κ cX6_needs 0 0 (fun u : Int32 × Int32 × Int32 × Int32 × Int32 => (wM τ a ss mhd mas mbf mih mtp mtn u.1 u.2.1 u.2.2.1 u.2.2.2.1 u.2.2.2.2 mld mrw mrn mso msz mnu mhw mhh mhm mbo mrr mak man maa mip)) (if (j5_0 = 0) then (pr4 (f_X6_nextToken mtp mtn mtt) (fun mtk_4 mfr_4 mtt_4 mvl_4 => (mtk_4, mfr_4, mtt_4, mvl_4, j5_0))) else (mtk, mfr, mtt, mvl, j5_0)) → J τ κ 0 0 (wM τ a ss mhd mas mbf mih mtp mtn mtk mfr mtt mvl miw mld mrw mrn mso msz mnu mhw mhh mhm mbo mrr mak man maa mip) [(0, .ref (a 0)), (1, .int x1)] 17 [.int j5_0, .ref (a 0)] := by
    intro j5_0 hz hR
    refine j_put C dX6_needs_17 20 rfl hiX6 tyX6_ok nmX6 0 rfl rfl 11 (by decide) rfl kX6_needs_f90 rfl (by assumption) (fzN (by assumption)) (Nat.le_of_ble_eq_true rfl) (wM τ a ss mhd mas mbf mih mtp mtn mtk mfr mtt mvl j5_0 mld mrw mrn mso msz mnu mhw mhh mhm mbo mrr mak man maa mip) rfl ?_
    refine j_aload_n C dX6_needs_20 21 rfl rfl 0 rfl ?_
    refine j_get C dX6_needs_21 24 rfl hiX6 0 rfl rfl 11 (by decide) rfl kX6_needs_f90 rfl ?_
    refine j_if_ne C dX6_needs_24 31 rfl 27 rfl (fun c3 => ?_) (fun c3 => ?_)
    · rw [if_neg c3] at hR
      exact hR _ _ dX6_needs_31
    · rw [if_pos c3] at hR
      refine j_aload_n C dX6_needs_27 28 rfl rfl 0 rfl ?_
      refine j_cv0V (na := 0) C dX6_needs_28 31 rfl (c_X6_nextToken τ a ss mhd mas mbf mih mtp mtn mtk mfr mtt mvl j5_0 mld mrw mrn mso msz mnu mhw mhh mhm mbo mrr mak man maa mip hn hx.t) gX6_needs_X6_nextToken rfl rfl rfl qd_X6_nextToken rfl ⟨by decide, by decide⟩ ⟨by decide, by decide⟩ rfl (Nat.le_of_ble_eq_true rfl) rfl 6 0 rfl rfl (fun u4 hX4 => ?_)
      obtain ⟨mtk_4, mfr_4, mtt_4, mvl_4⟩ := u4
      rw [hX4] at hR; rw [pr4_mk mtk_4 mfr_4 mtt_4 mvl_4] at hR
      exact hR _ _ dX6_needs_31
  refine j_if_ne C dX6_needs_5 12 rfl 8 rfl (fun c1 => ?_) (fun c1 => ?_)
  · rw [if_neg c1] at hR
    refine j_iconst (v := 1) C dX6_needs_12 13 rfl (by decide) ?_
    refine j_goto C dX6_needs_13 17 rfl ?_
    rw [pr1_mk (1 : Int32)] at hR
    exact j_lv [0, 1] [(0, .ref (a 0)), (1, .int x1)] rfl (J5 _ (rfl) hR)
  · rw [if_pos c1] at hR
    refine j_iload_n C dX6_needs_8 9 rfl rfl 1 rfl ?_
    refine j_if_ne C dX6_needs_9 16 rfl 12 rfl (fun c2 => ?_) (fun c2 => ?_)
    · rw [if_neg c2] at hR
      refine j_iconst (v := 0) C dX6_needs_16 17 rfl (by decide) ?_
      rw [pr1_mk (0 : Int32)] at hR
      exact j_lv [0, 1] [(0, .ref (a 0)), (1, .int x1)] rfl (J5 _ (rfl) hR)
    · rw [if_pos c2] at hR
      refine j_iconst (v := 1) C dX6_needs_12 13 rfl (by decide) ?_
      refine j_goto C dX6_needs_13 17 rfl ?_
      rw [pr1_mk (1 : Int32)] at hR
      exact j_lv [0, 1] [(0, .ref (a 0)), (1, .int x1)] rfl (J5 _ (rfl) hR)

-- X6_isName
def f_X6_isName (mtp : Nat → Int32) (mtn : Int32) (mtk : Int32) (mfr : Int32) (mtt : Int32) (x1 : Int32) (x2 : Int32) (x3 : Int32) (x4 : Int32) (x5 : Int32) : Int32 := if (mtk = 1) then (if ((mtt - mfr) = x1) then (if ((f_X6_byteAt mtp mtn mfr) = x2) then (if ((f_X6_byteAt mtp mtn (mfr + 1)) = x3) then (if ((f_X6_byteAt mtp mtn (mfr + 2)) = x4) then (if ((f_X6_byteAt mtp mtn (mtt - 1)) = x5) then (1 : Int32) else (0 : Int32)) else (0 : Int32)) else (0 : Int32)) else (0 : Int32)) else (0 : Int32)) else (0 : Int32)
theorem kX6_isName_f84 : Cond.fieldLink RX6 84 "TwoMinutesModel" "token" "I" ∈ wsX6_isName := by decide +kernel
theorem kX6_isName_f67 : Cond.fieldLink RX6 67 "TwoMinutesModel" "to" "I" ∈ wsX6_isName := by decide +kernel
theorem kX6_isName_f70 : Cond.fieldLink RX6 70 "TwoMinutesModel" "from" "I" ∈ wsX6_isName := by decide +kernel
theorem qd_X6_isName : yX6_isName.cls = RX6 ∧ yX6_isName.cls ≠ "java/lang/invoke/MethodHandle" ∧ yX6_isName.cls ≠ "java/lang/invoke/VarHandle" ∧ (parseMethodDescriptor yX6_isName.desc).map (fun d => d.parameters.length) = some 5 := by decide +kernel
abbrev rmX6_isName : Room := { frames := 1, cells := 0, slots := 0, locals := 21 }
set_option maxHeartbeats 4000000 in
set_option maxRecDepth 100000 in
theorem c_X6_isName (τ : SX) (a : Nat → Nat) (ss : Nat → Int32) (mhd : Nat → Int32) (mas : Nat → Int32) (mbf : Nat → Int32) (mih : Int32) (mtp : Nat → Int32) (mtn : Int32) (mtk : Int32) (mfr : Int32) (mtt : Int32) (mvl : Int32) (miw : Int32) (mld : Nat → Int32) (mrw : Nat → Int32) (mrn : Int32) (mso : Nat → Int32) (msz : Nat → Int32) (mnu : Nat → Int32) (mhw : Nat → Int32) (mhh : Nat → Int32) (mhm : Nat → Int32) (mbo : Nat → Int32) (mrr : Int32) (mak : Int32) (man : Int32) (maa : Int32) (mip : Int32) (x1 : Int32) (x2 : Int32) (x3 : Int32) (x4 : Int32) (x5 : Int32) (hn : TN mtn) (hf : TN mfr) (ht : TN mtt) (hl : 1 ≤ x1.toInt) (sz : Nat) : McI τ yX6_isName wsX6_isName rmX6_isName .boolean [.ref (a 0), .int x1, .int x2, .int x3, .int x4, .int x5] (wM τ a ss mhd mas mbf mih mtp mtn mtk mfr mtt mvl miw mld mrw mrn mso msz mnu mhw mhh mhm mbo mrr mak man maa mip) (fun _ : Unit => (wM τ a ss mhd mas mbf mih mtp mtn mtk mfr mtt mvl miw mld mrw mrn mso msz mnu mhw mhh mhm mbo mrr mak man maa mip)) (f_X6_isName mtp mtn mtk mfr mtt x1 x2 x3 x4 x5, ()) sz := by
  refine mc_I (cc := cX6_isName) (own := RX6) [(0, .ref (a 0)), (1, .int x1), (2, .int x2), (3, .int x3), (4, .int x4), (5, .int x5)] rfl (by decide) rfl rfl (Nat.le_of_ble_eq_true rfl) (fun κ C hR => ?_)
  have hiX6 : ∀ w ∈ wsX60, w ∈ wsX6_isName := fun w h => List.mem_cons_of_mem _ (List.mem_append_right _ h)
  unfold f_X6_isName at hR
  refine j_aload_n C dX6_isName_0 1 rfl rfl 0 rfl ?_
  refine j_get C dX6_isName_1 4 rfl hiX6 0 rfl rfl 7 (by decide) rfl kX6_isName_f84 rfl ?_
  refine j_iconst (v := 1) C dX6_isName_4 5 rfl (by decide) ?_
  refine j_icmp_ne C dX6_isName_5 81 rfl 8 rfl (fun c1 => ?_) (fun c1 => ?_)
  · rw [if_neg c1] at hR
    refine j_iconst (v := 0) C dX6_isName_81 82 rfl (by decide) ?_
    exact Rt.ret (hR) (show narrow .boolean (.int (0 : Int32)) = .int (0 : Int32) from rfl) dX6_isName_82
  · rw [if_pos c1] at hR
    refine j_aload_n C dX6_isName_8 9 rfl rfl 0 rfl ?_
    refine j_get C dX6_isName_9 12 rfl hiX6 0 rfl rfl 9 (by decide) rfl kX6_isName_f67 rfl ?_
    refine j_aload_n C dX6_isName_12 13 rfl rfl 0 rfl ?_
    refine j_get C dX6_isName_13 16 rfl hiX6 0 rfl rfl 8 (by decide) rfl kX6_isName_f70 rfl ?_
    refine j_isub C dX6_isName_16 17 rfl ?_
    refine j_iload_n C dX6_isName_17 18 rfl rfl 1 rfl ?_
    refine j_icmp_ne C dX6_isName_18 81 rfl 21 rfl (fun c2 => ?_) (fun c2 => ?_)
    · rw [if_neg c2] at hR
      refine j_iconst (v := 0) C dX6_isName_81 82 rfl (by decide) ?_
      exact Rt.ret (hR) (show narrow .boolean (.int (0 : Int32)) = .int (0 : Int32) from rfl) dX6_isName_82
    · rw [if_pos c2] at hR
      refine j_aload_n C dX6_isName_21 22 rfl rfl 0 rfl ?_
      refine j_aload_n C dX6_isName_22 23 rfl rfl 0 rfl ?_
      refine j_get C dX6_isName_23 26 rfl hiX6 0 rfl rfl 8 (by decide) rfl kX6_isName_f70 rfl ?_
      refine j_cv0I (na := 1) C dX6_isName_26 29 rfl (c_X6_byteAt τ a ss mhd mas mbf mih mtp mtn mtk mfr mtt mvl miw mld mrw mrn mso msz mnu mhw mhh mhm mbo mrr mak man maa mip mfr hn hf.1) gX6_isName_X6_byteAt rfl rfl rfl qd_X6_byteAt rfl ⟨by decide, by decide⟩ ⟨by decide, by decide⟩ rfl (Nat.le_of_ble_eq_true rfl) rfl 6 0 rfl rfl (fun r3 u3 hX3 hn3 => ?_)
      obtain rfl := (Prod.mk.inj hX3).1
      refine j_iload_n C dX6_isName_29 30 rfl rfl 2 rfl ?_
      refine j_icmp_ne C dX6_isName_30 81 rfl 33 rfl (fun c4 => ?_) (fun c4 => ?_)
      · rw [if_neg c4] at hR
        refine j_iconst (v := 0) C dX6_isName_81 82 rfl (by decide) ?_
        exact Rt.ret (hR) (show narrow .boolean (.int (0 : Int32)) = .int (0 : Int32) from rfl) dX6_isName_82
      · rw [if_pos c4] at hR
        refine j_aload_n C dX6_isName_33 34 rfl rfl 0 rfl ?_
        refine j_aload_n C dX6_isName_34 35 rfl rfl 0 rfl ?_
        refine j_get C dX6_isName_35 38 rfl hiX6 0 rfl rfl 8 (by decide) rfl kX6_isName_f70 rfl ?_
        refine j_iconst (v := 1) C dX6_isName_38 39 rfl (by decide) ?_
        refine j_iadd C dX6_isName_39 40 rfl ?_
        refine j_cv0I (na := 1) C dX6_isName_40 43 rfl (c_X6_byteAt τ a ss mhd mas mbf mih mtp mtn mtk mfr mtt mvl miw mld mrw mrn mso msz mnu mhw mhh mhm mbo mrr mak man maa mip (mfr + 1) hn (ad_nn hf (i := 1) (by decide) (by decide)).1) gX6_isName_X6_byteAt rfl rfl rfl qd_X6_byteAt rfl ⟨by decide, by decide⟩ ⟨by decide, by decide⟩ rfl (Nat.le_of_ble_eq_true rfl) rfl 6 0 rfl rfl (fun r5 u5 hX5 hn5 => ?_)
        obtain rfl := (Prod.mk.inj hX5).1
        refine j_iload_n C dX6_isName_43 44 rfl rfl 3 rfl ?_
        refine j_icmp_ne C dX6_isName_44 81 rfl 47 rfl (fun c6 => ?_) (fun c6 => ?_)
        · rw [if_neg c6] at hR
          refine j_iconst (v := 0) C dX6_isName_81 82 rfl (by decide) ?_
          exact Rt.ret (hR) (show narrow .boolean (.int (0 : Int32)) = .int (0 : Int32) from rfl) dX6_isName_82
        · rw [if_pos c6] at hR
          refine j_aload_n C dX6_isName_47 48 rfl rfl 0 rfl ?_
          refine j_aload_n C dX6_isName_48 49 rfl rfl 0 rfl ?_
          refine j_get C dX6_isName_49 52 rfl hiX6 0 rfl rfl 8 (by decide) rfl kX6_isName_f70 rfl ?_
          refine j_iconst (v := 2) C dX6_isName_52 53 rfl (by decide) ?_
          refine j_iadd C dX6_isName_53 54 rfl ?_
          refine j_cv0I (na := 1) C dX6_isName_54 57 rfl (c_X6_byteAt τ a ss mhd mas mbf mih mtp mtn mtk mfr mtt mvl miw mld mrw mrn mso msz mnu mhw mhh mhm mbo mrr mak man maa mip (mfr + 2) hn (ad_nn hf (i := 2) (by decide) (by decide)).1) gX6_isName_X6_byteAt rfl rfl rfl qd_X6_byteAt rfl ⟨by decide, by decide⟩ ⟨by decide, by decide⟩ rfl (Nat.le_of_ble_eq_true rfl) rfl 6 0 rfl rfl (fun r7 u7 hX7 hn7 => ?_)
          obtain rfl := (Prod.mk.inj hX7).1
          refine j_iload C dX6_isName_57 59 rfl 4 rfl ?_
          refine j_icmp_ne C dX6_isName_59 81 rfl 62 rfl (fun c8 => ?_) (fun c8 => ?_)
          · rw [if_neg c8] at hR
            refine j_iconst (v := 0) C dX6_isName_81 82 rfl (by decide) ?_
            exact Rt.ret (hR) (show narrow .boolean (.int (0 : Int32)) = .int (0 : Int32) from rfl) dX6_isName_82
          · rw [if_pos c8] at hR
            refine j_aload_n C dX6_isName_62 63 rfl rfl 0 rfl ?_
            refine j_aload_n C dX6_isName_63 64 rfl rfl 0 rfl ?_
            refine j_get C dX6_isName_64 67 rfl hiX6 0 rfl rfl 9 (by decide) rfl kX6_isName_f67 rfl ?_
            refine j_iconst (v := 1) C dX6_isName_67 68 rfl (by decide) ?_
            refine j_isub C dX6_isName_68 69 rfl ?_
            refine j_cv0I (na := 1) C dX6_isName_69 72 rfl (c_X6_byteAt τ a ss mhd mas mbf mih mtp mtn mtk mfr mtt mvl miw mld mrw mrn mso msz mnu mhw mhh mhm mbo mrr mak man maa mip (mtt - 1) hn (sb_nn hf ht c2 hl)) gX6_isName_X6_byteAt rfl rfl rfl qd_X6_byteAt rfl ⟨by decide, by decide⟩ ⟨by decide, by decide⟩ rfl (Nat.le_of_ble_eq_true rfl) rfl 6 0 rfl rfl (fun r9 u9 hX9 hn9 => ?_)
            obtain rfl := (Prod.mk.inj hX9).1
            refine j_iload C dX6_isName_72 74 rfl 5 rfl ?_
            refine j_icmp_ne C dX6_isName_74 81 rfl 77 rfl (fun c10 => ?_) (fun c10 => ?_)
            · rw [if_neg c10] at hR
              refine j_iconst (v := 0) C dX6_isName_81 82 rfl (by decide) ?_
              exact Rt.ret (hR) (show narrow .boolean (.int (0 : Int32)) = .int (0 : Int32) from rfl) dX6_isName_82
            · rw [if_pos c10] at hR
              refine j_iconst (v := 1) C dX6_isName_77 78 rfl (by decide) ?_
              refine j_goto C dX6_isName_78 82 rfl ?_
              exact Rt.ret (hR) (show narrow .boolean (.int (1 : Int32)) = .int (1 : Int32) from rfl) dX6_isName_82

-- X6_isSame
def f_X6_isSame (mtp : Nat → Int32) (mtn : Int32) (mfr : Int32) (x1 : Int32) (x2 : Int32) (x3 : Int32) (x4 : Int32) : Int32 := if ((f_X6_byteAt mtp mtn (mfr + x1)) = x2) then (if ((f_X6_byteAt mtp mtn ((mfr + x1) + 1)) = x3) then (if ((f_X6_byteAt mtp mtn ((mfr + x1) + 2)) = x4) then (1 : Int32) else (0 : Int32)) else (0 : Int32)) else (0 : Int32)
theorem kX6_isSame_f70 : Cond.fieldLink RX6 70 "TwoMinutesModel" "from" "I" ∈ wsX6_isSame := by decide +kernel
theorem qd_X6_isSame : yX6_isSame.cls = RX6 ∧ yX6_isSame.cls ≠ "java/lang/invoke/MethodHandle" ∧ yX6_isSame.cls ≠ "java/lang/invoke/VarHandle" ∧ (parseMethodDescriptor yX6_isSame.desc).map (fun d => d.parameters.length) = some 4 := by decide +kernel
abbrev rmX6_isSame : Room := { frames := 1, cells := 0, slots := 0, locals := 21 }
set_option maxHeartbeats 4000000 in
set_option maxRecDepth 100000 in
theorem c_X6_isSame (τ : SX) (a : Nat → Nat) (ss : Nat → Int32) (mhd : Nat → Int32) (mas : Nat → Int32) (mbf : Nat → Int32) (mih : Int32) (mtp : Nat → Int32) (mtn : Int32) (mtk : Int32) (mfr : Int32) (mtt : Int32) (mvl : Int32) (miw : Int32) (mld : Nat → Int32) (mrw : Nat → Int32) (mrn : Int32) (mso : Nat → Int32) (msz : Nat → Int32) (mnu : Nat → Int32) (mhw : Nat → Int32) (mhh : Nat → Int32) (mhm : Nat → Int32) (mbo : Nat → Int32) (mrr : Int32) (mak : Int32) (man : Int32) (maa : Int32) (mip : Int32) (x1 : Int32) (x2 : Int32) (x3 : Int32) (x4 : Int32) (hn : TN mtn) (hf : TN mfr) (ht : TN mtt) (h0 : 0 ≤ x1.toInt) (h1 : x1.toInt ≤ 10) (sz : Nat) : McI τ yX6_isSame wsX6_isSame rmX6_isSame .boolean [.ref (a 0), .int x1, .int x2, .int x3, .int x4] (wM τ a ss mhd mas mbf mih mtp mtn mtk mfr mtt mvl miw mld mrw mrn mso msz mnu mhw mhh mhm mbo mrr mak man maa mip) (fun _ : Unit => (wM τ a ss mhd mas mbf mih mtp mtn mtk mfr mtt mvl miw mld mrw mrn mso msz mnu mhw mhh mhm mbo mrr mak man maa mip)) (f_X6_isSame mtp mtn mfr x1 x2 x3 x4, ()) sz := by
  refine mc_I (cc := cX6_isSame) (own := RX6) [(0, .ref (a 0)), (1, .int x1), (2, .int x2), (3, .int x3), (4, .int x4)] rfl (by decide) rfl rfl (Nat.le_of_ble_eq_true rfl) (fun κ C hR => ?_)
  have hiX6 : ∀ w ∈ wsX60, w ∈ wsX6_isSame := fun w h => List.mem_cons_of_mem _ (List.mem_append_right _ h)
  unfold f_X6_isSame at hR
  refine j_aload_n C dX6_isSame_0 1 rfl rfl 0 rfl ?_
  refine j_aload_n C dX6_isSame_1 2 rfl rfl 0 rfl ?_
  refine j_get C dX6_isSame_2 5 rfl hiX6 0 rfl rfl 8 (by decide) rfl kX6_isSame_f70 rfl ?_
  refine j_iload_n C dX6_isSame_5 6 rfl rfl 1 rfl ?_
  refine j_iadd C dX6_isSame_6 7 rfl ?_
  refine j_cv0I (na := 1) C dX6_isSame_7 10 rfl (c_X6_byteAt τ a ss mhd mas mbf mih mtp mtn mtk mfr mtt mvl miw mld mrw mrn mso msz mnu mhw mhh mhm mbo mrr mak man maa mip (mfr + x1) hn (ad_nn hf h0 (by omega)).1) gX6_isSame_X6_byteAt rfl rfl rfl qd_X6_byteAt rfl ⟨by decide, by decide⟩ ⟨by decide, by decide⟩ rfl (Nat.le_of_ble_eq_true rfl) rfl 6 0 rfl rfl (fun r1 u1 hX1 hn1 => ?_)
  obtain rfl := (Prod.mk.inj hX1).1
  refine j_iload_n C dX6_isSame_10 11 rfl rfl 2 rfl ?_
  refine j_icmp_ne C dX6_isSame_11 51 rfl 14 rfl (fun c2 => ?_) (fun c2 => ?_)
  · rw [if_neg c2] at hR
    refine j_iconst (v := 0) C dX6_isSame_51 52 rfl (by decide) ?_
    exact Rt.ret (hR) (show narrow .boolean (.int (0 : Int32)) = .int (0 : Int32) from rfl) dX6_isSame_52
  · rw [if_pos c2] at hR
    refine j_aload_n C dX6_isSame_14 15 rfl rfl 0 rfl ?_
    refine j_aload_n C dX6_isSame_15 16 rfl rfl 0 rfl ?_
    refine j_get C dX6_isSame_16 19 rfl hiX6 0 rfl rfl 8 (by decide) rfl kX6_isSame_f70 rfl ?_
    refine j_iload_n C dX6_isSame_19 20 rfl rfl 1 rfl ?_
    refine j_iadd C dX6_isSame_20 21 rfl ?_
    refine j_iconst (v := 1) C dX6_isSame_21 22 rfl (by decide) ?_
    refine j_iadd C dX6_isSame_22 23 rfl ?_
    refine j_cv0I (na := 1) C dX6_isSame_23 26 rfl (c_X6_byteAt τ a ss mhd mas mbf mih mtp mtn mtk mfr mtt mvl miw mld mrw mrn mso msz mnu mhw mhh mhm mbo mrr mak man maa mip ((mfr + x1) + 1) hn (ad_n2 hf h0 (by omega) (j := 1) (by decide) (by decide))) gX6_isSame_X6_byteAt rfl rfl rfl qd_X6_byteAt rfl ⟨by decide, by decide⟩ ⟨by decide, by decide⟩ rfl (Nat.le_of_ble_eq_true rfl) rfl 6 0 rfl rfl (fun r3 u3 hX3 hn3 => ?_)
    obtain rfl := (Prod.mk.inj hX3).1
    refine j_iload_n C dX6_isSame_26 27 rfl rfl 3 rfl ?_
    refine j_icmp_ne C dX6_isSame_27 51 rfl 30 rfl (fun c4 => ?_) (fun c4 => ?_)
    · rw [if_neg c4] at hR
      refine j_iconst (v := 0) C dX6_isSame_51 52 rfl (by decide) ?_
      exact Rt.ret (hR) (show narrow .boolean (.int (0 : Int32)) = .int (0 : Int32) from rfl) dX6_isSame_52
    · rw [if_pos c4] at hR
      refine j_aload_n C dX6_isSame_30 31 rfl rfl 0 rfl ?_
      refine j_aload_n C dX6_isSame_31 32 rfl rfl 0 rfl ?_
      refine j_get C dX6_isSame_32 35 rfl hiX6 0 rfl rfl 8 (by decide) rfl kX6_isSame_f70 rfl ?_
      refine j_iload_n C dX6_isSame_35 36 rfl rfl 1 rfl ?_
      refine j_iadd C dX6_isSame_36 37 rfl ?_
      refine j_iconst (v := 2) C dX6_isSame_37 38 rfl (by decide) ?_
      refine j_iadd C dX6_isSame_38 39 rfl ?_
      refine j_cv0I (na := 1) C dX6_isSame_39 42 rfl (c_X6_byteAt τ a ss mhd mas mbf mih mtp mtn mtk mfr mtt mvl miw mld mrw mrn mso msz mnu mhw mhh mhm mbo mrr mak man maa mip ((mfr + x1) + 2) hn (ad_n2 hf h0 (by omega) (j := 2) (by decide) (by decide))) gX6_isSame_X6_byteAt rfl rfl rfl qd_X6_byteAt rfl ⟨by decide, by decide⟩ ⟨by decide, by decide⟩ rfl (Nat.le_of_ble_eq_true rfl) rfl 6 0 rfl rfl (fun r5 u5 hX5 hn5 => ?_)
      obtain rfl := (Prod.mk.inj hX5).1
      refine j_iload C dX6_isSame_42 44 rfl 4 rfl ?_
      refine j_icmp_ne C dX6_isSame_44 51 rfl 47 rfl (fun c6 => ?_) (fun c6 => ?_)
      · rw [if_neg c6] at hR
        refine j_iconst (v := 0) C dX6_isSame_51 52 rfl (by decide) ?_
        exact Rt.ret (hR) (show narrow .boolean (.int (0 : Int32)) = .int (0 : Int32) from rfl) dX6_isSame_52
      · rw [if_pos c6] at hR
        refine j_iconst (v := 1) C dX6_isSame_47 48 rfl (by decide) ?_
        refine j_goto C dX6_isSame_48 52 rfl ?_
        exact Rt.ret (hR) (show narrow .boolean (.int (1 : Int32)) = .int (1 : Int32) from rfl) dX6_isSame_52

-- X6_isFour
def f_X6_isFour (mtp : Nat → Int32) (mtn : Int32) (mtk : Int32) (mfr : Int32) (mtt : Int32) (x1 : Int32) (x2 : Int32) (x3 : Int32) (x4 : Int32) : Int32 := (f_X6_isName mtp mtn mtk mfr mtt (4 : Int32) x1 x2 x3 x4)
theorem qd_X6_isFour : yX6_isFour.cls = RX6 ∧ yX6_isFour.cls ≠ "java/lang/invoke/MethodHandle" ∧ yX6_isFour.cls ≠ "java/lang/invoke/VarHandle" ∧ (parseMethodDescriptor yX6_isFour.desc).map (fun d => d.parameters.length) = some 4 := by decide +kernel
abbrev rmX6_isFour : Room := { frames := 2, cells := 0, slots := 0, locals := 46 }
set_option maxHeartbeats 4000000 in
set_option maxRecDepth 100000 in
theorem c_X6_isFour (τ : SX) (a : Nat → Nat) (ss : Nat → Int32) (mhd : Nat → Int32) (mas : Nat → Int32) (mbf : Nat → Int32) (mih : Int32) (mtp : Nat → Int32) (mtn : Int32) (mtk : Int32) (mfr : Int32) (mtt : Int32) (mvl : Int32) (miw : Int32) (mld : Nat → Int32) (mrw : Nat → Int32) (mrn : Int32) (mso : Nat → Int32) (msz : Nat → Int32) (mnu : Nat → Int32) (mhw : Nat → Int32) (mhh : Nat → Int32) (mhm : Nat → Int32) (mbo : Nat → Int32) (mrr : Int32) (mak : Int32) (man : Int32) (maa : Int32) (mip : Int32) (x1 : Int32) (x2 : Int32) (x3 : Int32) (x4 : Int32) (hn : TN mtn) (hf : TN mfr) (ht : TN mtt) (sz : Nat) : McI τ yX6_isFour wsX6_isFour rmX6_isFour .boolean [.ref (a 0), .int x1, .int x2, .int x3, .int x4] (wM τ a ss mhd mas mbf mih mtp mtn mtk mfr mtt mvl miw mld mrw mrn mso msz mnu mhw mhh mhm mbo mrr mak man maa mip) (fun _ : Unit => (wM τ a ss mhd mas mbf mih mtp mtn mtk mfr mtt mvl miw mld mrw mrn mso msz mnu mhw mhh mhm mbo mrr mak man maa mip)) (f_X6_isFour mtp mtn mtk mfr mtt x1 x2 x3 x4, ()) sz := by
  refine mc_I (cc := cX6_isFour) (own := RX6) [(0, .ref (a 0)), (1, .int x1), (2, .int x2), (3, .int x3), (4, .int x4)] rfl (by decide) rfl rfl (Nat.le_of_ble_eq_true rfl) (fun κ C hR => ?_)
  have hiX6 : ∀ w ∈ wsX60, w ∈ wsX6_isFour := fun w h => List.mem_cons_of_mem _ (List.mem_append_right _ h)
  unfold f_X6_isFour at hR
  refine j_aload_n C dX6_isFour_0 1 rfl rfl 0 rfl ?_
  refine j_iconst (v := 4) C dX6_isFour_1 2 rfl (by decide) ?_
  refine j_iload_n C dX6_isFour_2 3 rfl rfl 1 rfl ?_
  refine j_iload_n C dX6_isFour_3 4 rfl rfl 2 rfl ?_
  refine j_iload_n C dX6_isFour_4 5 rfl rfl 3 rfl ?_
  refine j_iload C dX6_isFour_5 7 rfl 4 rfl ?_
  refine j_cv0I (na := 5) C dX6_isFour_7 10 rfl (c_X6_isName τ a ss mhd mas mbf mih mtp mtn mtk mfr mtt mvl miw mld mrw mrn mso msz mnu mhw mhh mhm mbo mrr mak man maa mip (4 : Int32) x1 x2 x3 x4 (by first | assumption | exact TN0 | (unfold vp_in; decide) | decide) (by first | assumption | exact TN0 | (unfold vp_in; decide) | decide) (by first | assumption | exact TN0 | (unfold vp_in; decide) | decide) (by first | assumption | exact TN0 | (unfold vp_in; decide) | decide)) gX6_isFour_X6_isName rfl rfl rfl qd_X6_isName rfl ⟨by decide, by decide⟩ ⟨by decide, by decide⟩ rfl (Nat.le_of_ble_eq_true rfl) rfl 6 0 rfl rfl (fun r1 u1 hX1 hn1 => ?_)
  obtain rfl := (Prod.mk.inj hX1).1
  exact Rt.ret (hR) (by assumption) dX6_isFour_10

-- X6_isFive
def f_X6_isFive (mtp : Nat → Int32) (mtn : Int32) (mtk : Int32) (mfr : Int32) (mtt : Int32) (x1 : Int32) (x2 : Int32) (x3 : Int32) (x4 : Int32) (x5 : Int32) : Int32 := if ((f_X6_isName mtp mtn mtk mfr mtt (5 : Int32) x1 x2 x3 x5) = 0) then (0 : Int32) else (if ((f_X6_byteAt mtp mtn (mfr + 3)) = x4) then (1 : Int32) else (0 : Int32))
theorem kX6_isFive_f70 : Cond.fieldLink RX6 70 "TwoMinutesModel" "from" "I" ∈ wsX6_isFive := by decide +kernel
theorem qd_X6_isFive : yX6_isFive.cls = RX6 ∧ yX6_isFive.cls ≠ "java/lang/invoke/MethodHandle" ∧ yX6_isFive.cls ≠ "java/lang/invoke/VarHandle" ∧ (parseMethodDescriptor yX6_isFive.desc).map (fun d => d.parameters.length) = some 5 := by decide +kernel
abbrev rmX6_isFive : Room := { frames := 2, cells := 0, slots := 0, locals := 46 }
set_option maxHeartbeats 4000000 in
set_option maxRecDepth 100000 in
theorem c_X6_isFive (τ : SX) (a : Nat → Nat) (ss : Nat → Int32) (mhd : Nat → Int32) (mas : Nat → Int32) (mbf : Nat → Int32) (mih : Int32) (mtp : Nat → Int32) (mtn : Int32) (mtk : Int32) (mfr : Int32) (mtt : Int32) (mvl : Int32) (miw : Int32) (mld : Nat → Int32) (mrw : Nat → Int32) (mrn : Int32) (mso : Nat → Int32) (msz : Nat → Int32) (mnu : Nat → Int32) (mhw : Nat → Int32) (mhh : Nat → Int32) (mhm : Nat → Int32) (mbo : Nat → Int32) (mrr : Int32) (mak : Int32) (man : Int32) (maa : Int32) (mip : Int32) (x1 : Int32) (x2 : Int32) (x3 : Int32) (x4 : Int32) (x5 : Int32) (hn : TN mtn) (hf : TN mfr) (ht : TN mtt) (sz : Nat) : McI τ yX6_isFive wsX6_isFive rmX6_isFive .boolean [.ref (a 0), .int x1, .int x2, .int x3, .int x4, .int x5] (wM τ a ss mhd mas mbf mih mtp mtn mtk mfr mtt mvl miw mld mrw mrn mso msz mnu mhw mhh mhm mbo mrr mak man maa mip) (fun _ : Unit => (wM τ a ss mhd mas mbf mih mtp mtn mtk mfr mtt mvl miw mld mrw mrn mso msz mnu mhw mhh mhm mbo mrr mak man maa mip)) (f_X6_isFive mtp mtn mtk mfr mtt x1 x2 x3 x4 x5, ()) sz := by
  refine mc_I (cc := cX6_isFive) (own := RX6) [(0, .ref (a 0)), (1, .int x1), (2, .int x2), (3, .int x3), (4, .int x4), (5, .int x5)] rfl (by decide) rfl rfl (Nat.le_of_ble_eq_true rfl) (fun κ C hR => ?_)
  have hiX6 : ∀ w ∈ wsX60, w ∈ wsX6_isFive := fun w h => List.mem_cons_of_mem _ (List.mem_append_right _ h)
  unfold f_X6_isFive at hR
  refine j_aload_n C dX6_isFive_0 1 rfl rfl 0 rfl ?_
  refine j_iconst (v := 5) C dX6_isFive_1 2 rfl (by decide) ?_
  refine j_iload_n C dX6_isFive_2 3 rfl rfl 1 rfl ?_
  refine j_iload_n C dX6_isFive_3 4 rfl rfl 2 rfl ?_
  refine j_iload_n C dX6_isFive_4 5 rfl rfl 3 rfl ?_
  refine j_iload C dX6_isFive_5 7 rfl 5 rfl ?_
  refine j_cv0I (na := 5) C dX6_isFive_7 10 rfl (c_X6_isName τ a ss mhd mas mbf mih mtp mtn mtk mfr mtt mvl miw mld mrw mrn mso msz mnu mhw mhh mhm mbo mrr mak man maa mip (5 : Int32) x1 x2 x3 x5 (by first | assumption | exact TN0 | (unfold vp_in; decide) | decide) (by first | assumption | exact TN0 | (unfold vp_in; decide) | decide) (by first | assumption | exact TN0 | (unfold vp_in; decide) | decide) (by first | assumption | exact TN0 | (unfold vp_in; decide) | decide)) gX6_isFive_X6_isName rfl rfl rfl qd_X6_isName rfl ⟨by decide, by decide⟩ ⟨by decide, by decide⟩ rfl (Nat.le_of_ble_eq_true rfl) rfl 6 0 rfl rfl (fun r1 u1 hX1 hn1 => ?_)
  obtain rfl := (Prod.mk.inj hX1).1
  refine j_if_eq C dX6_isFive_10 32 rfl 13 rfl (fun c2 => ?_) (fun c2 => ?_)
  · rw [if_pos c2] at hR
    refine j_iconst (v := 0) C dX6_isFive_32 33 rfl (by decide) ?_
    exact Rt.ret (hR) (show narrow .boolean (.int (0 : Int32)) = .int (0 : Int32) from rfl) dX6_isFive_33
  · rw [if_neg c2] at hR
    refine j_aload_n C dX6_isFive_13 14 rfl rfl 0 rfl ?_
    refine j_aload_n C dX6_isFive_14 15 rfl rfl 0 rfl ?_
    refine j_get C dX6_isFive_15 18 rfl hiX6 0 rfl rfl 8 (by decide) rfl kX6_isFive_f70 rfl ?_
    refine j_iconst (v := 3) C dX6_isFive_18 19 rfl (by decide) ?_
    refine j_iadd C dX6_isFive_19 20 rfl ?_
    refine j_cv0I (na := 1) C dX6_isFive_20 23 rfl (c_X6_byteAt τ a ss mhd mas mbf mih mtp mtn mtk mfr mtt mvl miw mld mrw mrn mso msz mnu mhw mhh mhm mbo mrr mak man maa mip (mfr + 3) hn (ad_nn hf (i := 3) (by decide) (by decide)).1) gX6_isFive_X6_byteAt rfl rfl rfl qd_X6_byteAt rfl ⟨by decide, by decide⟩ ⟨by decide, by decide⟩ rfl (Nat.le_of_ble_eq_true rfl) rfl 6 0 rfl rfl (fun r3 u3 hX3 hn3 => ?_)
    obtain rfl := (Prod.mk.inj hX3).1
    refine j_iload C dX6_isFive_23 25 rfl 4 rfl ?_
    refine j_icmp_ne C dX6_isFive_25 32 rfl 28 rfl (fun c4 => ?_) (fun c4 => ?_)
    · rw [if_neg c4] at hR
      refine j_iconst (v := 0) C dX6_isFive_32 33 rfl (by decide) ?_
      exact Rt.ret (hR) (show narrow .boolean (.int (0 : Int32)) = .int (0 : Int32) from rfl) dX6_isFive_33
    · rw [if_pos c4] at hR
      refine j_iconst (v := 1) C dX6_isFive_28 29 rfl (by decide) ?_
      refine j_goto C dX6_isFive_29 33 rfl ?_
      exact Rt.ret (hR) (show narrow .boolean (.int (1 : Int32)) = .int (1 : Int32) from rfl) dX6_isFive_33

-- X6_kindHere
def f_X6_kindHere (mtp : Nat → Int32) (mtn : Int32) (mtk : Int32) (mfr : Int32) (mtt : Int32) : Int32 := if ((f_X6_isName mtp mtn mtk mfr mtt (9 : Int32) (110 : Int32) (101 : Int32) (105 : Int32) (114 : Int32)) = 0) then (if ((f_X6_isFour mtp mtn mtk mfr mtt (99 : Int32) (111 : Int32) (111 : Int32) (107 : Int32)) = 0) then (if ((f_X6_isName mtp mtn mtk mfr mtt (7 : Int32) (115 : Int32) (111 : Int32) (108 : Int32) (114 : Int32)) = 0) then (if ((f_X6_isFive mtp mtn mtk mfr mtt (98 : Int32) (97 : Int32) (107 : Int32) (101 : Int32) (114 : Int32)) = 0) then (if ((f_X6_isName mtp mtn mtk mfr mtt (7 : Int32) (111 : Int32) (102 : Int32) (102 : Int32) (114 : Int32)) = 0) then (if ((f_X6_isName mtp mtn mtk mfr mtt (6 : Int32) (109 : Int32) (111 : Int32) (116 : Int32) (114 : Int32)) = 0) then ((-1) : Int32) else (if ((f_X6_isSame mtp mtn mfr (2 : Int32) (116 : Int32) (104 : Int32) (101 : Int32)) = 0) then ((-1) : Int32) else (5 : Int32))) else (if ((f_X6_isSame mtp mtn mfr (3 : Int32) (105 : Int32) (99 : Int32) (101 : Int32)) = 0) then (if ((f_X6_isName mtp mtn mtk mfr mtt (6 : Int32) (109 : Int32) (111 : Int32) (116 : Int32) (114 : Int32)) = 0) then ((-1) : Int32) else (if ((f_X6_isSame mtp mtn mfr (2 : Int32) (116 : Int32) (104 : Int32) (101 : Int32)) = 0) then ((-1) : Int32) else (5 : Int32))) else (4 : Int32))) else (3 : Int32)) else (if ((f_X6_isSame mtp mtn mfr (3 : Int32) (100 : Int32) (105 : Int32) (101 : Int32)) = 0) then (if ((f_X6_isFive mtp mtn mtk mfr mtt (98 : Int32) (97 : Int32) (107 : Int32) (101 : Int32) (114 : Int32)) = 0) then (if ((f_X6_isName mtp mtn mtk mfr mtt (7 : Int32) (111 : Int32) (102 : Int32) (102 : Int32) (114 : Int32)) = 0) then (if ((f_X6_isName mtp mtn mtk mfr mtt (6 : Int32) (109 : Int32) (111 : Int32) (116 : Int32) (114 : Int32)) = 0) then ((-1) : Int32) else (if ((f_X6_isSame mtp mtn mfr (2 : Int32) (116 : Int32) (104 : Int32) (101 : Int32)) = 0) then ((-1) : Int32) else (5 : Int32))) else (if ((f_X6_isSame mtp mtn mfr (3 : Int32) (105 : Int32) (99 : Int32) (101 : Int32)) = 0) then (if ((f_X6_isName mtp mtn mtk mfr mtt (6 : Int32) (109 : Int32) (111 : Int32) (116 : Int32) (114 : Int32)) = 0) then ((-1) : Int32) else (if ((f_X6_isSame mtp mtn mfr (2 : Int32) (116 : Int32) (104 : Int32) (101 : Int32)) = 0) then ((-1) : Int32) else (5 : Int32))) else (4 : Int32))) else (3 : Int32)) else (2 : Int32))) else (1 : Int32)) else (if ((f_X6_isSame mtp mtn mfr (3 : Int32) (103 : Int32) (104 : Int32) (98 : Int32)) = 0) then (if ((f_X6_isFour mtp mtn mtk mfr mtt (99 : Int32) (111 : Int32) (111 : Int32) (107 : Int32)) = 0) then (if ((f_X6_isName mtp mtn mtk mfr mtt (7 : Int32) (115 : Int32) (111 : Int32) (108 : Int32) (114 : Int32)) = 0) then (if ((f_X6_isFive mtp mtn mtk mfr mtt (98 : Int32) (97 : Int32) (107 : Int32) (101 : Int32) (114 : Int32)) = 0) then (if ((f_X6_isName mtp mtn mtk mfr mtt (7 : Int32) (111 : Int32) (102 : Int32) (102 : Int32) (114 : Int32)) = 0) then (if ((f_X6_isName mtp mtn mtk mfr mtt (6 : Int32) (109 : Int32) (111 : Int32) (116 : Int32) (114 : Int32)) = 0) then ((-1) : Int32) else (if ((f_X6_isSame mtp mtn mfr (2 : Int32) (116 : Int32) (104 : Int32) (101 : Int32)) = 0) then ((-1) : Int32) else (5 : Int32))) else (if ((f_X6_isSame mtp mtn mfr (3 : Int32) (105 : Int32) (99 : Int32) (101 : Int32)) = 0) then (if ((f_X6_isName mtp mtn mtk mfr mtt (6 : Int32) (109 : Int32) (111 : Int32) (116 : Int32) (114 : Int32)) = 0) then ((-1) : Int32) else (if ((f_X6_isSame mtp mtn mfr (2 : Int32) (116 : Int32) (104 : Int32) (101 : Int32)) = 0) then ((-1) : Int32) else (5 : Int32))) else (4 : Int32))) else (3 : Int32)) else (if ((f_X6_isSame mtp mtn mfr (3 : Int32) (100 : Int32) (105 : Int32) (101 : Int32)) = 0) then (if ((f_X6_isFive mtp mtn mtk mfr mtt (98 : Int32) (97 : Int32) (107 : Int32) (101 : Int32) (114 : Int32)) = 0) then (if ((f_X6_isName mtp mtn mtk mfr mtt (7 : Int32) (111 : Int32) (102 : Int32) (102 : Int32) (114 : Int32)) = 0) then (if ((f_X6_isName mtp mtn mtk mfr mtt (6 : Int32) (109 : Int32) (111 : Int32) (116 : Int32) (114 : Int32)) = 0) then ((-1) : Int32) else (if ((f_X6_isSame mtp mtn mfr (2 : Int32) (116 : Int32) (104 : Int32) (101 : Int32)) = 0) then ((-1) : Int32) else (5 : Int32))) else (if ((f_X6_isSame mtp mtn mfr (3 : Int32) (105 : Int32) (99 : Int32) (101 : Int32)) = 0) then (if ((f_X6_isName mtp mtn mtk mfr mtt (6 : Int32) (109 : Int32) (111 : Int32) (116 : Int32) (114 : Int32)) = 0) then ((-1) : Int32) else (if ((f_X6_isSame mtp mtn mfr (2 : Int32) (116 : Int32) (104 : Int32) (101 : Int32)) = 0) then ((-1) : Int32) else (5 : Int32))) else (4 : Int32))) else (3 : Int32)) else (2 : Int32))) else (1 : Int32)) else (if ((f_X6_isSame mtp mtn mfr (6 : Int32) (111 : Int32) (117 : Int32) (114 : Int32)) = 0) then (if ((f_X6_isFour mtp mtn mtk mfr mtt (99 : Int32) (111 : Int32) (111 : Int32) (107 : Int32)) = 0) then (if ((f_X6_isName mtp mtn mtk mfr mtt (7 : Int32) (115 : Int32) (111 : Int32) (108 : Int32) (114 : Int32)) = 0) then (if ((f_X6_isFive mtp mtn mtk mfr mtt (98 : Int32) (97 : Int32) (107 : Int32) (101 : Int32) (114 : Int32)) = 0) then (if ((f_X6_isName mtp mtn mtk mfr mtt (7 : Int32) (111 : Int32) (102 : Int32) (102 : Int32) (114 : Int32)) = 0) then (if ((f_X6_isName mtp mtn mtk mfr mtt (6 : Int32) (109 : Int32) (111 : Int32) (116 : Int32) (114 : Int32)) = 0) then ((-1) : Int32) else (if ((f_X6_isSame mtp mtn mfr (2 : Int32) (116 : Int32) (104 : Int32) (101 : Int32)) = 0) then ((-1) : Int32) else (5 : Int32))) else (if ((f_X6_isSame mtp mtn mfr (3 : Int32) (105 : Int32) (99 : Int32) (101 : Int32)) = 0) then (if ((f_X6_isName mtp mtn mtk mfr mtt (6 : Int32) (109 : Int32) (111 : Int32) (116 : Int32) (114 : Int32)) = 0) then ((-1) : Int32) else (if ((f_X6_isSame mtp mtn mfr (2 : Int32) (116 : Int32) (104 : Int32) (101 : Int32)) = 0) then ((-1) : Int32) else (5 : Int32))) else (4 : Int32))) else (3 : Int32)) else (if ((f_X6_isSame mtp mtn mfr (3 : Int32) (100 : Int32) (105 : Int32) (101 : Int32)) = 0) then (if ((f_X6_isFive mtp mtn mtk mfr mtt (98 : Int32) (97 : Int32) (107 : Int32) (101 : Int32) (114 : Int32)) = 0) then (if ((f_X6_isName mtp mtn mtk mfr mtt (7 : Int32) (111 : Int32) (102 : Int32) (102 : Int32) (114 : Int32)) = 0) then (if ((f_X6_isName mtp mtn mtk mfr mtt (6 : Int32) (109 : Int32) (111 : Int32) (116 : Int32) (114 : Int32)) = 0) then ((-1) : Int32) else (if ((f_X6_isSame mtp mtn mfr (2 : Int32) (116 : Int32) (104 : Int32) (101 : Int32)) = 0) then ((-1) : Int32) else (5 : Int32))) else (if ((f_X6_isSame mtp mtn mfr (3 : Int32) (105 : Int32) (99 : Int32) (101 : Int32)) = 0) then (if ((f_X6_isName mtp mtn mtk mfr mtt (6 : Int32) (109 : Int32) (111 : Int32) (116 : Int32) (114 : Int32)) = 0) then ((-1) : Int32) else (if ((f_X6_isSame mtp mtn mfr (2 : Int32) (116 : Int32) (104 : Int32) (101 : Int32)) = 0) then ((-1) : Int32) else (5 : Int32))) else (4 : Int32))) else (3 : Int32)) else (2 : Int32))) else (1 : Int32)) else (0 : Int32)))
theorem qd_X6_kindHere : yX6_kindHere.cls = RX6 ∧ yX6_kindHere.cls ≠ "java/lang/invoke/MethodHandle" ∧ yX6_kindHere.cls ≠ "java/lang/invoke/VarHandle" ∧ (parseMethodDescriptor yX6_kindHere.desc).map (fun d => d.parameters.length) = some 0 := by decide +kernel
abbrev rmX6_kindHere : Room := { frames := 3, cells := 0, slots := 0, locals := 71 }
set_option maxHeartbeats 4000000 in
set_option maxRecDepth 100000 in
theorem c_X6_kindHere (τ : SX) (a : Nat → Nat) (ss : Nat → Int32) (mhd : Nat → Int32) (mas : Nat → Int32) (mbf : Nat → Int32) (mih : Int32) (mtp : Nat → Int32) (mtn : Int32) (mtk : Int32) (mfr : Int32) (mtt : Int32) (mvl : Int32) (miw : Int32) (mld : Nat → Int32) (mrw : Nat → Int32) (mrn : Int32) (mso : Nat → Int32) (msz : Nat → Int32) (mnu : Nat → Int32) (mhw : Nat → Int32) (mhh : Nat → Int32) (mhm : Nat → Int32) (mbo : Nat → Int32) (mrr : Int32) (mak : Int32) (man : Int32) (maa : Int32) (mip : Int32) (hn : TN mtn) (hf : TN mfr) (ht : TN mtt) (sz : Nat) : McI τ yX6_kindHere wsX6_kindHere rmX6_kindHere .int [.ref (a 0)] (wM τ a ss mhd mas mbf mih mtp mtn mtk mfr mtt mvl miw mld mrw mrn mso msz mnu mhw mhh mhm mbo mrr mak man maa mip) (fun _ : Unit => (wM τ a ss mhd mas mbf mih mtp mtn mtk mfr mtt mvl miw mld mrw mrn mso msz mnu mhw mhh mhm mbo mrr mak man maa mip)) (f_X6_kindHere mtp mtn mtk mfr mtt, ()) sz := by
  refine mc_I (cc := cX6_kindHere) (own := RX6) [(0, .ref (a 0))] rfl (by decide) rfl rfl (Nat.le_of_ble_eq_true rfl) (fun κ C hR => ?_)
  have hiX6 : ∀ w ∈ wsX60, w ∈ wsX6_kindHere := fun w h => List.mem_cons_of_mem _ (List.mem_append_right _ h)
  unfold f_X6_kindHere at hR
  refine j_aload_n C dX6_kindHere_0 1 rfl rfl 0 rfl ?_
  refine j_bipush (v := 9) C dX6_kindHere_1 3 rfl (by decide) ?_
  refine j_bipush (v := 110) C dX6_kindHere_3 5 rfl (by decide) ?_
  refine j_bipush (v := 101) C dX6_kindHere_5 7 rfl (by decide) ?_
  refine j_bipush (v := 105) C dX6_kindHere_7 9 rfl (by decide) ?_
  refine j_bipush (v := 114) C dX6_kindHere_9 11 rfl (by decide) ?_
  refine j_cv0I (na := 5) C dX6_kindHere_11 14 rfl (c_X6_isName τ a ss mhd mas mbf mih mtp mtn mtk mfr mtt mvl miw mld mrw mrn mso msz mnu mhw mhh mhm mbo mrr mak man maa mip (9 : Int32) (110 : Int32) (101 : Int32) (105 : Int32) (114 : Int32) (by first | assumption | exact TN0 | (unfold vp_in; decide) | decide) (by first | assumption | exact TN0 | (unfold vp_in; decide) | decide) (by first | assumption | exact TN0 | (unfold vp_in; decide) | decide) (by first | assumption | exact TN0 | (unfold vp_in; decide) | decide)) gX6_kindHere_X6_isName rfl rfl rfl qd_X6_isName rfl ⟨by decide, by decide⟩ ⟨by decide, by decide⟩ rfl (Nat.le_of_ble_eq_true rfl) rfl 6 0 rfl rfl (fun r1 u1 hX1 hn1 => ?_)
  obtain rfl := (Prod.mk.inj hX1).1
  refine j_if_eq C dX6_kindHere_14 48 rfl 17 rfl (fun c2 => ?_) (fun c2 => ?_)
  · rw [if_pos c2] at hR
    refine j_aload_n C dX6_kindHere_48 49 rfl rfl 0 rfl ?_
    refine j_bipush (v := 99) C dX6_kindHere_49 51 rfl (by decide) ?_
    refine j_bipush (v := 111) C dX6_kindHere_51 53 rfl (by decide) ?_
    refine j_bipush (v := 111) C dX6_kindHere_53 55 rfl (by decide) ?_
    refine j_bipush (v := 107) C dX6_kindHere_55 57 rfl (by decide) ?_
    refine j_cv0I (na := 4) C dX6_kindHere_57 60 rfl (c_X6_isFour τ a ss mhd mas mbf mih mtp mtn mtk mfr mtt mvl miw mld mrw mrn mso msz mnu mhw mhh mhm mbo mrr mak man maa mip (99 : Int32) (111 : Int32) (111 : Int32) (107 : Int32) (by first | assumption | exact TN0 | (unfold vp_in; decide) | decide) (by first | assumption | exact TN0 | (unfold vp_in; decide) | decide) (by first | assumption | exact TN0 | (unfold vp_in; decide) | decide)) gX6_kindHere_X6_isFour rfl rfl rfl qd_X6_isFour rfl ⟨by decide, by decide⟩ ⟨by decide, by decide⟩ rfl (Nat.le_of_ble_eq_true rfl) rfl 6 0 rfl rfl (fun r3 u3 hX3 hn3 => ?_)
    obtain rfl := (Prod.mk.inj hX3).1
    refine j_if_eq C dX6_kindHere_60 65 rfl 63 rfl (fun c4 => ?_) (fun c4 => ?_)
    · rw [if_pos c4] at hR
      refine j_aload_n C dX6_kindHere_65 66 rfl rfl 0 rfl ?_
      refine j_bipush (v := 7) C dX6_kindHere_66 68 rfl (by decide) ?_
      refine j_bipush (v := 115) C dX6_kindHere_68 70 rfl (by decide) ?_
      refine j_bipush (v := 111) C dX6_kindHere_70 72 rfl (by decide) ?_
      refine j_bipush (v := 108) C dX6_kindHere_72 74 rfl (by decide) ?_
      refine j_bipush (v := 114) C dX6_kindHere_74 76 rfl (by decide) ?_
      refine j_cv0I (na := 5) C dX6_kindHere_76 79 rfl (c_X6_isName τ a ss mhd mas mbf mih mtp mtn mtk mfr mtt mvl miw mld mrw mrn mso msz mnu mhw mhh mhm mbo mrr mak man maa mip (7 : Int32) (115 : Int32) (111 : Int32) (108 : Int32) (114 : Int32) (by first | assumption | exact TN0 | (unfold vp_in; decide) | decide) (by first | assumption | exact TN0 | (unfold vp_in; decide) | decide) (by first | assumption | exact TN0 | (unfold vp_in; decide) | decide) (by first | assumption | exact TN0 | (unfold vp_in; decide) | decide)) gX6_kindHere_X6_isName rfl rfl rfl qd_X6_isName rfl ⟨by decide, by decide⟩ ⟨by decide, by decide⟩ rfl (Nat.le_of_ble_eq_true rfl) rfl 6 0 rfl rfl (fun r5 u5 hX5 hn5 => ?_)
      obtain rfl := (Prod.mk.inj hX5).1
      refine j_if_eq C dX6_kindHere_79 98 rfl 82 rfl (fun c6 => ?_) (fun c6 => ?_)
      · rw [if_pos c6] at hR
        refine j_aload_n C dX6_kindHere_98 99 rfl rfl 0 rfl ?_
        refine j_bipush (v := 98) C dX6_kindHere_99 101 rfl (by decide) ?_
        refine j_bipush (v := 97) C dX6_kindHere_101 103 rfl (by decide) ?_
        refine j_bipush (v := 107) C dX6_kindHere_103 105 rfl (by decide) ?_
        refine j_bipush (v := 101) C dX6_kindHere_105 107 rfl (by decide) ?_
        refine j_bipush (v := 114) C dX6_kindHere_107 109 rfl (by decide) ?_
        refine j_cv0I (na := 5) C dX6_kindHere_109 112 rfl (c_X6_isFive τ a ss mhd mas mbf mih mtp mtn mtk mfr mtt mvl miw mld mrw mrn mso msz mnu mhw mhh mhm mbo mrr mak man maa mip (98 : Int32) (97 : Int32) (107 : Int32) (101 : Int32) (114 : Int32) (by first | assumption | exact TN0 | (unfold vp_in; decide) | decide) (by first | assumption | exact TN0 | (unfold vp_in; decide) | decide) (by first | assumption | exact TN0 | (unfold vp_in; decide) | decide)) gX6_kindHere_X6_isFive rfl rfl rfl qd_X6_isFive rfl ⟨by decide, by decide⟩ ⟨by decide, by decide⟩ rfl (Nat.le_of_ble_eq_true rfl) rfl 6 0 rfl rfl (fun r7 u7 hX7 hn7 => ?_)
        obtain rfl := (Prod.mk.inj hX7).1
        refine j_if_eq C dX6_kindHere_112 117 rfl 115 rfl (fun c8 => ?_) (fun c8 => ?_)
        · rw [if_pos c8] at hR
          refine j_aload_n C dX6_kindHere_117 118 rfl rfl 0 rfl ?_
          refine j_bipush (v := 7) C dX6_kindHere_118 120 rfl (by decide) ?_
          refine j_bipush (v := 111) C dX6_kindHere_120 122 rfl (by decide) ?_
          refine j_bipush (v := 102) C dX6_kindHere_122 124 rfl (by decide) ?_
          refine j_bipush (v := 102) C dX6_kindHere_124 126 rfl (by decide) ?_
          refine j_bipush (v := 114) C dX6_kindHere_126 128 rfl (by decide) ?_
          refine j_cv0I (na := 5) C dX6_kindHere_128 131 rfl (c_X6_isName τ a ss mhd mas mbf mih mtp mtn mtk mfr mtt mvl miw mld mrw mrn mso msz mnu mhw mhh mhm mbo mrr mak man maa mip (7 : Int32) (111 : Int32) (102 : Int32) (102 : Int32) (114 : Int32) (by first | assumption | exact TN0 | (unfold vp_in; decide) | decide) (by first | assumption | exact TN0 | (unfold vp_in; decide) | decide) (by first | assumption | exact TN0 | (unfold vp_in; decide) | decide) (by first | assumption | exact TN0 | (unfold vp_in; decide) | decide)) gX6_kindHere_X6_isName rfl rfl rfl qd_X6_isName rfl ⟨by decide, by decide⟩ ⟨by decide, by decide⟩ rfl (Nat.le_of_ble_eq_true rfl) rfl 6 0 rfl rfl (fun r9 u9 hX9 hn9 => ?_)
          obtain rfl := (Prod.mk.inj hX9).1
          refine j_if_eq C dX6_kindHere_131 150 rfl 134 rfl (fun c10 => ?_) (fun c10 => ?_)
          · rw [if_pos c10] at hR
            refine j_aload_n C dX6_kindHere_150 151 rfl rfl 0 rfl ?_
            refine j_bipush (v := 6) C dX6_kindHere_151 153 rfl (by decide) ?_
            refine j_bipush (v := 109) C dX6_kindHere_153 155 rfl (by decide) ?_
            refine j_bipush (v := 111) C dX6_kindHere_155 157 rfl (by decide) ?_
            refine j_bipush (v := 116) C dX6_kindHere_157 159 rfl (by decide) ?_
            refine j_bipush (v := 114) C dX6_kindHere_159 161 rfl (by decide) ?_
            refine j_cv0I (na := 5) C dX6_kindHere_161 164 rfl (c_X6_isName τ a ss mhd mas mbf mih mtp mtn mtk mfr mtt mvl miw mld mrw mrn mso msz mnu mhw mhh mhm mbo mrr mak man maa mip (6 : Int32) (109 : Int32) (111 : Int32) (116 : Int32) (114 : Int32) (by first | assumption | exact TN0 | (unfold vp_in; decide) | decide) (by first | assumption | exact TN0 | (unfold vp_in; decide) | decide) (by first | assumption | exact TN0 | (unfold vp_in; decide) | decide) (by first | assumption | exact TN0 | (unfold vp_in; decide) | decide)) gX6_kindHere_X6_isName rfl rfl rfl qd_X6_isName rfl ⟨by decide, by decide⟩ ⟨by decide, by decide⟩ rfl (Nat.le_of_ble_eq_true rfl) rfl 6 0 rfl rfl (fun r11 u11 hX11 hn11 => ?_)
            obtain rfl := (Prod.mk.inj hX11).1
            refine j_if_eq C dX6_kindHere_164 185 rfl 167 rfl (fun c12 => ?_) (fun c12 => ?_)
            · rw [if_pos c12] at hR
              refine j_iconst (v := (-1)) C dX6_kindHere_185 186 rfl (by decide) ?_
              exact Rt.ret (hR) rfl dX6_kindHere_186
            · rw [if_neg c12] at hR
              refine j_aload_n C dX6_kindHere_167 168 rfl rfl 0 rfl ?_
              refine j_iconst (v := 2) C dX6_kindHere_168 169 rfl (by decide) ?_
              refine j_bipush (v := 116) C dX6_kindHere_169 171 rfl (by decide) ?_
              refine j_bipush (v := 104) C dX6_kindHere_171 173 rfl (by decide) ?_
              refine j_bipush (v := 101) C dX6_kindHere_173 175 rfl (by decide) ?_
              refine j_cv0I (na := 4) C dX6_kindHere_175 178 rfl (c_X6_isSame τ a ss mhd mas mbf mih mtp mtn mtk mfr mtt mvl miw mld mrw mrn mso msz mnu mhw mhh mhm mbo mrr mak man maa mip (2 : Int32) (116 : Int32) (104 : Int32) (101 : Int32) (by first | assumption | exact TN0 | (unfold vp_in; decide) | decide) (by first | assumption | exact TN0 | (unfold vp_in; decide) | decide) (by first | assumption | exact TN0 | (unfold vp_in; decide) | decide) (by first | assumption | exact TN0 | (unfold vp_in; decide) | decide) (by first | assumption | exact TN0 | (unfold vp_in; decide) | decide)) gX6_kindHere_X6_isSame rfl rfl rfl qd_X6_isSame rfl ⟨by decide, by decide⟩ ⟨by decide, by decide⟩ rfl (Nat.le_of_ble_eq_true rfl) rfl 6 0 rfl rfl (fun r13 u13 hX13 hn13 => ?_)
              obtain rfl := (Prod.mk.inj hX13).1
              refine j_if_eq C dX6_kindHere_178 185 rfl 181 rfl (fun c14 => ?_) (fun c14 => ?_)
              · rw [if_pos c14] at hR
                refine j_iconst (v := (-1)) C dX6_kindHere_185 186 rfl (by decide) ?_
                exact Rt.ret (hR) rfl dX6_kindHere_186
              · rw [if_neg c14] at hR
                refine j_iconst (v := 5) C dX6_kindHere_181 182 rfl (by decide) ?_
                refine j_goto C dX6_kindHere_182 186 rfl ?_
                exact Rt.ret (hR) rfl dX6_kindHere_186
          · rw [if_neg c10] at hR
            refine j_aload_n C dX6_kindHere_134 135 rfl rfl 0 rfl ?_
            refine j_iconst (v := 3) C dX6_kindHere_135 136 rfl (by decide) ?_
            refine j_bipush (v := 105) C dX6_kindHere_136 138 rfl (by decide) ?_
            refine j_bipush (v := 99) C dX6_kindHere_138 140 rfl (by decide) ?_
            refine j_bipush (v := 101) C dX6_kindHere_140 142 rfl (by decide) ?_
            refine j_cv0I (na := 4) C dX6_kindHere_142 145 rfl (c_X6_isSame τ a ss mhd mas mbf mih mtp mtn mtk mfr mtt mvl miw mld mrw mrn mso msz mnu mhw mhh mhm mbo mrr mak man maa mip (3 : Int32) (105 : Int32) (99 : Int32) (101 : Int32) (by first | assumption | exact TN0 | (unfold vp_in; decide) | decide) (by first | assumption | exact TN0 | (unfold vp_in; decide) | decide) (by first | assumption | exact TN0 | (unfold vp_in; decide) | decide) (by first | assumption | exact TN0 | (unfold vp_in; decide) | decide) (by first | assumption | exact TN0 | (unfold vp_in; decide) | decide)) gX6_kindHere_X6_isSame rfl rfl rfl qd_X6_isSame rfl ⟨by decide, by decide⟩ ⟨by decide, by decide⟩ rfl (Nat.le_of_ble_eq_true rfl) rfl 6 0 rfl rfl (fun r15 u15 hX15 hn15 => ?_)
            obtain rfl := (Prod.mk.inj hX15).1
            refine j_if_eq C dX6_kindHere_145 150 rfl 148 rfl (fun c16 => ?_) (fun c16 => ?_)
            · rw [if_pos c16] at hR
              refine j_aload_n C dX6_kindHere_150 151 rfl rfl 0 rfl ?_
              refine j_bipush (v := 6) C dX6_kindHere_151 153 rfl (by decide) ?_
              refine j_bipush (v := 109) C dX6_kindHere_153 155 rfl (by decide) ?_
              refine j_bipush (v := 111) C dX6_kindHere_155 157 rfl (by decide) ?_
              refine j_bipush (v := 116) C dX6_kindHere_157 159 rfl (by decide) ?_
              refine j_bipush (v := 114) C dX6_kindHere_159 161 rfl (by decide) ?_
              refine j_cv0I (na := 5) C dX6_kindHere_161 164 rfl (c_X6_isName τ a ss mhd mas mbf mih mtp mtn mtk mfr mtt mvl miw mld mrw mrn mso msz mnu mhw mhh mhm mbo mrr mak man maa mip (6 : Int32) (109 : Int32) (111 : Int32) (116 : Int32) (114 : Int32) (by first | assumption | exact TN0 | (unfold vp_in; decide) | decide) (by first | assumption | exact TN0 | (unfold vp_in; decide) | decide) (by first | assumption | exact TN0 | (unfold vp_in; decide) | decide) (by first | assumption | exact TN0 | (unfold vp_in; decide) | decide)) gX6_kindHere_X6_isName rfl rfl rfl qd_X6_isName rfl ⟨by decide, by decide⟩ ⟨by decide, by decide⟩ rfl (Nat.le_of_ble_eq_true rfl) rfl 6 0 rfl rfl (fun r17 u17 hX17 hn17 => ?_)
              obtain rfl := (Prod.mk.inj hX17).1
              refine j_if_eq C dX6_kindHere_164 185 rfl 167 rfl (fun c18 => ?_) (fun c18 => ?_)
              · rw [if_pos c18] at hR
                refine j_iconst (v := (-1)) C dX6_kindHere_185 186 rfl (by decide) ?_
                exact Rt.ret (hR) rfl dX6_kindHere_186
              · rw [if_neg c18] at hR
                refine j_aload_n C dX6_kindHere_167 168 rfl rfl 0 rfl ?_
                refine j_iconst (v := 2) C dX6_kindHere_168 169 rfl (by decide) ?_
                refine j_bipush (v := 116) C dX6_kindHere_169 171 rfl (by decide) ?_
                refine j_bipush (v := 104) C dX6_kindHere_171 173 rfl (by decide) ?_
                refine j_bipush (v := 101) C dX6_kindHere_173 175 rfl (by decide) ?_
                refine j_cv0I (na := 4) C dX6_kindHere_175 178 rfl (c_X6_isSame τ a ss mhd mas mbf mih mtp mtn mtk mfr mtt mvl miw mld mrw mrn mso msz mnu mhw mhh mhm mbo mrr mak man maa mip (2 : Int32) (116 : Int32) (104 : Int32) (101 : Int32) (by first | assumption | exact TN0 | (unfold vp_in; decide) | decide) (by first | assumption | exact TN0 | (unfold vp_in; decide) | decide) (by first | assumption | exact TN0 | (unfold vp_in; decide) | decide) (by first | assumption | exact TN0 | (unfold vp_in; decide) | decide) (by first | assumption | exact TN0 | (unfold vp_in; decide) | decide)) gX6_kindHere_X6_isSame rfl rfl rfl qd_X6_isSame rfl ⟨by decide, by decide⟩ ⟨by decide, by decide⟩ rfl (Nat.le_of_ble_eq_true rfl) rfl 6 0 rfl rfl (fun r19 u19 hX19 hn19 => ?_)
                obtain rfl := (Prod.mk.inj hX19).1
                refine j_if_eq C dX6_kindHere_178 185 rfl 181 rfl (fun c20 => ?_) (fun c20 => ?_)
                · rw [if_pos c20] at hR
                  refine j_iconst (v := (-1)) C dX6_kindHere_185 186 rfl (by decide) ?_
                  exact Rt.ret (hR) rfl dX6_kindHere_186
                · rw [if_neg c20] at hR
                  refine j_iconst (v := 5) C dX6_kindHere_181 182 rfl (by decide) ?_
                  refine j_goto C dX6_kindHere_182 186 rfl ?_
                  exact Rt.ret (hR) rfl dX6_kindHere_186
            · rw [if_neg c16] at hR
              refine j_iconst (v := 4) C dX6_kindHere_148 149 rfl (by decide) ?_
              exact Rt.ret (hR) rfl dX6_kindHere_149
        · rw [if_neg c8] at hR
          refine j_iconst (v := 3) C dX6_kindHere_115 116 rfl (by decide) ?_
          exact Rt.ret (hR) rfl dX6_kindHere_116
      · rw [if_neg c6] at hR
        refine j_aload_n C dX6_kindHere_82 83 rfl rfl 0 rfl ?_
        refine j_iconst (v := 3) C dX6_kindHere_83 84 rfl (by decide) ?_
        refine j_bipush (v := 100) C dX6_kindHere_84 86 rfl (by decide) ?_
        refine j_bipush (v := 105) C dX6_kindHere_86 88 rfl (by decide) ?_
        refine j_bipush (v := 101) C dX6_kindHere_88 90 rfl (by decide) ?_
        refine j_cv0I (na := 4) C dX6_kindHere_90 93 rfl (c_X6_isSame τ a ss mhd mas mbf mih mtp mtn mtk mfr mtt mvl miw mld mrw mrn mso msz mnu mhw mhh mhm mbo mrr mak man maa mip (3 : Int32) (100 : Int32) (105 : Int32) (101 : Int32) (by first | assumption | exact TN0 | (unfold vp_in; decide) | decide) (by first | assumption | exact TN0 | (unfold vp_in; decide) | decide) (by first | assumption | exact TN0 | (unfold vp_in; decide) | decide) (by first | assumption | exact TN0 | (unfold vp_in; decide) | decide) (by first | assumption | exact TN0 | (unfold vp_in; decide) | decide)) gX6_kindHere_X6_isSame rfl rfl rfl qd_X6_isSame rfl ⟨by decide, by decide⟩ ⟨by decide, by decide⟩ rfl (Nat.le_of_ble_eq_true rfl) rfl 6 0 rfl rfl (fun r21 u21 hX21 hn21 => ?_)
        obtain rfl := (Prod.mk.inj hX21).1
        refine j_if_eq C dX6_kindHere_93 98 rfl 96 rfl (fun c22 => ?_) (fun c22 => ?_)
        · rw [if_pos c22] at hR
          refine j_aload_n C dX6_kindHere_98 99 rfl rfl 0 rfl ?_
          refine j_bipush (v := 98) C dX6_kindHere_99 101 rfl (by decide) ?_
          refine j_bipush (v := 97) C dX6_kindHere_101 103 rfl (by decide) ?_
          refine j_bipush (v := 107) C dX6_kindHere_103 105 rfl (by decide) ?_
          refine j_bipush (v := 101) C dX6_kindHere_105 107 rfl (by decide) ?_
          refine j_bipush (v := 114) C dX6_kindHere_107 109 rfl (by decide) ?_
          refine j_cv0I (na := 5) C dX6_kindHere_109 112 rfl (c_X6_isFive τ a ss mhd mas mbf mih mtp mtn mtk mfr mtt mvl miw mld mrw mrn mso msz mnu mhw mhh mhm mbo mrr mak man maa mip (98 : Int32) (97 : Int32) (107 : Int32) (101 : Int32) (114 : Int32) (by first | assumption | exact TN0 | (unfold vp_in; decide) | decide) (by first | assumption | exact TN0 | (unfold vp_in; decide) | decide) (by first | assumption | exact TN0 | (unfold vp_in; decide) | decide)) gX6_kindHere_X6_isFive rfl rfl rfl qd_X6_isFive rfl ⟨by decide, by decide⟩ ⟨by decide, by decide⟩ rfl (Nat.le_of_ble_eq_true rfl) rfl 6 0 rfl rfl (fun r23 u23 hX23 hn23 => ?_)
          obtain rfl := (Prod.mk.inj hX23).1
          refine j_if_eq C dX6_kindHere_112 117 rfl 115 rfl (fun c24 => ?_) (fun c24 => ?_)
          · rw [if_pos c24] at hR
            refine j_aload_n C dX6_kindHere_117 118 rfl rfl 0 rfl ?_
            refine j_bipush (v := 7) C dX6_kindHere_118 120 rfl (by decide) ?_
            refine j_bipush (v := 111) C dX6_kindHere_120 122 rfl (by decide) ?_
            refine j_bipush (v := 102) C dX6_kindHere_122 124 rfl (by decide) ?_
            refine j_bipush (v := 102) C dX6_kindHere_124 126 rfl (by decide) ?_
            refine j_bipush (v := 114) C dX6_kindHere_126 128 rfl (by decide) ?_
            refine j_cv0I (na := 5) C dX6_kindHere_128 131 rfl (c_X6_isName τ a ss mhd mas mbf mih mtp mtn mtk mfr mtt mvl miw mld mrw mrn mso msz mnu mhw mhh mhm mbo mrr mak man maa mip (7 : Int32) (111 : Int32) (102 : Int32) (102 : Int32) (114 : Int32) (by first | assumption | exact TN0 | (unfold vp_in; decide) | decide) (by first | assumption | exact TN0 | (unfold vp_in; decide) | decide) (by first | assumption | exact TN0 | (unfold vp_in; decide) | decide) (by first | assumption | exact TN0 | (unfold vp_in; decide) | decide)) gX6_kindHere_X6_isName rfl rfl rfl qd_X6_isName rfl ⟨by decide, by decide⟩ ⟨by decide, by decide⟩ rfl (Nat.le_of_ble_eq_true rfl) rfl 6 0 rfl rfl (fun r25 u25 hX25 hn25 => ?_)
            obtain rfl := (Prod.mk.inj hX25).1
            refine j_if_eq C dX6_kindHere_131 150 rfl 134 rfl (fun c26 => ?_) (fun c26 => ?_)
            · rw [if_pos c26] at hR
              refine j_aload_n C dX6_kindHere_150 151 rfl rfl 0 rfl ?_
              refine j_bipush (v := 6) C dX6_kindHere_151 153 rfl (by decide) ?_
              refine j_bipush (v := 109) C dX6_kindHere_153 155 rfl (by decide) ?_
              refine j_bipush (v := 111) C dX6_kindHere_155 157 rfl (by decide) ?_
              refine j_bipush (v := 116) C dX6_kindHere_157 159 rfl (by decide) ?_
              refine j_bipush (v := 114) C dX6_kindHere_159 161 rfl (by decide) ?_
              refine j_cv0I (na := 5) C dX6_kindHere_161 164 rfl (c_X6_isName τ a ss mhd mas mbf mih mtp mtn mtk mfr mtt mvl miw mld mrw mrn mso msz mnu mhw mhh mhm mbo mrr mak man maa mip (6 : Int32) (109 : Int32) (111 : Int32) (116 : Int32) (114 : Int32) (by first | assumption | exact TN0 | (unfold vp_in; decide) | decide) (by first | assumption | exact TN0 | (unfold vp_in; decide) | decide) (by first | assumption | exact TN0 | (unfold vp_in; decide) | decide) (by first | assumption | exact TN0 | (unfold vp_in; decide) | decide)) gX6_kindHere_X6_isName rfl rfl rfl qd_X6_isName rfl ⟨by decide, by decide⟩ ⟨by decide, by decide⟩ rfl (Nat.le_of_ble_eq_true rfl) rfl 6 0 rfl rfl (fun r27 u27 hX27 hn27 => ?_)
              obtain rfl := (Prod.mk.inj hX27).1
              refine j_if_eq C dX6_kindHere_164 185 rfl 167 rfl (fun c28 => ?_) (fun c28 => ?_)
              · rw [if_pos c28] at hR
                refine j_iconst (v := (-1)) C dX6_kindHere_185 186 rfl (by decide) ?_
                exact Rt.ret (hR) rfl dX6_kindHere_186
              · rw [if_neg c28] at hR
                refine j_aload_n C dX6_kindHere_167 168 rfl rfl 0 rfl ?_
                refine j_iconst (v := 2) C dX6_kindHere_168 169 rfl (by decide) ?_
                refine j_bipush (v := 116) C dX6_kindHere_169 171 rfl (by decide) ?_
                refine j_bipush (v := 104) C dX6_kindHere_171 173 rfl (by decide) ?_
                refine j_bipush (v := 101) C dX6_kindHere_173 175 rfl (by decide) ?_
                refine j_cv0I (na := 4) C dX6_kindHere_175 178 rfl (c_X6_isSame τ a ss mhd mas mbf mih mtp mtn mtk mfr mtt mvl miw mld mrw mrn mso msz mnu mhw mhh mhm mbo mrr mak man maa mip (2 : Int32) (116 : Int32) (104 : Int32) (101 : Int32) (by first | assumption | exact TN0 | (unfold vp_in; decide) | decide) (by first | assumption | exact TN0 | (unfold vp_in; decide) | decide) (by first | assumption | exact TN0 | (unfold vp_in; decide) | decide) (by first | assumption | exact TN0 | (unfold vp_in; decide) | decide) (by first | assumption | exact TN0 | (unfold vp_in; decide) | decide)) gX6_kindHere_X6_isSame rfl rfl rfl qd_X6_isSame rfl ⟨by decide, by decide⟩ ⟨by decide, by decide⟩ rfl (Nat.le_of_ble_eq_true rfl) rfl 6 0 rfl rfl (fun r29 u29 hX29 hn29 => ?_)
                obtain rfl := (Prod.mk.inj hX29).1
                refine j_if_eq C dX6_kindHere_178 185 rfl 181 rfl (fun c30 => ?_) (fun c30 => ?_)
                · rw [if_pos c30] at hR
                  refine j_iconst (v := (-1)) C dX6_kindHere_185 186 rfl (by decide) ?_
                  exact Rt.ret (hR) rfl dX6_kindHere_186
                · rw [if_neg c30] at hR
                  refine j_iconst (v := 5) C dX6_kindHere_181 182 rfl (by decide) ?_
                  refine j_goto C dX6_kindHere_182 186 rfl ?_
                  exact Rt.ret (hR) rfl dX6_kindHere_186
            · rw [if_neg c26] at hR
              refine j_aload_n C dX6_kindHere_134 135 rfl rfl 0 rfl ?_
              refine j_iconst (v := 3) C dX6_kindHere_135 136 rfl (by decide) ?_
              refine j_bipush (v := 105) C dX6_kindHere_136 138 rfl (by decide) ?_
              refine j_bipush (v := 99) C dX6_kindHere_138 140 rfl (by decide) ?_
              refine j_bipush (v := 101) C dX6_kindHere_140 142 rfl (by decide) ?_
              refine j_cv0I (na := 4) C dX6_kindHere_142 145 rfl (c_X6_isSame τ a ss mhd mas mbf mih mtp mtn mtk mfr mtt mvl miw mld mrw mrn mso msz mnu mhw mhh mhm mbo mrr mak man maa mip (3 : Int32) (105 : Int32) (99 : Int32) (101 : Int32) (by first | assumption | exact TN0 | (unfold vp_in; decide) | decide) (by first | assumption | exact TN0 | (unfold vp_in; decide) | decide) (by first | assumption | exact TN0 | (unfold vp_in; decide) | decide) (by first | assumption | exact TN0 | (unfold vp_in; decide) | decide) (by first | assumption | exact TN0 | (unfold vp_in; decide) | decide)) gX6_kindHere_X6_isSame rfl rfl rfl qd_X6_isSame rfl ⟨by decide, by decide⟩ ⟨by decide, by decide⟩ rfl (Nat.le_of_ble_eq_true rfl) rfl 6 0 rfl rfl (fun r31 u31 hX31 hn31 => ?_)
              obtain rfl := (Prod.mk.inj hX31).1
              refine j_if_eq C dX6_kindHere_145 150 rfl 148 rfl (fun c32 => ?_) (fun c32 => ?_)
              · rw [if_pos c32] at hR
                refine j_aload_n C dX6_kindHere_150 151 rfl rfl 0 rfl ?_
                refine j_bipush (v := 6) C dX6_kindHere_151 153 rfl (by decide) ?_
                refine j_bipush (v := 109) C dX6_kindHere_153 155 rfl (by decide) ?_
                refine j_bipush (v := 111) C dX6_kindHere_155 157 rfl (by decide) ?_
                refine j_bipush (v := 116) C dX6_kindHere_157 159 rfl (by decide) ?_
                refine j_bipush (v := 114) C dX6_kindHere_159 161 rfl (by decide) ?_
                refine j_cv0I (na := 5) C dX6_kindHere_161 164 rfl (c_X6_isName τ a ss mhd mas mbf mih mtp mtn mtk mfr mtt mvl miw mld mrw mrn mso msz mnu mhw mhh mhm mbo mrr mak man maa mip (6 : Int32) (109 : Int32) (111 : Int32) (116 : Int32) (114 : Int32) (by first | assumption | exact TN0 | (unfold vp_in; decide) | decide) (by first | assumption | exact TN0 | (unfold vp_in; decide) | decide) (by first | assumption | exact TN0 | (unfold vp_in; decide) | decide) (by first | assumption | exact TN0 | (unfold vp_in; decide) | decide)) gX6_kindHere_X6_isName rfl rfl rfl qd_X6_isName rfl ⟨by decide, by decide⟩ ⟨by decide, by decide⟩ rfl (Nat.le_of_ble_eq_true rfl) rfl 6 0 rfl rfl (fun r33 u33 hX33 hn33 => ?_)
                obtain rfl := (Prod.mk.inj hX33).1
                refine j_if_eq C dX6_kindHere_164 185 rfl 167 rfl (fun c34 => ?_) (fun c34 => ?_)
                · rw [if_pos c34] at hR
                  refine j_iconst (v := (-1)) C dX6_kindHere_185 186 rfl (by decide) ?_
                  exact Rt.ret (hR) rfl dX6_kindHere_186
                · rw [if_neg c34] at hR
                  refine j_aload_n C dX6_kindHere_167 168 rfl rfl 0 rfl ?_
                  refine j_iconst (v := 2) C dX6_kindHere_168 169 rfl (by decide) ?_
                  refine j_bipush (v := 116) C dX6_kindHere_169 171 rfl (by decide) ?_
                  refine j_bipush (v := 104) C dX6_kindHere_171 173 rfl (by decide) ?_
                  refine j_bipush (v := 101) C dX6_kindHere_173 175 rfl (by decide) ?_
                  refine j_cv0I (na := 4) C dX6_kindHere_175 178 rfl (c_X6_isSame τ a ss mhd mas mbf mih mtp mtn mtk mfr mtt mvl miw mld mrw mrn mso msz mnu mhw mhh mhm mbo mrr mak man maa mip (2 : Int32) (116 : Int32) (104 : Int32) (101 : Int32) (by first | assumption | exact TN0 | (unfold vp_in; decide) | decide) (by first | assumption | exact TN0 | (unfold vp_in; decide) | decide) (by first | assumption | exact TN0 | (unfold vp_in; decide) | decide) (by first | assumption | exact TN0 | (unfold vp_in; decide) | decide) (by first | assumption | exact TN0 | (unfold vp_in; decide) | decide)) gX6_kindHere_X6_isSame rfl rfl rfl qd_X6_isSame rfl ⟨by decide, by decide⟩ ⟨by decide, by decide⟩ rfl (Nat.le_of_ble_eq_true rfl) rfl 6 0 rfl rfl (fun r35 u35 hX35 hn35 => ?_)
                  obtain rfl := (Prod.mk.inj hX35).1
                  refine j_if_eq C dX6_kindHere_178 185 rfl 181 rfl (fun c36 => ?_) (fun c36 => ?_)
                  · rw [if_pos c36] at hR
                    refine j_iconst (v := (-1)) C dX6_kindHere_185 186 rfl (by decide) ?_
                    exact Rt.ret (hR) rfl dX6_kindHere_186
                  · rw [if_neg c36] at hR
                    refine j_iconst (v := 5) C dX6_kindHere_181 182 rfl (by decide) ?_
                    refine j_goto C dX6_kindHere_182 186 rfl ?_
                    exact Rt.ret (hR) rfl dX6_kindHere_186
              · rw [if_neg c32] at hR
                refine j_iconst (v := 4) C dX6_kindHere_148 149 rfl (by decide) ?_
                exact Rt.ret (hR) rfl dX6_kindHere_149
          · rw [if_neg c24] at hR
            refine j_iconst (v := 3) C dX6_kindHere_115 116 rfl (by decide) ?_
            exact Rt.ret (hR) rfl dX6_kindHere_116
        · rw [if_neg c22] at hR
          refine j_iconst (v := 2) C dX6_kindHere_96 97 rfl (by decide) ?_
          exact Rt.ret (hR) rfl dX6_kindHere_97
    · rw [if_neg c4] at hR
      refine j_iconst (v := 1) C dX6_kindHere_63 64 rfl (by decide) ?_
      exact Rt.ret (hR) rfl dX6_kindHere_64
  · rw [if_neg c2] at hR
    refine j_aload_n C dX6_kindHere_17 18 rfl rfl 0 rfl ?_
    refine j_iconst (v := 3) C dX6_kindHere_18 19 rfl (by decide) ?_
    refine j_bipush (v := 103) C dX6_kindHere_19 21 rfl (by decide) ?_
    refine j_bipush (v := 104) C dX6_kindHere_21 23 rfl (by decide) ?_
    refine j_bipush (v := 98) C dX6_kindHere_23 25 rfl (by decide) ?_
    refine j_cv0I (na := 4) C dX6_kindHere_25 28 rfl (c_X6_isSame τ a ss mhd mas mbf mih mtp mtn mtk mfr mtt mvl miw mld mrw mrn mso msz mnu mhw mhh mhm mbo mrr mak man maa mip (3 : Int32) (103 : Int32) (104 : Int32) (98 : Int32) (by first | assumption | exact TN0 | (unfold vp_in; decide) | decide) (by first | assumption | exact TN0 | (unfold vp_in; decide) | decide) (by first | assumption | exact TN0 | (unfold vp_in; decide) | decide) (by first | assumption | exact TN0 | (unfold vp_in; decide) | decide) (by first | assumption | exact TN0 | (unfold vp_in; decide) | decide)) gX6_kindHere_X6_isSame rfl rfl rfl qd_X6_isSame rfl ⟨by decide, by decide⟩ ⟨by decide, by decide⟩ rfl (Nat.le_of_ble_eq_true rfl) rfl 6 0 rfl rfl (fun r37 u37 hX37 hn37 => ?_)
    obtain rfl := (Prod.mk.inj hX37).1
    refine j_if_eq C dX6_kindHere_28 48 rfl 31 rfl (fun c38 => ?_) (fun c38 => ?_)
    · rw [if_pos c38] at hR
      refine j_aload_n C dX6_kindHere_48 49 rfl rfl 0 rfl ?_
      refine j_bipush (v := 99) C dX6_kindHere_49 51 rfl (by decide) ?_
      refine j_bipush (v := 111) C dX6_kindHere_51 53 rfl (by decide) ?_
      refine j_bipush (v := 111) C dX6_kindHere_53 55 rfl (by decide) ?_
      refine j_bipush (v := 107) C dX6_kindHere_55 57 rfl (by decide) ?_
      refine j_cv0I (na := 4) C dX6_kindHere_57 60 rfl (c_X6_isFour τ a ss mhd mas mbf mih mtp mtn mtk mfr mtt mvl miw mld mrw mrn mso msz mnu mhw mhh mhm mbo mrr mak man maa mip (99 : Int32) (111 : Int32) (111 : Int32) (107 : Int32) (by first | assumption | exact TN0 | (unfold vp_in; decide) | decide) (by first | assumption | exact TN0 | (unfold vp_in; decide) | decide) (by first | assumption | exact TN0 | (unfold vp_in; decide) | decide)) gX6_kindHere_X6_isFour rfl rfl rfl qd_X6_isFour rfl ⟨by decide, by decide⟩ ⟨by decide, by decide⟩ rfl (Nat.le_of_ble_eq_true rfl) rfl 6 0 rfl rfl (fun r39 u39 hX39 hn39 => ?_)
      obtain rfl := (Prod.mk.inj hX39).1
      refine j_if_eq C dX6_kindHere_60 65 rfl 63 rfl (fun c40 => ?_) (fun c40 => ?_)
      · rw [if_pos c40] at hR
        refine j_aload_n C dX6_kindHere_65 66 rfl rfl 0 rfl ?_
        refine j_bipush (v := 7) C dX6_kindHere_66 68 rfl (by decide) ?_
        refine j_bipush (v := 115) C dX6_kindHere_68 70 rfl (by decide) ?_
        refine j_bipush (v := 111) C dX6_kindHere_70 72 rfl (by decide) ?_
        refine j_bipush (v := 108) C dX6_kindHere_72 74 rfl (by decide) ?_
        refine j_bipush (v := 114) C dX6_kindHere_74 76 rfl (by decide) ?_
        refine j_cv0I (na := 5) C dX6_kindHere_76 79 rfl (c_X6_isName τ a ss mhd mas mbf mih mtp mtn mtk mfr mtt mvl miw mld mrw mrn mso msz mnu mhw mhh mhm mbo mrr mak man maa mip (7 : Int32) (115 : Int32) (111 : Int32) (108 : Int32) (114 : Int32) (by first | assumption | exact TN0 | (unfold vp_in; decide) | decide) (by first | assumption | exact TN0 | (unfold vp_in; decide) | decide) (by first | assumption | exact TN0 | (unfold vp_in; decide) | decide) (by first | assumption | exact TN0 | (unfold vp_in; decide) | decide)) gX6_kindHere_X6_isName rfl rfl rfl qd_X6_isName rfl ⟨by decide, by decide⟩ ⟨by decide, by decide⟩ rfl (Nat.le_of_ble_eq_true rfl) rfl 6 0 rfl rfl (fun r41 u41 hX41 hn41 => ?_)
        obtain rfl := (Prod.mk.inj hX41).1
        refine j_if_eq C dX6_kindHere_79 98 rfl 82 rfl (fun c42 => ?_) (fun c42 => ?_)
        · rw [if_pos c42] at hR
          refine j_aload_n C dX6_kindHere_98 99 rfl rfl 0 rfl ?_
          refine j_bipush (v := 98) C dX6_kindHere_99 101 rfl (by decide) ?_
          refine j_bipush (v := 97) C dX6_kindHere_101 103 rfl (by decide) ?_
          refine j_bipush (v := 107) C dX6_kindHere_103 105 rfl (by decide) ?_
          refine j_bipush (v := 101) C dX6_kindHere_105 107 rfl (by decide) ?_
          refine j_bipush (v := 114) C dX6_kindHere_107 109 rfl (by decide) ?_
          refine j_cv0I (na := 5) C dX6_kindHere_109 112 rfl (c_X6_isFive τ a ss mhd mas mbf mih mtp mtn mtk mfr mtt mvl miw mld mrw mrn mso msz mnu mhw mhh mhm mbo mrr mak man maa mip (98 : Int32) (97 : Int32) (107 : Int32) (101 : Int32) (114 : Int32) (by first | assumption | exact TN0 | (unfold vp_in; decide) | decide) (by first | assumption | exact TN0 | (unfold vp_in; decide) | decide) (by first | assumption | exact TN0 | (unfold vp_in; decide) | decide)) gX6_kindHere_X6_isFive rfl rfl rfl qd_X6_isFive rfl ⟨by decide, by decide⟩ ⟨by decide, by decide⟩ rfl (Nat.le_of_ble_eq_true rfl) rfl 6 0 rfl rfl (fun r43 u43 hX43 hn43 => ?_)
          obtain rfl := (Prod.mk.inj hX43).1
          refine j_if_eq C dX6_kindHere_112 117 rfl 115 rfl (fun c44 => ?_) (fun c44 => ?_)
          · rw [if_pos c44] at hR
            refine j_aload_n C dX6_kindHere_117 118 rfl rfl 0 rfl ?_
            refine j_bipush (v := 7) C dX6_kindHere_118 120 rfl (by decide) ?_
            refine j_bipush (v := 111) C dX6_kindHere_120 122 rfl (by decide) ?_
            refine j_bipush (v := 102) C dX6_kindHere_122 124 rfl (by decide) ?_
            refine j_bipush (v := 102) C dX6_kindHere_124 126 rfl (by decide) ?_
            refine j_bipush (v := 114) C dX6_kindHere_126 128 rfl (by decide) ?_
            refine j_cv0I (na := 5) C dX6_kindHere_128 131 rfl (c_X6_isName τ a ss mhd mas mbf mih mtp mtn mtk mfr mtt mvl miw mld mrw mrn mso msz mnu mhw mhh mhm mbo mrr mak man maa mip (7 : Int32) (111 : Int32) (102 : Int32) (102 : Int32) (114 : Int32) (by first | assumption | exact TN0 | (unfold vp_in; decide) | decide) (by first | assumption | exact TN0 | (unfold vp_in; decide) | decide) (by first | assumption | exact TN0 | (unfold vp_in; decide) | decide) (by first | assumption | exact TN0 | (unfold vp_in; decide) | decide)) gX6_kindHere_X6_isName rfl rfl rfl qd_X6_isName rfl ⟨by decide, by decide⟩ ⟨by decide, by decide⟩ rfl (Nat.le_of_ble_eq_true rfl) rfl 6 0 rfl rfl (fun r45 u45 hX45 hn45 => ?_)
            obtain rfl := (Prod.mk.inj hX45).1
            refine j_if_eq C dX6_kindHere_131 150 rfl 134 rfl (fun c46 => ?_) (fun c46 => ?_)
            · rw [if_pos c46] at hR
              refine j_aload_n C dX6_kindHere_150 151 rfl rfl 0 rfl ?_
              refine j_bipush (v := 6) C dX6_kindHere_151 153 rfl (by decide) ?_
              refine j_bipush (v := 109) C dX6_kindHere_153 155 rfl (by decide) ?_
              refine j_bipush (v := 111) C dX6_kindHere_155 157 rfl (by decide) ?_
              refine j_bipush (v := 116) C dX6_kindHere_157 159 rfl (by decide) ?_
              refine j_bipush (v := 114) C dX6_kindHere_159 161 rfl (by decide) ?_
              refine j_cv0I (na := 5) C dX6_kindHere_161 164 rfl (c_X6_isName τ a ss mhd mas mbf mih mtp mtn mtk mfr mtt mvl miw mld mrw mrn mso msz mnu mhw mhh mhm mbo mrr mak man maa mip (6 : Int32) (109 : Int32) (111 : Int32) (116 : Int32) (114 : Int32) (by first | assumption | exact TN0 | (unfold vp_in; decide) | decide) (by first | assumption | exact TN0 | (unfold vp_in; decide) | decide) (by first | assumption | exact TN0 | (unfold vp_in; decide) | decide) (by first | assumption | exact TN0 | (unfold vp_in; decide) | decide)) gX6_kindHere_X6_isName rfl rfl rfl qd_X6_isName rfl ⟨by decide, by decide⟩ ⟨by decide, by decide⟩ rfl (Nat.le_of_ble_eq_true rfl) rfl 6 0 rfl rfl (fun r47 u47 hX47 hn47 => ?_)
              obtain rfl := (Prod.mk.inj hX47).1
              refine j_if_eq C dX6_kindHere_164 185 rfl 167 rfl (fun c48 => ?_) (fun c48 => ?_)
              · rw [if_pos c48] at hR
                refine j_iconst (v := (-1)) C dX6_kindHere_185 186 rfl (by decide) ?_
                exact Rt.ret (hR) rfl dX6_kindHere_186
              · rw [if_neg c48] at hR
                refine j_aload_n C dX6_kindHere_167 168 rfl rfl 0 rfl ?_
                refine j_iconst (v := 2) C dX6_kindHere_168 169 rfl (by decide) ?_
                refine j_bipush (v := 116) C dX6_kindHere_169 171 rfl (by decide) ?_
                refine j_bipush (v := 104) C dX6_kindHere_171 173 rfl (by decide) ?_
                refine j_bipush (v := 101) C dX6_kindHere_173 175 rfl (by decide) ?_
                refine j_cv0I (na := 4) C dX6_kindHere_175 178 rfl (c_X6_isSame τ a ss mhd mas mbf mih mtp mtn mtk mfr mtt mvl miw mld mrw mrn mso msz mnu mhw mhh mhm mbo mrr mak man maa mip (2 : Int32) (116 : Int32) (104 : Int32) (101 : Int32) (by first | assumption | exact TN0 | (unfold vp_in; decide) | decide) (by first | assumption | exact TN0 | (unfold vp_in; decide) | decide) (by first | assumption | exact TN0 | (unfold vp_in; decide) | decide) (by first | assumption | exact TN0 | (unfold vp_in; decide) | decide) (by first | assumption | exact TN0 | (unfold vp_in; decide) | decide)) gX6_kindHere_X6_isSame rfl rfl rfl qd_X6_isSame rfl ⟨by decide, by decide⟩ ⟨by decide, by decide⟩ rfl (Nat.le_of_ble_eq_true rfl) rfl 6 0 rfl rfl (fun r49 u49 hX49 hn49 => ?_)
                obtain rfl := (Prod.mk.inj hX49).1
                refine j_if_eq C dX6_kindHere_178 185 rfl 181 rfl (fun c50 => ?_) (fun c50 => ?_)
                · rw [if_pos c50] at hR
                  refine j_iconst (v := (-1)) C dX6_kindHere_185 186 rfl (by decide) ?_
                  exact Rt.ret (hR) rfl dX6_kindHere_186
                · rw [if_neg c50] at hR
                  refine j_iconst (v := 5) C dX6_kindHere_181 182 rfl (by decide) ?_
                  refine j_goto C dX6_kindHere_182 186 rfl ?_
                  exact Rt.ret (hR) rfl dX6_kindHere_186
            · rw [if_neg c46] at hR
              refine j_aload_n C dX6_kindHere_134 135 rfl rfl 0 rfl ?_
              refine j_iconst (v := 3) C dX6_kindHere_135 136 rfl (by decide) ?_
              refine j_bipush (v := 105) C dX6_kindHere_136 138 rfl (by decide) ?_
              refine j_bipush (v := 99) C dX6_kindHere_138 140 rfl (by decide) ?_
              refine j_bipush (v := 101) C dX6_kindHere_140 142 rfl (by decide) ?_
              refine j_cv0I (na := 4) C dX6_kindHere_142 145 rfl (c_X6_isSame τ a ss mhd mas mbf mih mtp mtn mtk mfr mtt mvl miw mld mrw mrn mso msz mnu mhw mhh mhm mbo mrr mak man maa mip (3 : Int32) (105 : Int32) (99 : Int32) (101 : Int32) (by first | assumption | exact TN0 | (unfold vp_in; decide) | decide) (by first | assumption | exact TN0 | (unfold vp_in; decide) | decide) (by first | assumption | exact TN0 | (unfold vp_in; decide) | decide) (by first | assumption | exact TN0 | (unfold vp_in; decide) | decide) (by first | assumption | exact TN0 | (unfold vp_in; decide) | decide)) gX6_kindHere_X6_isSame rfl rfl rfl qd_X6_isSame rfl ⟨by decide, by decide⟩ ⟨by decide, by decide⟩ rfl (Nat.le_of_ble_eq_true rfl) rfl 6 0 rfl rfl (fun r51 u51 hX51 hn51 => ?_)
              obtain rfl := (Prod.mk.inj hX51).1
              refine j_if_eq C dX6_kindHere_145 150 rfl 148 rfl (fun c52 => ?_) (fun c52 => ?_)
              · rw [if_pos c52] at hR
                refine j_aload_n C dX6_kindHere_150 151 rfl rfl 0 rfl ?_
                refine j_bipush (v := 6) C dX6_kindHere_151 153 rfl (by decide) ?_
                refine j_bipush (v := 109) C dX6_kindHere_153 155 rfl (by decide) ?_
                refine j_bipush (v := 111) C dX6_kindHere_155 157 rfl (by decide) ?_
                refine j_bipush (v := 116) C dX6_kindHere_157 159 rfl (by decide) ?_
                refine j_bipush (v := 114) C dX6_kindHere_159 161 rfl (by decide) ?_
                refine j_cv0I (na := 5) C dX6_kindHere_161 164 rfl (c_X6_isName τ a ss mhd mas mbf mih mtp mtn mtk mfr mtt mvl miw mld mrw mrn mso msz mnu mhw mhh mhm mbo mrr mak man maa mip (6 : Int32) (109 : Int32) (111 : Int32) (116 : Int32) (114 : Int32) (by first | assumption | exact TN0 | (unfold vp_in; decide) | decide) (by first | assumption | exact TN0 | (unfold vp_in; decide) | decide) (by first | assumption | exact TN0 | (unfold vp_in; decide) | decide) (by first | assumption | exact TN0 | (unfold vp_in; decide) | decide)) gX6_kindHere_X6_isName rfl rfl rfl qd_X6_isName rfl ⟨by decide, by decide⟩ ⟨by decide, by decide⟩ rfl (Nat.le_of_ble_eq_true rfl) rfl 6 0 rfl rfl (fun r53 u53 hX53 hn53 => ?_)
                obtain rfl := (Prod.mk.inj hX53).1
                refine j_if_eq C dX6_kindHere_164 185 rfl 167 rfl (fun c54 => ?_) (fun c54 => ?_)
                · rw [if_pos c54] at hR
                  refine j_iconst (v := (-1)) C dX6_kindHere_185 186 rfl (by decide) ?_
                  exact Rt.ret (hR) rfl dX6_kindHere_186
                · rw [if_neg c54] at hR
                  refine j_aload_n C dX6_kindHere_167 168 rfl rfl 0 rfl ?_
                  refine j_iconst (v := 2) C dX6_kindHere_168 169 rfl (by decide) ?_
                  refine j_bipush (v := 116) C dX6_kindHere_169 171 rfl (by decide) ?_
                  refine j_bipush (v := 104) C dX6_kindHere_171 173 rfl (by decide) ?_
                  refine j_bipush (v := 101) C dX6_kindHere_173 175 rfl (by decide) ?_
                  refine j_cv0I (na := 4) C dX6_kindHere_175 178 rfl (c_X6_isSame τ a ss mhd mas mbf mih mtp mtn mtk mfr mtt mvl miw mld mrw mrn mso msz mnu mhw mhh mhm mbo mrr mak man maa mip (2 : Int32) (116 : Int32) (104 : Int32) (101 : Int32) (by first | assumption | exact TN0 | (unfold vp_in; decide) | decide) (by first | assumption | exact TN0 | (unfold vp_in; decide) | decide) (by first | assumption | exact TN0 | (unfold vp_in; decide) | decide) (by first | assumption | exact TN0 | (unfold vp_in; decide) | decide) (by first | assumption | exact TN0 | (unfold vp_in; decide) | decide)) gX6_kindHere_X6_isSame rfl rfl rfl qd_X6_isSame rfl ⟨by decide, by decide⟩ ⟨by decide, by decide⟩ rfl (Nat.le_of_ble_eq_true rfl) rfl 6 0 rfl rfl (fun r55 u55 hX55 hn55 => ?_)
                  obtain rfl := (Prod.mk.inj hX55).1
                  refine j_if_eq C dX6_kindHere_178 185 rfl 181 rfl (fun c56 => ?_) (fun c56 => ?_)
                  · rw [if_pos c56] at hR
                    refine j_iconst (v := (-1)) C dX6_kindHere_185 186 rfl (by decide) ?_
                    exact Rt.ret (hR) rfl dX6_kindHere_186
                  · rw [if_neg c56] at hR
                    refine j_iconst (v := 5) C dX6_kindHere_181 182 rfl (by decide) ?_
                    refine j_goto C dX6_kindHere_182 186 rfl ?_
                    exact Rt.ret (hR) rfl dX6_kindHere_186
              · rw [if_neg c52] at hR
                refine j_iconst (v := 4) C dX6_kindHere_148 149 rfl (by decide) ?_
                exact Rt.ret (hR) rfl dX6_kindHere_149
          · rw [if_neg c44] at hR
            refine j_iconst (v := 3) C dX6_kindHere_115 116 rfl (by decide) ?_
            exact Rt.ret (hR) rfl dX6_kindHere_116
        · rw [if_neg c42] at hR
          refine j_aload_n C dX6_kindHere_82 83 rfl rfl 0 rfl ?_
          refine j_iconst (v := 3) C dX6_kindHere_83 84 rfl (by decide) ?_
          refine j_bipush (v := 100) C dX6_kindHere_84 86 rfl (by decide) ?_
          refine j_bipush (v := 105) C dX6_kindHere_86 88 rfl (by decide) ?_
          refine j_bipush (v := 101) C dX6_kindHere_88 90 rfl (by decide) ?_
          refine j_cv0I (na := 4) C dX6_kindHere_90 93 rfl (c_X6_isSame τ a ss mhd mas mbf mih mtp mtn mtk mfr mtt mvl miw mld mrw mrn mso msz mnu mhw mhh mhm mbo mrr mak man maa mip (3 : Int32) (100 : Int32) (105 : Int32) (101 : Int32) (by first | assumption | exact TN0 | (unfold vp_in; decide) | decide) (by first | assumption | exact TN0 | (unfold vp_in; decide) | decide) (by first | assumption | exact TN0 | (unfold vp_in; decide) | decide) (by first | assumption | exact TN0 | (unfold vp_in; decide) | decide) (by first | assumption | exact TN0 | (unfold vp_in; decide) | decide)) gX6_kindHere_X6_isSame rfl rfl rfl qd_X6_isSame rfl ⟨by decide, by decide⟩ ⟨by decide, by decide⟩ rfl (Nat.le_of_ble_eq_true rfl) rfl 6 0 rfl rfl (fun r57 u57 hX57 hn57 => ?_)
          obtain rfl := (Prod.mk.inj hX57).1
          refine j_if_eq C dX6_kindHere_93 98 rfl 96 rfl (fun c58 => ?_) (fun c58 => ?_)
          · rw [if_pos c58] at hR
            refine j_aload_n C dX6_kindHere_98 99 rfl rfl 0 rfl ?_
            refine j_bipush (v := 98) C dX6_kindHere_99 101 rfl (by decide) ?_
            refine j_bipush (v := 97) C dX6_kindHere_101 103 rfl (by decide) ?_
            refine j_bipush (v := 107) C dX6_kindHere_103 105 rfl (by decide) ?_
            refine j_bipush (v := 101) C dX6_kindHere_105 107 rfl (by decide) ?_
            refine j_bipush (v := 114) C dX6_kindHere_107 109 rfl (by decide) ?_
            refine j_cv0I (na := 5) C dX6_kindHere_109 112 rfl (c_X6_isFive τ a ss mhd mas mbf mih mtp mtn mtk mfr mtt mvl miw mld mrw mrn mso msz mnu mhw mhh mhm mbo mrr mak man maa mip (98 : Int32) (97 : Int32) (107 : Int32) (101 : Int32) (114 : Int32) (by first | assumption | exact TN0 | (unfold vp_in; decide) | decide) (by first | assumption | exact TN0 | (unfold vp_in; decide) | decide) (by first | assumption | exact TN0 | (unfold vp_in; decide) | decide)) gX6_kindHere_X6_isFive rfl rfl rfl qd_X6_isFive rfl ⟨by decide, by decide⟩ ⟨by decide, by decide⟩ rfl (Nat.le_of_ble_eq_true rfl) rfl 6 0 rfl rfl (fun r59 u59 hX59 hn59 => ?_)
            obtain rfl := (Prod.mk.inj hX59).1
            refine j_if_eq C dX6_kindHere_112 117 rfl 115 rfl (fun c60 => ?_) (fun c60 => ?_)
            · rw [if_pos c60] at hR
              refine j_aload_n C dX6_kindHere_117 118 rfl rfl 0 rfl ?_
              refine j_bipush (v := 7) C dX6_kindHere_118 120 rfl (by decide) ?_
              refine j_bipush (v := 111) C dX6_kindHere_120 122 rfl (by decide) ?_
              refine j_bipush (v := 102) C dX6_kindHere_122 124 rfl (by decide) ?_
              refine j_bipush (v := 102) C dX6_kindHere_124 126 rfl (by decide) ?_
              refine j_bipush (v := 114) C dX6_kindHere_126 128 rfl (by decide) ?_
              refine j_cv0I (na := 5) C dX6_kindHere_128 131 rfl (c_X6_isName τ a ss mhd mas mbf mih mtp mtn mtk mfr mtt mvl miw mld mrw mrn mso msz mnu mhw mhh mhm mbo mrr mak man maa mip (7 : Int32) (111 : Int32) (102 : Int32) (102 : Int32) (114 : Int32) (by first | assumption | exact TN0 | (unfold vp_in; decide) | decide) (by first | assumption | exact TN0 | (unfold vp_in; decide) | decide) (by first | assumption | exact TN0 | (unfold vp_in; decide) | decide) (by first | assumption | exact TN0 | (unfold vp_in; decide) | decide)) gX6_kindHere_X6_isName rfl rfl rfl qd_X6_isName rfl ⟨by decide, by decide⟩ ⟨by decide, by decide⟩ rfl (Nat.le_of_ble_eq_true rfl) rfl 6 0 rfl rfl (fun r61 u61 hX61 hn61 => ?_)
              obtain rfl := (Prod.mk.inj hX61).1
              refine j_if_eq C dX6_kindHere_131 150 rfl 134 rfl (fun c62 => ?_) (fun c62 => ?_)
              · rw [if_pos c62] at hR
                refine j_aload_n C dX6_kindHere_150 151 rfl rfl 0 rfl ?_
                refine j_bipush (v := 6) C dX6_kindHere_151 153 rfl (by decide) ?_
                refine j_bipush (v := 109) C dX6_kindHere_153 155 rfl (by decide) ?_
                refine j_bipush (v := 111) C dX6_kindHere_155 157 rfl (by decide) ?_
                refine j_bipush (v := 116) C dX6_kindHere_157 159 rfl (by decide) ?_
                refine j_bipush (v := 114) C dX6_kindHere_159 161 rfl (by decide) ?_
                refine j_cv0I (na := 5) C dX6_kindHere_161 164 rfl (c_X6_isName τ a ss mhd mas mbf mih mtp mtn mtk mfr mtt mvl miw mld mrw mrn mso msz mnu mhw mhh mhm mbo mrr mak man maa mip (6 : Int32) (109 : Int32) (111 : Int32) (116 : Int32) (114 : Int32) (by first | assumption | exact TN0 | (unfold vp_in; decide) | decide) (by first | assumption | exact TN0 | (unfold vp_in; decide) | decide) (by first | assumption | exact TN0 | (unfold vp_in; decide) | decide) (by first | assumption | exact TN0 | (unfold vp_in; decide) | decide)) gX6_kindHere_X6_isName rfl rfl rfl qd_X6_isName rfl ⟨by decide, by decide⟩ ⟨by decide, by decide⟩ rfl (Nat.le_of_ble_eq_true rfl) rfl 6 0 rfl rfl (fun r63 u63 hX63 hn63 => ?_)
                obtain rfl := (Prod.mk.inj hX63).1
                refine j_if_eq C dX6_kindHere_164 185 rfl 167 rfl (fun c64 => ?_) (fun c64 => ?_)
                · rw [if_pos c64] at hR
                  refine j_iconst (v := (-1)) C dX6_kindHere_185 186 rfl (by decide) ?_
                  exact Rt.ret (hR) rfl dX6_kindHere_186
                · rw [if_neg c64] at hR
                  refine j_aload_n C dX6_kindHere_167 168 rfl rfl 0 rfl ?_
                  refine j_iconst (v := 2) C dX6_kindHere_168 169 rfl (by decide) ?_
                  refine j_bipush (v := 116) C dX6_kindHere_169 171 rfl (by decide) ?_
                  refine j_bipush (v := 104) C dX6_kindHere_171 173 rfl (by decide) ?_
                  refine j_bipush (v := 101) C dX6_kindHere_173 175 rfl (by decide) ?_
                  refine j_cv0I (na := 4) C dX6_kindHere_175 178 rfl (c_X6_isSame τ a ss mhd mas mbf mih mtp mtn mtk mfr mtt mvl miw mld mrw mrn mso msz mnu mhw mhh mhm mbo mrr mak man maa mip (2 : Int32) (116 : Int32) (104 : Int32) (101 : Int32) (by first | assumption | exact TN0 | (unfold vp_in; decide) | decide) (by first | assumption | exact TN0 | (unfold vp_in; decide) | decide) (by first | assumption | exact TN0 | (unfold vp_in; decide) | decide) (by first | assumption | exact TN0 | (unfold vp_in; decide) | decide) (by first | assumption | exact TN0 | (unfold vp_in; decide) | decide)) gX6_kindHere_X6_isSame rfl rfl rfl qd_X6_isSame rfl ⟨by decide, by decide⟩ ⟨by decide, by decide⟩ rfl (Nat.le_of_ble_eq_true rfl) rfl 6 0 rfl rfl (fun r65 u65 hX65 hn65 => ?_)
                  obtain rfl := (Prod.mk.inj hX65).1
                  refine j_if_eq C dX6_kindHere_178 185 rfl 181 rfl (fun c66 => ?_) (fun c66 => ?_)
                  · rw [if_pos c66] at hR
                    refine j_iconst (v := (-1)) C dX6_kindHere_185 186 rfl (by decide) ?_
                    exact Rt.ret (hR) rfl dX6_kindHere_186
                  · rw [if_neg c66] at hR
                    refine j_iconst (v := 5) C dX6_kindHere_181 182 rfl (by decide) ?_
                    refine j_goto C dX6_kindHere_182 186 rfl ?_
                    exact Rt.ret (hR) rfl dX6_kindHere_186
              · rw [if_neg c62] at hR
                refine j_aload_n C dX6_kindHere_134 135 rfl rfl 0 rfl ?_
                refine j_iconst (v := 3) C dX6_kindHere_135 136 rfl (by decide) ?_
                refine j_bipush (v := 105) C dX6_kindHere_136 138 rfl (by decide) ?_
                refine j_bipush (v := 99) C dX6_kindHere_138 140 rfl (by decide) ?_
                refine j_bipush (v := 101) C dX6_kindHere_140 142 rfl (by decide) ?_
                refine j_cv0I (na := 4) C dX6_kindHere_142 145 rfl (c_X6_isSame τ a ss mhd mas mbf mih mtp mtn mtk mfr mtt mvl miw mld mrw mrn mso msz mnu mhw mhh mhm mbo mrr mak man maa mip (3 : Int32) (105 : Int32) (99 : Int32) (101 : Int32) (by first | assumption | exact TN0 | (unfold vp_in; decide) | decide) (by first | assumption | exact TN0 | (unfold vp_in; decide) | decide) (by first | assumption | exact TN0 | (unfold vp_in; decide) | decide) (by first | assumption | exact TN0 | (unfold vp_in; decide) | decide) (by first | assumption | exact TN0 | (unfold vp_in; decide) | decide)) gX6_kindHere_X6_isSame rfl rfl rfl qd_X6_isSame rfl ⟨by decide, by decide⟩ ⟨by decide, by decide⟩ rfl (Nat.le_of_ble_eq_true rfl) rfl 6 0 rfl rfl (fun r67 u67 hX67 hn67 => ?_)
                obtain rfl := (Prod.mk.inj hX67).1
                refine j_if_eq C dX6_kindHere_145 150 rfl 148 rfl (fun c68 => ?_) (fun c68 => ?_)
                · rw [if_pos c68] at hR
                  refine j_aload_n C dX6_kindHere_150 151 rfl rfl 0 rfl ?_
                  refine j_bipush (v := 6) C dX6_kindHere_151 153 rfl (by decide) ?_
                  refine j_bipush (v := 109) C dX6_kindHere_153 155 rfl (by decide) ?_
                  refine j_bipush (v := 111) C dX6_kindHere_155 157 rfl (by decide) ?_
                  refine j_bipush (v := 116) C dX6_kindHere_157 159 rfl (by decide) ?_
                  refine j_bipush (v := 114) C dX6_kindHere_159 161 rfl (by decide) ?_
                  refine j_cv0I (na := 5) C dX6_kindHere_161 164 rfl (c_X6_isName τ a ss mhd mas mbf mih mtp mtn mtk mfr mtt mvl miw mld mrw mrn mso msz mnu mhw mhh mhm mbo mrr mak man maa mip (6 : Int32) (109 : Int32) (111 : Int32) (116 : Int32) (114 : Int32) (by first | assumption | exact TN0 | (unfold vp_in; decide) | decide) (by first | assumption | exact TN0 | (unfold vp_in; decide) | decide) (by first | assumption | exact TN0 | (unfold vp_in; decide) | decide) (by first | assumption | exact TN0 | (unfold vp_in; decide) | decide)) gX6_kindHere_X6_isName rfl rfl rfl qd_X6_isName rfl ⟨by decide, by decide⟩ ⟨by decide, by decide⟩ rfl (Nat.le_of_ble_eq_true rfl) rfl 6 0 rfl rfl (fun r69 u69 hX69 hn69 => ?_)
                  obtain rfl := (Prod.mk.inj hX69).1
                  refine j_if_eq C dX6_kindHere_164 185 rfl 167 rfl (fun c70 => ?_) (fun c70 => ?_)
                  · rw [if_pos c70] at hR
                    refine j_iconst (v := (-1)) C dX6_kindHere_185 186 rfl (by decide) ?_
                    exact Rt.ret (hR) rfl dX6_kindHere_186
                  · rw [if_neg c70] at hR
                    refine j_aload_n C dX6_kindHere_167 168 rfl rfl 0 rfl ?_
                    refine j_iconst (v := 2) C dX6_kindHere_168 169 rfl (by decide) ?_
                    refine j_bipush (v := 116) C dX6_kindHere_169 171 rfl (by decide) ?_
                    refine j_bipush (v := 104) C dX6_kindHere_171 173 rfl (by decide) ?_
                    refine j_bipush (v := 101) C dX6_kindHere_173 175 rfl (by decide) ?_
                    refine j_cv0I (na := 4) C dX6_kindHere_175 178 rfl (c_X6_isSame τ a ss mhd mas mbf mih mtp mtn mtk mfr mtt mvl miw mld mrw mrn mso msz mnu mhw mhh mhm mbo mrr mak man maa mip (2 : Int32) (116 : Int32) (104 : Int32) (101 : Int32) (by first | assumption | exact TN0 | (unfold vp_in; decide) | decide) (by first | assumption | exact TN0 | (unfold vp_in; decide) | decide) (by first | assumption | exact TN0 | (unfold vp_in; decide) | decide) (by first | assumption | exact TN0 | (unfold vp_in; decide) | decide) (by first | assumption | exact TN0 | (unfold vp_in; decide) | decide)) gX6_kindHere_X6_isSame rfl rfl rfl qd_X6_isSame rfl ⟨by decide, by decide⟩ ⟨by decide, by decide⟩ rfl (Nat.le_of_ble_eq_true rfl) rfl 6 0 rfl rfl (fun r71 u71 hX71 hn71 => ?_)
                    obtain rfl := (Prod.mk.inj hX71).1
                    refine j_if_eq C dX6_kindHere_178 185 rfl 181 rfl (fun c72 => ?_) (fun c72 => ?_)
                    · rw [if_pos c72] at hR
                      refine j_iconst (v := (-1)) C dX6_kindHere_185 186 rfl (by decide) ?_
                      exact Rt.ret (hR) rfl dX6_kindHere_186
                    · rw [if_neg c72] at hR
                      refine j_iconst (v := 5) C dX6_kindHere_181 182 rfl (by decide) ?_
                      refine j_goto C dX6_kindHere_182 186 rfl ?_
                      exact Rt.ret (hR) rfl dX6_kindHere_186
                · rw [if_neg c68] at hR
                  refine j_iconst (v := 4) C dX6_kindHere_148 149 rfl (by decide) ?_
                  exact Rt.ret (hR) rfl dX6_kindHere_149
            · rw [if_neg c60] at hR
              refine j_iconst (v := 3) C dX6_kindHere_115 116 rfl (by decide) ?_
              exact Rt.ret (hR) rfl dX6_kindHere_116
          · rw [if_neg c58] at hR
            refine j_iconst (v := 2) C dX6_kindHere_96 97 rfl (by decide) ?_
            exact Rt.ret (hR) rfl dX6_kindHere_97
      · rw [if_neg c40] at hR
        refine j_iconst (v := 1) C dX6_kindHere_63 64 rfl (by decide) ?_
        exact Rt.ret (hR) rfl dX6_kindHere_64
    · rw [if_neg c38] at hR
      refine j_aload_n C dX6_kindHere_31 32 rfl rfl 0 rfl ?_
      refine j_bipush (v := 6) C dX6_kindHere_32 34 rfl (by decide) ?_
      refine j_bipush (v := 111) C dX6_kindHere_34 36 rfl (by decide) ?_
      refine j_bipush (v := 117) C dX6_kindHere_36 38 rfl (by decide) ?_
      refine j_bipush (v := 114) C dX6_kindHere_38 40 rfl (by decide) ?_
      refine j_cv0I (na := 4) C dX6_kindHere_40 43 rfl (c_X6_isSame τ a ss mhd mas mbf mih mtp mtn mtk mfr mtt mvl miw mld mrw mrn mso msz mnu mhw mhh mhm mbo mrr mak man maa mip (6 : Int32) (111 : Int32) (117 : Int32) (114 : Int32) (by first | assumption | exact TN0 | (unfold vp_in; decide) | decide) (by first | assumption | exact TN0 | (unfold vp_in; decide) | decide) (by first | assumption | exact TN0 | (unfold vp_in; decide) | decide) (by first | assumption | exact TN0 | (unfold vp_in; decide) | decide) (by first | assumption | exact TN0 | (unfold vp_in; decide) | decide)) gX6_kindHere_X6_isSame rfl rfl rfl qd_X6_isSame rfl ⟨by decide, by decide⟩ ⟨by decide, by decide⟩ rfl (Nat.le_of_ble_eq_true rfl) rfl 6 0 rfl rfl (fun r73 u73 hX73 hn73 => ?_)
      obtain rfl := (Prod.mk.inj hX73).1
      refine j_if_eq C dX6_kindHere_43 48 rfl 46 rfl (fun c74 => ?_) (fun c74 => ?_)
      · rw [if_pos c74] at hR
        refine j_aload_n C dX6_kindHere_48 49 rfl rfl 0 rfl ?_
        refine j_bipush (v := 99) C dX6_kindHere_49 51 rfl (by decide) ?_
        refine j_bipush (v := 111) C dX6_kindHere_51 53 rfl (by decide) ?_
        refine j_bipush (v := 111) C dX6_kindHere_53 55 rfl (by decide) ?_
        refine j_bipush (v := 107) C dX6_kindHere_55 57 rfl (by decide) ?_
        refine j_cv0I (na := 4) C dX6_kindHere_57 60 rfl (c_X6_isFour τ a ss mhd mas mbf mih mtp mtn mtk mfr mtt mvl miw mld mrw mrn mso msz mnu mhw mhh mhm mbo mrr mak man maa mip (99 : Int32) (111 : Int32) (111 : Int32) (107 : Int32) (by first | assumption | exact TN0 | (unfold vp_in; decide) | decide) (by first | assumption | exact TN0 | (unfold vp_in; decide) | decide) (by first | assumption | exact TN0 | (unfold vp_in; decide) | decide)) gX6_kindHere_X6_isFour rfl rfl rfl qd_X6_isFour rfl ⟨by decide, by decide⟩ ⟨by decide, by decide⟩ rfl (Nat.le_of_ble_eq_true rfl) rfl 6 0 rfl rfl (fun r75 u75 hX75 hn75 => ?_)
        obtain rfl := (Prod.mk.inj hX75).1
        refine j_if_eq C dX6_kindHere_60 65 rfl 63 rfl (fun c76 => ?_) (fun c76 => ?_)
        · rw [if_pos c76] at hR
          refine j_aload_n C dX6_kindHere_65 66 rfl rfl 0 rfl ?_
          refine j_bipush (v := 7) C dX6_kindHere_66 68 rfl (by decide) ?_
          refine j_bipush (v := 115) C dX6_kindHere_68 70 rfl (by decide) ?_
          refine j_bipush (v := 111) C dX6_kindHere_70 72 rfl (by decide) ?_
          refine j_bipush (v := 108) C dX6_kindHere_72 74 rfl (by decide) ?_
          refine j_bipush (v := 114) C dX6_kindHere_74 76 rfl (by decide) ?_
          refine j_cv0I (na := 5) C dX6_kindHere_76 79 rfl (c_X6_isName τ a ss mhd mas mbf mih mtp mtn mtk mfr mtt mvl miw mld mrw mrn mso msz mnu mhw mhh mhm mbo mrr mak man maa mip (7 : Int32) (115 : Int32) (111 : Int32) (108 : Int32) (114 : Int32) (by first | assumption | exact TN0 | (unfold vp_in; decide) | decide) (by first | assumption | exact TN0 | (unfold vp_in; decide) | decide) (by first | assumption | exact TN0 | (unfold vp_in; decide) | decide) (by first | assumption | exact TN0 | (unfold vp_in; decide) | decide)) gX6_kindHere_X6_isName rfl rfl rfl qd_X6_isName rfl ⟨by decide, by decide⟩ ⟨by decide, by decide⟩ rfl (Nat.le_of_ble_eq_true rfl) rfl 6 0 rfl rfl (fun r77 u77 hX77 hn77 => ?_)
          obtain rfl := (Prod.mk.inj hX77).1
          refine j_if_eq C dX6_kindHere_79 98 rfl 82 rfl (fun c78 => ?_) (fun c78 => ?_)
          · rw [if_pos c78] at hR
            refine j_aload_n C dX6_kindHere_98 99 rfl rfl 0 rfl ?_
            refine j_bipush (v := 98) C dX6_kindHere_99 101 rfl (by decide) ?_
            refine j_bipush (v := 97) C dX6_kindHere_101 103 rfl (by decide) ?_
            refine j_bipush (v := 107) C dX6_kindHere_103 105 rfl (by decide) ?_
            refine j_bipush (v := 101) C dX6_kindHere_105 107 rfl (by decide) ?_
            refine j_bipush (v := 114) C dX6_kindHere_107 109 rfl (by decide) ?_
            refine j_cv0I (na := 5) C dX6_kindHere_109 112 rfl (c_X6_isFive τ a ss mhd mas mbf mih mtp mtn mtk mfr mtt mvl miw mld mrw mrn mso msz mnu mhw mhh mhm mbo mrr mak man maa mip (98 : Int32) (97 : Int32) (107 : Int32) (101 : Int32) (114 : Int32) (by first | assumption | exact TN0 | (unfold vp_in; decide) | decide) (by first | assumption | exact TN0 | (unfold vp_in; decide) | decide) (by first | assumption | exact TN0 | (unfold vp_in; decide) | decide)) gX6_kindHere_X6_isFive rfl rfl rfl qd_X6_isFive rfl ⟨by decide, by decide⟩ ⟨by decide, by decide⟩ rfl (Nat.le_of_ble_eq_true rfl) rfl 6 0 rfl rfl (fun r79 u79 hX79 hn79 => ?_)
            obtain rfl := (Prod.mk.inj hX79).1
            refine j_if_eq C dX6_kindHere_112 117 rfl 115 rfl (fun c80 => ?_) (fun c80 => ?_)
            · rw [if_pos c80] at hR
              refine j_aload_n C dX6_kindHere_117 118 rfl rfl 0 rfl ?_
              refine j_bipush (v := 7) C dX6_kindHere_118 120 rfl (by decide) ?_
              refine j_bipush (v := 111) C dX6_kindHere_120 122 rfl (by decide) ?_
              refine j_bipush (v := 102) C dX6_kindHere_122 124 rfl (by decide) ?_
              refine j_bipush (v := 102) C dX6_kindHere_124 126 rfl (by decide) ?_
              refine j_bipush (v := 114) C dX6_kindHere_126 128 rfl (by decide) ?_
              refine j_cv0I (na := 5) C dX6_kindHere_128 131 rfl (c_X6_isName τ a ss mhd mas mbf mih mtp mtn mtk mfr mtt mvl miw mld mrw mrn mso msz mnu mhw mhh mhm mbo mrr mak man maa mip (7 : Int32) (111 : Int32) (102 : Int32) (102 : Int32) (114 : Int32) (by first | assumption | exact TN0 | (unfold vp_in; decide) | decide) (by first | assumption | exact TN0 | (unfold vp_in; decide) | decide) (by first | assumption | exact TN0 | (unfold vp_in; decide) | decide) (by first | assumption | exact TN0 | (unfold vp_in; decide) | decide)) gX6_kindHere_X6_isName rfl rfl rfl qd_X6_isName rfl ⟨by decide, by decide⟩ ⟨by decide, by decide⟩ rfl (Nat.le_of_ble_eq_true rfl) rfl 6 0 rfl rfl (fun r81 u81 hX81 hn81 => ?_)
              obtain rfl := (Prod.mk.inj hX81).1
              refine j_if_eq C dX6_kindHere_131 150 rfl 134 rfl (fun c82 => ?_) (fun c82 => ?_)
              · rw [if_pos c82] at hR
                refine j_aload_n C dX6_kindHere_150 151 rfl rfl 0 rfl ?_
                refine j_bipush (v := 6) C dX6_kindHere_151 153 rfl (by decide) ?_
                refine j_bipush (v := 109) C dX6_kindHere_153 155 rfl (by decide) ?_
                refine j_bipush (v := 111) C dX6_kindHere_155 157 rfl (by decide) ?_
                refine j_bipush (v := 116) C dX6_kindHere_157 159 rfl (by decide) ?_
                refine j_bipush (v := 114) C dX6_kindHere_159 161 rfl (by decide) ?_
                refine j_cv0I (na := 5) C dX6_kindHere_161 164 rfl (c_X6_isName τ a ss mhd mas mbf mih mtp mtn mtk mfr mtt mvl miw mld mrw mrn mso msz mnu mhw mhh mhm mbo mrr mak man maa mip (6 : Int32) (109 : Int32) (111 : Int32) (116 : Int32) (114 : Int32) (by first | assumption | exact TN0 | (unfold vp_in; decide) | decide) (by first | assumption | exact TN0 | (unfold vp_in; decide) | decide) (by first | assumption | exact TN0 | (unfold vp_in; decide) | decide) (by first | assumption | exact TN0 | (unfold vp_in; decide) | decide)) gX6_kindHere_X6_isName rfl rfl rfl qd_X6_isName rfl ⟨by decide, by decide⟩ ⟨by decide, by decide⟩ rfl (Nat.le_of_ble_eq_true rfl) rfl 6 0 rfl rfl (fun r83 u83 hX83 hn83 => ?_)
                obtain rfl := (Prod.mk.inj hX83).1
                refine j_if_eq C dX6_kindHere_164 185 rfl 167 rfl (fun c84 => ?_) (fun c84 => ?_)
                · rw [if_pos c84] at hR
                  refine j_iconst (v := (-1)) C dX6_kindHere_185 186 rfl (by decide) ?_
                  exact Rt.ret (hR) rfl dX6_kindHere_186
                · rw [if_neg c84] at hR
                  refine j_aload_n C dX6_kindHere_167 168 rfl rfl 0 rfl ?_
                  refine j_iconst (v := 2) C dX6_kindHere_168 169 rfl (by decide) ?_
                  refine j_bipush (v := 116) C dX6_kindHere_169 171 rfl (by decide) ?_
                  refine j_bipush (v := 104) C dX6_kindHere_171 173 rfl (by decide) ?_
                  refine j_bipush (v := 101) C dX6_kindHere_173 175 rfl (by decide) ?_
                  refine j_cv0I (na := 4) C dX6_kindHere_175 178 rfl (c_X6_isSame τ a ss mhd mas mbf mih mtp mtn mtk mfr mtt mvl miw mld mrw mrn mso msz mnu mhw mhh mhm mbo mrr mak man maa mip (2 : Int32) (116 : Int32) (104 : Int32) (101 : Int32) (by first | assumption | exact TN0 | (unfold vp_in; decide) | decide) (by first | assumption | exact TN0 | (unfold vp_in; decide) | decide) (by first | assumption | exact TN0 | (unfold vp_in; decide) | decide) (by first | assumption | exact TN0 | (unfold vp_in; decide) | decide) (by first | assumption | exact TN0 | (unfold vp_in; decide) | decide)) gX6_kindHere_X6_isSame rfl rfl rfl qd_X6_isSame rfl ⟨by decide, by decide⟩ ⟨by decide, by decide⟩ rfl (Nat.le_of_ble_eq_true rfl) rfl 6 0 rfl rfl (fun r85 u85 hX85 hn85 => ?_)
                  obtain rfl := (Prod.mk.inj hX85).1
                  refine j_if_eq C dX6_kindHere_178 185 rfl 181 rfl (fun c86 => ?_) (fun c86 => ?_)
                  · rw [if_pos c86] at hR
                    refine j_iconst (v := (-1)) C dX6_kindHere_185 186 rfl (by decide) ?_
                    exact Rt.ret (hR) rfl dX6_kindHere_186
                  · rw [if_neg c86] at hR
                    refine j_iconst (v := 5) C dX6_kindHere_181 182 rfl (by decide) ?_
                    refine j_goto C dX6_kindHere_182 186 rfl ?_
                    exact Rt.ret (hR) rfl dX6_kindHere_186
              · rw [if_neg c82] at hR
                refine j_aload_n C dX6_kindHere_134 135 rfl rfl 0 rfl ?_
                refine j_iconst (v := 3) C dX6_kindHere_135 136 rfl (by decide) ?_
                refine j_bipush (v := 105) C dX6_kindHere_136 138 rfl (by decide) ?_
                refine j_bipush (v := 99) C dX6_kindHere_138 140 rfl (by decide) ?_
                refine j_bipush (v := 101) C dX6_kindHere_140 142 rfl (by decide) ?_
                refine j_cv0I (na := 4) C dX6_kindHere_142 145 rfl (c_X6_isSame τ a ss mhd mas mbf mih mtp mtn mtk mfr mtt mvl miw mld mrw mrn mso msz mnu mhw mhh mhm mbo mrr mak man maa mip (3 : Int32) (105 : Int32) (99 : Int32) (101 : Int32) (by first | assumption | exact TN0 | (unfold vp_in; decide) | decide) (by first | assumption | exact TN0 | (unfold vp_in; decide) | decide) (by first | assumption | exact TN0 | (unfold vp_in; decide) | decide) (by first | assumption | exact TN0 | (unfold vp_in; decide) | decide) (by first | assumption | exact TN0 | (unfold vp_in; decide) | decide)) gX6_kindHere_X6_isSame rfl rfl rfl qd_X6_isSame rfl ⟨by decide, by decide⟩ ⟨by decide, by decide⟩ rfl (Nat.le_of_ble_eq_true rfl) rfl 6 0 rfl rfl (fun r87 u87 hX87 hn87 => ?_)
                obtain rfl := (Prod.mk.inj hX87).1
                refine j_if_eq C dX6_kindHere_145 150 rfl 148 rfl (fun c88 => ?_) (fun c88 => ?_)
                · rw [if_pos c88] at hR
                  refine j_aload_n C dX6_kindHere_150 151 rfl rfl 0 rfl ?_
                  refine j_bipush (v := 6) C dX6_kindHere_151 153 rfl (by decide) ?_
                  refine j_bipush (v := 109) C dX6_kindHere_153 155 rfl (by decide) ?_
                  refine j_bipush (v := 111) C dX6_kindHere_155 157 rfl (by decide) ?_
                  refine j_bipush (v := 116) C dX6_kindHere_157 159 rfl (by decide) ?_
                  refine j_bipush (v := 114) C dX6_kindHere_159 161 rfl (by decide) ?_
                  refine j_cv0I (na := 5) C dX6_kindHere_161 164 rfl (c_X6_isName τ a ss mhd mas mbf mih mtp mtn mtk mfr mtt mvl miw mld mrw mrn mso msz mnu mhw mhh mhm mbo mrr mak man maa mip (6 : Int32) (109 : Int32) (111 : Int32) (116 : Int32) (114 : Int32) (by first | assumption | exact TN0 | (unfold vp_in; decide) | decide) (by first | assumption | exact TN0 | (unfold vp_in; decide) | decide) (by first | assumption | exact TN0 | (unfold vp_in; decide) | decide) (by first | assumption | exact TN0 | (unfold vp_in; decide) | decide)) gX6_kindHere_X6_isName rfl rfl rfl qd_X6_isName rfl ⟨by decide, by decide⟩ ⟨by decide, by decide⟩ rfl (Nat.le_of_ble_eq_true rfl) rfl 6 0 rfl rfl (fun r89 u89 hX89 hn89 => ?_)
                  obtain rfl := (Prod.mk.inj hX89).1
                  refine j_if_eq C dX6_kindHere_164 185 rfl 167 rfl (fun c90 => ?_) (fun c90 => ?_)
                  · rw [if_pos c90] at hR
                    refine j_iconst (v := (-1)) C dX6_kindHere_185 186 rfl (by decide) ?_
                    exact Rt.ret (hR) rfl dX6_kindHere_186
                  · rw [if_neg c90] at hR
                    refine j_aload_n C dX6_kindHere_167 168 rfl rfl 0 rfl ?_
                    refine j_iconst (v := 2) C dX6_kindHere_168 169 rfl (by decide) ?_
                    refine j_bipush (v := 116) C dX6_kindHere_169 171 rfl (by decide) ?_
                    refine j_bipush (v := 104) C dX6_kindHere_171 173 rfl (by decide) ?_
                    refine j_bipush (v := 101) C dX6_kindHere_173 175 rfl (by decide) ?_
                    refine j_cv0I (na := 4) C dX6_kindHere_175 178 rfl (c_X6_isSame τ a ss mhd mas mbf mih mtp mtn mtk mfr mtt mvl miw mld mrw mrn mso msz mnu mhw mhh mhm mbo mrr mak man maa mip (2 : Int32) (116 : Int32) (104 : Int32) (101 : Int32) (by first | assumption | exact TN0 | (unfold vp_in; decide) | decide) (by first | assumption | exact TN0 | (unfold vp_in; decide) | decide) (by first | assumption | exact TN0 | (unfold vp_in; decide) | decide) (by first | assumption | exact TN0 | (unfold vp_in; decide) | decide) (by first | assumption | exact TN0 | (unfold vp_in; decide) | decide)) gX6_kindHere_X6_isSame rfl rfl rfl qd_X6_isSame rfl ⟨by decide, by decide⟩ ⟨by decide, by decide⟩ rfl (Nat.le_of_ble_eq_true rfl) rfl 6 0 rfl rfl (fun r91 u91 hX91 hn91 => ?_)
                    obtain rfl := (Prod.mk.inj hX91).1
                    refine j_if_eq C dX6_kindHere_178 185 rfl 181 rfl (fun c92 => ?_) (fun c92 => ?_)
                    · rw [if_pos c92] at hR
                      refine j_iconst (v := (-1)) C dX6_kindHere_185 186 rfl (by decide) ?_
                      exact Rt.ret (hR) rfl dX6_kindHere_186
                    · rw [if_neg c92] at hR
                      refine j_iconst (v := 5) C dX6_kindHere_181 182 rfl (by decide) ?_
                      refine j_goto C dX6_kindHere_182 186 rfl ?_
                      exact Rt.ret (hR) rfl dX6_kindHere_186
                · rw [if_neg c88] at hR
                  refine j_iconst (v := 4) C dX6_kindHere_148 149 rfl (by decide) ?_
                  exact Rt.ret (hR) rfl dX6_kindHere_149
            · rw [if_neg c80] at hR
              refine j_iconst (v := 3) C dX6_kindHere_115 116 rfl (by decide) ?_
              exact Rt.ret (hR) rfl dX6_kindHere_116
          · rw [if_neg c78] at hR
            refine j_aload_n C dX6_kindHere_82 83 rfl rfl 0 rfl ?_
            refine j_iconst (v := 3) C dX6_kindHere_83 84 rfl (by decide) ?_
            refine j_bipush (v := 100) C dX6_kindHere_84 86 rfl (by decide) ?_
            refine j_bipush (v := 105) C dX6_kindHere_86 88 rfl (by decide) ?_
            refine j_bipush (v := 101) C dX6_kindHere_88 90 rfl (by decide) ?_
            refine j_cv0I (na := 4) C dX6_kindHere_90 93 rfl (c_X6_isSame τ a ss mhd mas mbf mih mtp mtn mtk mfr mtt mvl miw mld mrw mrn mso msz mnu mhw mhh mhm mbo mrr mak man maa mip (3 : Int32) (100 : Int32) (105 : Int32) (101 : Int32) (by first | assumption | exact TN0 | (unfold vp_in; decide) | decide) (by first | assumption | exact TN0 | (unfold vp_in; decide) | decide) (by first | assumption | exact TN0 | (unfold vp_in; decide) | decide) (by first | assumption | exact TN0 | (unfold vp_in; decide) | decide) (by first | assumption | exact TN0 | (unfold vp_in; decide) | decide)) gX6_kindHere_X6_isSame rfl rfl rfl qd_X6_isSame rfl ⟨by decide, by decide⟩ ⟨by decide, by decide⟩ rfl (Nat.le_of_ble_eq_true rfl) rfl 6 0 rfl rfl (fun r93 u93 hX93 hn93 => ?_)
            obtain rfl := (Prod.mk.inj hX93).1
            refine j_if_eq C dX6_kindHere_93 98 rfl 96 rfl (fun c94 => ?_) (fun c94 => ?_)
            · rw [if_pos c94] at hR
              refine j_aload_n C dX6_kindHere_98 99 rfl rfl 0 rfl ?_
              refine j_bipush (v := 98) C dX6_kindHere_99 101 rfl (by decide) ?_
              refine j_bipush (v := 97) C dX6_kindHere_101 103 rfl (by decide) ?_
              refine j_bipush (v := 107) C dX6_kindHere_103 105 rfl (by decide) ?_
              refine j_bipush (v := 101) C dX6_kindHere_105 107 rfl (by decide) ?_
              refine j_bipush (v := 114) C dX6_kindHere_107 109 rfl (by decide) ?_
              refine j_cv0I (na := 5) C dX6_kindHere_109 112 rfl (c_X6_isFive τ a ss mhd mas mbf mih mtp mtn mtk mfr mtt mvl miw mld mrw mrn mso msz mnu mhw mhh mhm mbo mrr mak man maa mip (98 : Int32) (97 : Int32) (107 : Int32) (101 : Int32) (114 : Int32) (by first | assumption | exact TN0 | (unfold vp_in; decide) | decide) (by first | assumption | exact TN0 | (unfold vp_in; decide) | decide) (by first | assumption | exact TN0 | (unfold vp_in; decide) | decide)) gX6_kindHere_X6_isFive rfl rfl rfl qd_X6_isFive rfl ⟨by decide, by decide⟩ ⟨by decide, by decide⟩ rfl (Nat.le_of_ble_eq_true rfl) rfl 6 0 rfl rfl (fun r95 u95 hX95 hn95 => ?_)
              obtain rfl := (Prod.mk.inj hX95).1
              refine j_if_eq C dX6_kindHere_112 117 rfl 115 rfl (fun c96 => ?_) (fun c96 => ?_)
              · rw [if_pos c96] at hR
                refine j_aload_n C dX6_kindHere_117 118 rfl rfl 0 rfl ?_
                refine j_bipush (v := 7) C dX6_kindHere_118 120 rfl (by decide) ?_
                refine j_bipush (v := 111) C dX6_kindHere_120 122 rfl (by decide) ?_
                refine j_bipush (v := 102) C dX6_kindHere_122 124 rfl (by decide) ?_
                refine j_bipush (v := 102) C dX6_kindHere_124 126 rfl (by decide) ?_
                refine j_bipush (v := 114) C dX6_kindHere_126 128 rfl (by decide) ?_
                refine j_cv0I (na := 5) C dX6_kindHere_128 131 rfl (c_X6_isName τ a ss mhd mas mbf mih mtp mtn mtk mfr mtt mvl miw mld mrw mrn mso msz mnu mhw mhh mhm mbo mrr mak man maa mip (7 : Int32) (111 : Int32) (102 : Int32) (102 : Int32) (114 : Int32) (by first | assumption | exact TN0 | (unfold vp_in; decide) | decide) (by first | assumption | exact TN0 | (unfold vp_in; decide) | decide) (by first | assumption | exact TN0 | (unfold vp_in; decide) | decide) (by first | assumption | exact TN0 | (unfold vp_in; decide) | decide)) gX6_kindHere_X6_isName rfl rfl rfl qd_X6_isName rfl ⟨by decide, by decide⟩ ⟨by decide, by decide⟩ rfl (Nat.le_of_ble_eq_true rfl) rfl 6 0 rfl rfl (fun r97 u97 hX97 hn97 => ?_)
                obtain rfl := (Prod.mk.inj hX97).1
                refine j_if_eq C dX6_kindHere_131 150 rfl 134 rfl (fun c98 => ?_) (fun c98 => ?_)
                · rw [if_pos c98] at hR
                  refine j_aload_n C dX6_kindHere_150 151 rfl rfl 0 rfl ?_
                  refine j_bipush (v := 6) C dX6_kindHere_151 153 rfl (by decide) ?_
                  refine j_bipush (v := 109) C dX6_kindHere_153 155 rfl (by decide) ?_
                  refine j_bipush (v := 111) C dX6_kindHere_155 157 rfl (by decide) ?_
                  refine j_bipush (v := 116) C dX6_kindHere_157 159 rfl (by decide) ?_
                  refine j_bipush (v := 114) C dX6_kindHere_159 161 rfl (by decide) ?_
                  refine j_cv0I (na := 5) C dX6_kindHere_161 164 rfl (c_X6_isName τ a ss mhd mas mbf mih mtp mtn mtk mfr mtt mvl miw mld mrw mrn mso msz mnu mhw mhh mhm mbo mrr mak man maa mip (6 : Int32) (109 : Int32) (111 : Int32) (116 : Int32) (114 : Int32) (by first | assumption | exact TN0 | (unfold vp_in; decide) | decide) (by first | assumption | exact TN0 | (unfold vp_in; decide) | decide) (by first | assumption | exact TN0 | (unfold vp_in; decide) | decide) (by first | assumption | exact TN0 | (unfold vp_in; decide) | decide)) gX6_kindHere_X6_isName rfl rfl rfl qd_X6_isName rfl ⟨by decide, by decide⟩ ⟨by decide, by decide⟩ rfl (Nat.le_of_ble_eq_true rfl) rfl 6 0 rfl rfl (fun r99 u99 hX99 hn99 => ?_)
                  obtain rfl := (Prod.mk.inj hX99).1
                  refine j_if_eq C dX6_kindHere_164 185 rfl 167 rfl (fun c100 => ?_) (fun c100 => ?_)
                  · rw [if_pos c100] at hR
                    refine j_iconst (v := (-1)) C dX6_kindHere_185 186 rfl (by decide) ?_
                    exact Rt.ret (hR) rfl dX6_kindHere_186
                  · rw [if_neg c100] at hR
                    refine j_aload_n C dX6_kindHere_167 168 rfl rfl 0 rfl ?_
                    refine j_iconst (v := 2) C dX6_kindHere_168 169 rfl (by decide) ?_
                    refine j_bipush (v := 116) C dX6_kindHere_169 171 rfl (by decide) ?_
                    refine j_bipush (v := 104) C dX6_kindHere_171 173 rfl (by decide) ?_
                    refine j_bipush (v := 101) C dX6_kindHere_173 175 rfl (by decide) ?_
                    refine j_cv0I (na := 4) C dX6_kindHere_175 178 rfl (c_X6_isSame τ a ss mhd mas mbf mih mtp mtn mtk mfr mtt mvl miw mld mrw mrn mso msz mnu mhw mhh mhm mbo mrr mak man maa mip (2 : Int32) (116 : Int32) (104 : Int32) (101 : Int32) (by first | assumption | exact TN0 | (unfold vp_in; decide) | decide) (by first | assumption | exact TN0 | (unfold vp_in; decide) | decide) (by first | assumption | exact TN0 | (unfold vp_in; decide) | decide) (by first | assumption | exact TN0 | (unfold vp_in; decide) | decide) (by first | assumption | exact TN0 | (unfold vp_in; decide) | decide)) gX6_kindHere_X6_isSame rfl rfl rfl qd_X6_isSame rfl ⟨by decide, by decide⟩ ⟨by decide, by decide⟩ rfl (Nat.le_of_ble_eq_true rfl) rfl 6 0 rfl rfl (fun r101 u101 hX101 hn101 => ?_)
                    obtain rfl := (Prod.mk.inj hX101).1
                    refine j_if_eq C dX6_kindHere_178 185 rfl 181 rfl (fun c102 => ?_) (fun c102 => ?_)
                    · rw [if_pos c102] at hR
                      refine j_iconst (v := (-1)) C dX6_kindHere_185 186 rfl (by decide) ?_
                      exact Rt.ret (hR) rfl dX6_kindHere_186
                    · rw [if_neg c102] at hR
                      refine j_iconst (v := 5) C dX6_kindHere_181 182 rfl (by decide) ?_
                      refine j_goto C dX6_kindHere_182 186 rfl ?_
                      exact Rt.ret (hR) rfl dX6_kindHere_186
                · rw [if_neg c98] at hR
                  refine j_aload_n C dX6_kindHere_134 135 rfl rfl 0 rfl ?_
                  refine j_iconst (v := 3) C dX6_kindHere_135 136 rfl (by decide) ?_
                  refine j_bipush (v := 105) C dX6_kindHere_136 138 rfl (by decide) ?_
                  refine j_bipush (v := 99) C dX6_kindHere_138 140 rfl (by decide) ?_
                  refine j_bipush (v := 101) C dX6_kindHere_140 142 rfl (by decide) ?_
                  refine j_cv0I (na := 4) C dX6_kindHere_142 145 rfl (c_X6_isSame τ a ss mhd mas mbf mih mtp mtn mtk mfr mtt mvl miw mld mrw mrn mso msz mnu mhw mhh mhm mbo mrr mak man maa mip (3 : Int32) (105 : Int32) (99 : Int32) (101 : Int32) (by first | assumption | exact TN0 | (unfold vp_in; decide) | decide) (by first | assumption | exact TN0 | (unfold vp_in; decide) | decide) (by first | assumption | exact TN0 | (unfold vp_in; decide) | decide) (by first | assumption | exact TN0 | (unfold vp_in; decide) | decide) (by first | assumption | exact TN0 | (unfold vp_in; decide) | decide)) gX6_kindHere_X6_isSame rfl rfl rfl qd_X6_isSame rfl ⟨by decide, by decide⟩ ⟨by decide, by decide⟩ rfl (Nat.le_of_ble_eq_true rfl) rfl 6 0 rfl rfl (fun r103 u103 hX103 hn103 => ?_)
                  obtain rfl := (Prod.mk.inj hX103).1
                  refine j_if_eq C dX6_kindHere_145 150 rfl 148 rfl (fun c104 => ?_) (fun c104 => ?_)
                  · rw [if_pos c104] at hR
                    refine j_aload_n C dX6_kindHere_150 151 rfl rfl 0 rfl ?_
                    refine j_bipush (v := 6) C dX6_kindHere_151 153 rfl (by decide) ?_
                    refine j_bipush (v := 109) C dX6_kindHere_153 155 rfl (by decide) ?_
                    refine j_bipush (v := 111) C dX6_kindHere_155 157 rfl (by decide) ?_
                    refine j_bipush (v := 116) C dX6_kindHere_157 159 rfl (by decide) ?_
                    refine j_bipush (v := 114) C dX6_kindHere_159 161 rfl (by decide) ?_
                    refine j_cv0I (na := 5) C dX6_kindHere_161 164 rfl (c_X6_isName τ a ss mhd mas mbf mih mtp mtn mtk mfr mtt mvl miw mld mrw mrn mso msz mnu mhw mhh mhm mbo mrr mak man maa mip (6 : Int32) (109 : Int32) (111 : Int32) (116 : Int32) (114 : Int32) (by first | assumption | exact TN0 | (unfold vp_in; decide) | decide) (by first | assumption | exact TN0 | (unfold vp_in; decide) | decide) (by first | assumption | exact TN0 | (unfold vp_in; decide) | decide) (by first | assumption | exact TN0 | (unfold vp_in; decide) | decide)) gX6_kindHere_X6_isName rfl rfl rfl qd_X6_isName rfl ⟨by decide, by decide⟩ ⟨by decide, by decide⟩ rfl (Nat.le_of_ble_eq_true rfl) rfl 6 0 rfl rfl (fun r105 u105 hX105 hn105 => ?_)
                    obtain rfl := (Prod.mk.inj hX105).1
                    refine j_if_eq C dX6_kindHere_164 185 rfl 167 rfl (fun c106 => ?_) (fun c106 => ?_)
                    · rw [if_pos c106] at hR
                      refine j_iconst (v := (-1)) C dX6_kindHere_185 186 rfl (by decide) ?_
                      exact Rt.ret (hR) rfl dX6_kindHere_186
                    · rw [if_neg c106] at hR
                      refine j_aload_n C dX6_kindHere_167 168 rfl rfl 0 rfl ?_
                      refine j_iconst (v := 2) C dX6_kindHere_168 169 rfl (by decide) ?_
                      refine j_bipush (v := 116) C dX6_kindHere_169 171 rfl (by decide) ?_
                      refine j_bipush (v := 104) C dX6_kindHere_171 173 rfl (by decide) ?_
                      refine j_bipush (v := 101) C dX6_kindHere_173 175 rfl (by decide) ?_
                      refine j_cv0I (na := 4) C dX6_kindHere_175 178 rfl (c_X6_isSame τ a ss mhd mas mbf mih mtp mtn mtk mfr mtt mvl miw mld mrw mrn mso msz mnu mhw mhh mhm mbo mrr mak man maa mip (2 : Int32) (116 : Int32) (104 : Int32) (101 : Int32) (by first | assumption | exact TN0 | (unfold vp_in; decide) | decide) (by first | assumption | exact TN0 | (unfold vp_in; decide) | decide) (by first | assumption | exact TN0 | (unfold vp_in; decide) | decide) (by first | assumption | exact TN0 | (unfold vp_in; decide) | decide) (by first | assumption | exact TN0 | (unfold vp_in; decide) | decide)) gX6_kindHere_X6_isSame rfl rfl rfl qd_X6_isSame rfl ⟨by decide, by decide⟩ ⟨by decide, by decide⟩ rfl (Nat.le_of_ble_eq_true rfl) rfl 6 0 rfl rfl (fun r107 u107 hX107 hn107 => ?_)
                      obtain rfl := (Prod.mk.inj hX107).1
                      refine j_if_eq C dX6_kindHere_178 185 rfl 181 rfl (fun c108 => ?_) (fun c108 => ?_)
                      · rw [if_pos c108] at hR
                        refine j_iconst (v := (-1)) C dX6_kindHere_185 186 rfl (by decide) ?_
                        exact Rt.ret (hR) rfl dX6_kindHere_186
                      · rw [if_neg c108] at hR
                        refine j_iconst (v := 5) C dX6_kindHere_181 182 rfl (by decide) ?_
                        refine j_goto C dX6_kindHere_182 186 rfl ?_
                        exact Rt.ret (hR) rfl dX6_kindHere_186
                  · rw [if_neg c104] at hR
                    refine j_iconst (v := 4) C dX6_kindHere_148 149 rfl (by decide) ?_
                    exact Rt.ret (hR) rfl dX6_kindHere_149
              · rw [if_neg c96] at hR
                refine j_iconst (v := 3) C dX6_kindHere_115 116 rfl (by decide) ?_
                exact Rt.ret (hR) rfl dX6_kindHere_116
            · rw [if_neg c94] at hR
              refine j_iconst (v := 2) C dX6_kindHere_96 97 rfl (by decide) ?_
              exact Rt.ret (hR) rfl dX6_kindHere_97
        · rw [if_neg c76] at hR
          refine j_iconst (v := 1) C dX6_kindHere_63 64 rfl (by decide) ?_
          exact Rt.ret (hR) rfl dX6_kindHere_64
      · rw [if_neg c74] at hR
        refine j_iconst (v := 0) C dX6_kindHere_46 47 rfl (by decide) ?_
        exact Rt.ret (hR) rfl dX6_kindHere_47

-- X6_lawHere
def f_X6_lawHere (mtp : Nat → Int32) (mtn : Int32) (mtk : Int32) (mfr : Int32) (mtt : Int32) : Int32 := if ((f_X6_isFour mtp mtn mtk mfr mtt (103 : Int32) (111 : Int32) (97 : Int32) (108 : Int32)) = 0) then (if ((f_X6_isFour mtp mtn mtk mfr mtt (108 : Int32) (111 : Int32) (117 : Int32) (100 : Int32)) = 0) then (if ((f_X6_isFive mtp mtn mtk mfr mtt (119 : Int32) (97 : Int32) (116 : Int32) (99 : Int32) (104 : Int32)) = 0) then (if ((f_X6_isFive mtp mtn mtk mfr mtt (99 : Int32) (111 : Int32) (117 : Int32) (103 : Int32) (104 : Int32)) = 0) then ((-1) : Int32) else (9 : Int32)) else (8 : Int32)) else (7 : Int32)) else (6 : Int32)
theorem qd_X6_lawHere : yX6_lawHere.cls = RX6 ∧ yX6_lawHere.cls ≠ "java/lang/invoke/MethodHandle" ∧ yX6_lawHere.cls ≠ "java/lang/invoke/VarHandle" ∧ (parseMethodDescriptor yX6_lawHere.desc).map (fun d => d.parameters.length) = some 0 := by decide +kernel
abbrev rmX6_lawHere : Room := { frames := 3, cells := 0, slots := 0, locals := 71 }
set_option maxHeartbeats 4000000 in
set_option maxRecDepth 100000 in
theorem c_X6_lawHere (τ : SX) (a : Nat → Nat) (ss : Nat → Int32) (mhd : Nat → Int32) (mas : Nat → Int32) (mbf : Nat → Int32) (mih : Int32) (mtp : Nat → Int32) (mtn : Int32) (mtk : Int32) (mfr : Int32) (mtt : Int32) (mvl : Int32) (miw : Int32) (mld : Nat → Int32) (mrw : Nat → Int32) (mrn : Int32) (mso : Nat → Int32) (msz : Nat → Int32) (mnu : Nat → Int32) (mhw : Nat → Int32) (mhh : Nat → Int32) (mhm : Nat → Int32) (mbo : Nat → Int32) (mrr : Int32) (mak : Int32) (man : Int32) (maa : Int32) (mip : Int32) (hn : TN mtn) (hf : TN mfr) (ht : TN mtt) (sz : Nat) : McI τ yX6_lawHere wsX6_lawHere rmX6_lawHere .int [.ref (a 0)] (wM τ a ss mhd mas mbf mih mtp mtn mtk mfr mtt mvl miw mld mrw mrn mso msz mnu mhw mhh mhm mbo mrr mak man maa mip) (fun _ : Unit => (wM τ a ss mhd mas mbf mih mtp mtn mtk mfr mtt mvl miw mld mrw mrn mso msz mnu mhw mhh mhm mbo mrr mak man maa mip)) (f_X6_lawHere mtp mtn mtk mfr mtt, ()) sz := by
  refine mc_I (cc := cX6_lawHere) (own := RX6) [(0, .ref (a 0))] rfl (by decide) rfl rfl (Nat.le_of_ble_eq_true rfl) (fun κ C hR => ?_)
  have hiX6 : ∀ w ∈ wsX60, w ∈ wsX6_lawHere := fun w h => List.mem_cons_of_mem _ (List.mem_append_right _ h)
  unfold f_X6_lawHere at hR
  refine j_aload_n C dX6_lawHere_0 1 rfl rfl 0 rfl ?_
  refine j_bipush (v := 103) C dX6_lawHere_1 3 rfl (by decide) ?_
  refine j_bipush (v := 111) C dX6_lawHere_3 5 rfl (by decide) ?_
  refine j_bipush (v := 97) C dX6_lawHere_5 7 rfl (by decide) ?_
  refine j_bipush (v := 108) C dX6_lawHere_7 9 rfl (by decide) ?_
  refine j_cv0I (na := 4) C dX6_lawHere_9 12 rfl (c_X6_isFour τ a ss mhd mas mbf mih mtp mtn mtk mfr mtt mvl miw mld mrw mrn mso msz mnu mhw mhh mhm mbo mrr mak man maa mip (103 : Int32) (111 : Int32) (97 : Int32) (108 : Int32) (by first | assumption | exact TN0 | (unfold vp_in; decide) | decide) (by first | assumption | exact TN0 | (unfold vp_in; decide) | decide) (by first | assumption | exact TN0 | (unfold vp_in; decide) | decide)) gX6_lawHere_X6_isFour rfl rfl rfl qd_X6_isFour rfl ⟨by decide, by decide⟩ ⟨by decide, by decide⟩ rfl (Nat.le_of_ble_eq_true rfl) rfl 6 0 rfl rfl (fun r1 u1 hX1 hn1 => ?_)
  obtain rfl := (Prod.mk.inj hX1).1
  refine j_if_eq C dX6_lawHere_12 18 rfl 15 rfl (fun c2 => ?_) (fun c2 => ?_)
  · rw [if_pos c2] at hR
    refine j_aload_n C dX6_lawHere_18 19 rfl rfl 0 rfl ?_
    refine j_bipush (v := 108) C dX6_lawHere_19 21 rfl (by decide) ?_
    refine j_bipush (v := 111) C dX6_lawHere_21 23 rfl (by decide) ?_
    refine j_bipush (v := 117) C dX6_lawHere_23 25 rfl (by decide) ?_
    refine j_bipush (v := 100) C dX6_lawHere_25 27 rfl (by decide) ?_
    refine j_cv0I (na := 4) C dX6_lawHere_27 30 rfl (c_X6_isFour τ a ss mhd mas mbf mih mtp mtn mtk mfr mtt mvl miw mld mrw mrn mso msz mnu mhw mhh mhm mbo mrr mak man maa mip (108 : Int32) (111 : Int32) (117 : Int32) (100 : Int32) (by first | assumption | exact TN0 | (unfold vp_in; decide) | decide) (by first | assumption | exact TN0 | (unfold vp_in; decide) | decide) (by first | assumption | exact TN0 | (unfold vp_in; decide) | decide)) gX6_lawHere_X6_isFour rfl rfl rfl qd_X6_isFour rfl ⟨by decide, by decide⟩ ⟨by decide, by decide⟩ rfl (Nat.le_of_ble_eq_true rfl) rfl 6 0 rfl rfl (fun r3 u3 hX3 hn3 => ?_)
    obtain rfl := (Prod.mk.inj hX3).1
    refine j_if_eq C dX6_lawHere_30 36 rfl 33 rfl (fun c4 => ?_) (fun c4 => ?_)
    · rw [if_pos c4] at hR
      refine j_aload_n C dX6_lawHere_36 37 rfl rfl 0 rfl ?_
      refine j_bipush (v := 119) C dX6_lawHere_37 39 rfl (by decide) ?_
      refine j_bipush (v := 97) C dX6_lawHere_39 41 rfl (by decide) ?_
      refine j_bipush (v := 116) C dX6_lawHere_41 43 rfl (by decide) ?_
      refine j_bipush (v := 99) C dX6_lawHere_43 45 rfl (by decide) ?_
      refine j_bipush (v := 104) C dX6_lawHere_45 47 rfl (by decide) ?_
      refine j_cv0I (na := 5) C dX6_lawHere_47 50 rfl (c_X6_isFive τ a ss mhd mas mbf mih mtp mtn mtk mfr mtt mvl miw mld mrw mrn mso msz mnu mhw mhh mhm mbo mrr mak man maa mip (119 : Int32) (97 : Int32) (116 : Int32) (99 : Int32) (104 : Int32) (by first | assumption | exact TN0 | (unfold vp_in; decide) | decide) (by first | assumption | exact TN0 | (unfold vp_in; decide) | decide) (by first | assumption | exact TN0 | (unfold vp_in; decide) | decide)) gX6_lawHere_X6_isFive rfl rfl rfl qd_X6_isFive rfl ⟨by decide, by decide⟩ ⟨by decide, by decide⟩ rfl (Nat.le_of_ble_eq_true rfl) rfl 6 0 rfl rfl (fun r5 u5 hX5 hn5 => ?_)
      obtain rfl := (Prod.mk.inj hX5).1
      refine j_if_eq C dX6_lawHere_50 56 rfl 53 rfl (fun c6 => ?_) (fun c6 => ?_)
      · rw [if_pos c6] at hR
        refine j_aload_n C dX6_lawHere_56 57 rfl rfl 0 rfl ?_
        refine j_bipush (v := 99) C dX6_lawHere_57 59 rfl (by decide) ?_
        refine j_bipush (v := 111) C dX6_lawHere_59 61 rfl (by decide) ?_
        refine j_bipush (v := 117) C dX6_lawHere_61 63 rfl (by decide) ?_
        refine j_bipush (v := 103) C dX6_lawHere_63 65 rfl (by decide) ?_
        refine j_bipush (v := 104) C dX6_lawHere_65 67 rfl (by decide) ?_
        refine j_cv0I (na := 5) C dX6_lawHere_67 70 rfl (c_X6_isFive τ a ss mhd mas mbf mih mtp mtn mtk mfr mtt mvl miw mld mrw mrn mso msz mnu mhw mhh mhm mbo mrr mak man maa mip (99 : Int32) (111 : Int32) (117 : Int32) (103 : Int32) (104 : Int32) (by first | assumption | exact TN0 | (unfold vp_in; decide) | decide) (by first | assumption | exact TN0 | (unfold vp_in; decide) | decide) (by first | assumption | exact TN0 | (unfold vp_in; decide) | decide)) gX6_lawHere_X6_isFive rfl rfl rfl qd_X6_isFive rfl ⟨by decide, by decide⟩ ⟨by decide, by decide⟩ rfl (Nat.le_of_ble_eq_true rfl) rfl 6 0 rfl rfl (fun r7 u7 hX7 hn7 => ?_)
        obtain rfl := (Prod.mk.inj hX7).1
        refine j_if_eq C dX6_lawHere_70 78 rfl 73 rfl (fun c8 => ?_) (fun c8 => ?_)
        · rw [if_pos c8] at hR
          refine j_iconst (v := (-1)) C dX6_lawHere_78 79 rfl (by decide) ?_
          exact Rt.ret (hR) rfl dX6_lawHere_79
        · rw [if_neg c8] at hR
          refine j_bipush (v := 9) C dX6_lawHere_73 75 rfl (by decide) ?_
          refine j_goto C dX6_lawHere_75 79 rfl ?_
          exact Rt.ret (hR) rfl dX6_lawHere_79
      · rw [if_neg c6] at hR
        refine j_bipush (v := 8) C dX6_lawHere_53 55 rfl (by decide) ?_
        exact Rt.ret (hR) rfl dX6_lawHere_55
    · rw [if_neg c4] at hR
      refine j_bipush (v := 7) C dX6_lawHere_33 35 rfl (by decide) ?_
      exact Rt.ret (hR) rfl dX6_lawHere_35
  · rw [if_neg c2] at hR
    refine j_bipush (v := 6) C dX6_lawHere_15 17 rfl (by decide) ?_
    exact Rt.ret (hR) rfl dX6_lawHere_17

-- X6_numberTo
def f_X6_numberTo (ss : Nat → Int32) (mtp : Nat → Int32) (mtn : Int32) (mtk : Int32) (mfr : Int32) (mtt : Int32) (mvl : Int32) (miw : Int32) (x1 : Int32) (x2 : Int32) (x3 : Int32) : (Nat → Int32) × Int32 × Int32 × Int32 × Int32 × Int32 := pr1 (if (mtk = 2) then (if (3 < (mtt - mfr)) then (0 : Int32) else (if (mvl < x2) then (0 : Int32) else (if (x3 < mvl) then (0 : Int32) else (1 : Int32)))) else (0 : Int32)) (fun j5_0 => pr1 (if (j5_0 = 0) then ss else (if (miw = 0) then (upd ss (x1).toNatClampNeg mvl) else ss)) (fun j46_0 => pr5 (f_X6_needs mtp mtn mtk mfr mtt mvl miw j5_0) (fun mtk_7 mfr_7 mtt_7 mvl_7 miw_7 => (j46_0, mtk_7, mfr_7, mtt_7, mvl_7, miw_7))))
theorem kX6_numberTo_f84 : Cond.fieldLink RX6 84 "TwoMinutesModel" "token" "I" ∈ wsX6_numberTo := by decide +kernel
theorem kX6_numberTo_f67 : Cond.fieldLink RX6 67 "TwoMinutesModel" "to" "I" ∈ wsX6_numberTo := by decide +kernel
theorem kX6_numberTo_f70 : Cond.fieldLink RX6 70 "TwoMinutesModel" "from" "I" ∈ wsX6_numberTo := by decide +kernel
theorem kX6_numberTo_f87 : Cond.fieldLink RX6 87 "TwoMinutesModel" "value" "I" ∈ wsX6_numberTo := by decide +kernel
theorem kX6_numberTo_f90 : Cond.fieldLink RX6 90 "TwoMinutesModel" "isWrong" "Z" ∈ wsX6_numberTo := by decide +kernel
theorem kX6_numberTo_f7 : Cond.fieldLink RX6 7 "TwoMinutesModel" "s" "[I" ∈ wsX6_numberTo := by decide +kernel
theorem qd_X6_numberTo : yX6_numberTo.cls = RX6 ∧ yX6_numberTo.cls ≠ "java/lang/invoke/MethodHandle" ∧ yX6_numberTo.cls ≠ "java/lang/invoke/VarHandle" ∧ (parseMethodDescriptor yX6_numberTo.desc).map (fun d => d.parameters.length) = some 3 := by decide +kernel
abbrev rmX6_numberTo : Room := { frames := 3, cells := 0, slots := 0, locals := 63 }
set_option maxHeartbeats 4000000 in
set_option maxRecDepth 100000 in
theorem c_X6_numberTo (τ : SX) (a : Nat → Nat) (ss : Nat → Int32) (mhd : Nat → Int32) (mas : Nat → Int32) (mbf : Nat → Int32) (mih : Int32) (mtp : Nat → Int32) (mtn : Int32) (mtk : Int32) (mfr : Int32) (mtt : Int32) (mvl : Int32) (miw : Int32) (mld : Nat → Int32) (mrw : Nat → Int32) (mrn : Int32) (mso : Nat → Int32) (msz : Nat → Int32) (mnu : Nat → Int32) (mhw : Nat → Int32) (mhh : Nat → Int32) (mhm : Nat → Int32) (mbo : Nat → Int32) (mrr : Int32) (mak : Int32) (man : Int32) (maa : Int32) (mip : Int32) (x1 : Int32) (x2 : Int32) (x3 : Int32) (hn : TN mtn) (hx : TX mtk mfr mtt) (hat : miw = 0 → vp_in x1 50) (sz : Nat) : McV τ yX6_numberTo wsX6_numberTo rmX6_numberTo [.ref (a 0), .int x1, .int x2, .int x3] (wM τ a ss mhd mas mbf mih mtp mtn mtk mfr mtt mvl miw mld mrw mrn mso msz mnu mhw mhh mhm mbo mrr mak man maa mip) (fun u : (Nat → Int32) × Int32 × Int32 × Int32 × Int32 × Int32 => (wM τ a u.1 mhd mas mbf mih mtp mtn u.2.1 u.2.2.1 u.2.2.2.1 u.2.2.2.2.1 u.2.2.2.2.2 mld mrw mrn mso msz mnu mhw mhh mhm mbo mrr mak man maa mip)) (f_X6_numberTo ss mtp mtn mtk mfr mtt mvl miw x1 x2 x3) 0 0 sz := by
  refine mc_V (cc := cX6_numberTo) (own := RX6) [(0, .ref (a 0)), (1, .int x1), (2, .int x2), (3, .int x3)] rfl (by decide) rfl rfl (Nat.le_of_ble_eq_true rfl) (fun κ C _ hR => ?_)
  have hiX6 : ∀ w ∈ wsX60, w ∈ wsX6_numberTo := fun w h => List.mem_cons_of_mem _ (List.mem_append_right _ h)
  unfold f_X6_numberTo at hR
  refine j_aload_n C dX6_numberTo_0 1 rfl rfl 0 rfl ?_
  refine j_get C dX6_numberTo_1 4 rfl hiX6 0 rfl rfl 7 (by decide) rfl kX6_numberTo_f84 rfl ?_
  refine j_iconst (v := 2) C dX6_numberTo_4 5 rfl (by decide) ?_
  have J5 : ∀ (j5_0 : Int32), RtV τ κ cX6_numberTo 0 0 (fun u : (Nat → Int32) × Int32 × Int32 × Int32 × Int32 × Int32 => (wM τ a u.1 mhd mas mbf mih mtp mtn u.2.1 u.2.2.1 u.2.2.2.1 u.2.2.2.2.1 u.2.2.2.2.2 mld mrw mrn mso msz mnu mhw mhh mhm mbo mrr mak man maa mip)) (pr1 (if (j5_0 = 0) then ss else (if (miw = 0) then (upd ss (x1).toNatClampNeg mvl) else ss)) (fun j46_0 => pr5 (f_X6_needs mtp mtn mtk mfr mtt mvl miw j5_0) (fun mtk_7 mfr_7 mtt_7 mvl_7 miw_7 => (j46_0, mtk_7, mfr_7, mtt_7, mvl_7, miw_7)))) → J τ κ 0 0 (wM τ a ss mhd mas mbf mih mtp mtn mtk mfr mtt mvl miw mld mrw mrn mso msz mnu mhw mhh mhm mbo mrr mak man maa mip) [(0, .ref (a 0)), (1, .int x1), (2, .int x2), (3, .int x3)] 42 [.int j5_0] := by
    intro j5_0  hR
    refine j_istore C dX6_numberTo_42 44 rfl (by decide) [(4, .int j5_0), (0, .ref (a 0)), (1, .int x1), (2, .int x2), (3, .int x3)] rfl ?_
    refine j_iload C dX6_numberTo_44 46 rfl 0 rfl ?_
    have J46 : ∀ (j46_0 : Nat → Int32), RtV τ κ cX6_numberTo 0 0 (fun u : (Nat → Int32) × Int32 × Int32 × Int32 × Int32 × Int32 => (wM τ a u.1 mhd mas mbf mih mtp mtn u.2.1 u.2.2.1 u.2.2.2.1 u.2.2.2.2.1 u.2.2.2.2.2 mld mrw mrn mso msz mnu mhw mhh mhm mbo mrr mak man maa mip)) (pr5 (f_X6_needs mtp mtn mtk mfr mtt mvl miw j5_0) (fun mtk_7 mfr_7 mtt_7 mvl_7 miw_7 => (j46_0, mtk_7, mfr_7, mtt_7, mvl_7, miw_7))) → J τ κ 0 0 (wM τ a j46_0 mhd mas mbf mih mtp mtn mtk mfr mtt mvl miw mld mrw mrn mso msz mnu mhw mhh mhm mbo mrr mak man maa mip) [(0, .ref (a 0)), (1, .int x1), (2, .int x2), (3, .int x3), (4, .int j5_0)] 66 [] := by
      intro j46_0  hR
      refine j_aload_n C dX6_numberTo_66 67 rfl rfl 0 rfl ?_
      refine j_iload C dX6_numberTo_67 69 rfl 4 rfl ?_
      refine j_cv0V (na := 1) C dX6_numberTo_69 72 rfl (c_X6_needs τ a j46_0 mhd mas mbf mih mtp mtn mtk mfr mtt mvl miw mld mrw mrn mso msz mnu mhw mhh mhm mbo mrr mak man maa mip j5_0 (by first | assumption | exact TN0 | (unfold vp_in; decide) | decide) (by first | assumption | exact TN0 | (unfold vp_in; decide) | decide)) gX6_numberTo_X6_needs rfl rfl rfl qd_X6_needs rfl ⟨by decide, by decide⟩ ⟨by decide, by decide⟩ rfl (Nat.le_of_ble_eq_true rfl) rfl 6 0 rfl rfl (fun u7 hX7 => ?_)
      obtain ⟨mtk_7, mfr_7, mtt_7, mvl_7, miw_7⟩ := u7
      rw [hX7] at hR; rw [pr5_mk mtk_7 mfr_7 mtt_7 mvl_7 miw_7] at hR
      exact hR _ _ dX6_numberTo_72
    refine j_if_eq C dX6_numberTo_46 66 rfl 49 rfl (fun c5 => ?_) (fun c5 => ?_)
    · rw [if_pos c5] at hR
      rw [pr1_mk ss] at hR
      exact j_lv [1, 2, 3, 4, 0] [(0, .ref (a 0)), (1, .int x1), (2, .int x2), (3, .int x3), (4, .int j5_0)] rfl (J46 _  hR)
    · rw [if_neg c5] at hR
      refine j_aload_n C dX6_numberTo_49 50 rfl rfl 1 rfl ?_
      refine j_get C dX6_numberTo_50 53 rfl hiX6 0 rfl rfl 11 (by decide) rfl kX6_numberTo_f90 rfl ?_
      refine j_if_ne C dX6_numberTo_53 66 rfl 56 rfl (fun c6 => ?_) (fun c6 => ?_)
      · rw [if_neg c6] at hR
        rw [pr1_mk ss] at hR
        exact j_lv [1, 2, 3, 4, 0] [(0, .ref (a 0)), (1, .int x1), (2, .int x2), (3, .int x3), (4, .int j5_0)] rfl (J46 _  hR)
      · rw [if_pos c6] at hR
        refine j_aload_n C dX6_numberTo_56 57 rfl rfl 1 rfl ?_
        refine j_get C dX6_numberTo_57 60 rfl hiX6 0 rfl rfl 0 (by decide) rfl kX6_numberTo_f7 rfl ?_
        refine j_iload_n C dX6_numberTo_60 61 rfl rfl 2 rfl ?_
        refine j_aload_n C dX6_numberTo_61 62 rfl rfl 1 rfl ?_
        refine j_get C dX6_numberTo_62 65 rfl hiX6 0 rfl rfl 10 (by decide) rfl kX6_numberTo_f87 rfl ?_
        refine j_iast C dX6_numberTo_65 66 rfl 1 rfl (hat c6) (x1).toNatClampNeg rfl (wM τ a (upd ss (x1).toNatClampNeg mvl) mhd mas mbf mih mtp mtn mtk mfr mtt mvl miw mld mrw mrn mso msz mnu mhw mhh mhm mbo mrr mak man maa mip) rfl ?_
        rw [pr1_mk (upd ss (x1).toNatClampNeg mvl)] at hR
        exact j_lv [1, 2, 3, 4, 0] [(0, .ref (a 0)), (1, .int x1), (2, .int x2), (3, .int x3), (4, .int j5_0)] rfl (J46 _  hR)
  refine j_icmp_ne C dX6_numberTo_5 41 rfl 8 rfl (fun c1 => ?_) (fun c1 => ?_)
  · rw [if_neg c1] at hR
    refine j_iconst (v := 0) C dX6_numberTo_41 42 rfl (by decide) ?_
    rw [pr1_mk (0 : Int32)] at hR
    exact j_lv [0, 1, 2, 3] [(0, .ref (a 0)), (1, .int x1), (2, .int x2), (3, .int x3)] rfl (J5 _  hR)
  · rw [if_pos c1] at hR
    refine j_aload_n C dX6_numberTo_8 9 rfl rfl 0 rfl ?_
    refine j_get C dX6_numberTo_9 12 rfl hiX6 0 rfl rfl 9 (by decide) rfl kX6_numberTo_f67 rfl ?_
    refine j_aload_n C dX6_numberTo_12 13 rfl rfl 0 rfl ?_
    refine j_get C dX6_numberTo_13 16 rfl hiX6 0 rfl rfl 8 (by decide) rfl kX6_numberTo_f70 rfl ?_
    refine j_isub C dX6_numberTo_16 17 rfl ?_
    refine j_iconst (v := 3) C dX6_numberTo_17 18 rfl (by decide) ?_
    refine j_icmp_gt C dX6_numberTo_18 41 rfl 21 rfl (fun c2 => ?_) (fun c2 => ?_)
    · rw [if_pos c2] at hR
      refine j_iconst (v := 0) C dX6_numberTo_41 42 rfl (by decide) ?_
      rw [pr1_mk (0 : Int32)] at hR
      exact j_lv [0, 1, 2, 3] [(0, .ref (a 0)), (1, .int x1), (2, .int x2), (3, .int x3)] rfl (J5 _  hR)
    · rw [if_neg c2] at hR
      refine j_aload_n C dX6_numberTo_21 22 rfl rfl 0 rfl ?_
      refine j_get C dX6_numberTo_22 25 rfl hiX6 0 rfl rfl 10 (by decide) rfl kX6_numberTo_f87 rfl ?_
      refine j_iload_n C dX6_numberTo_25 26 rfl rfl 2 rfl ?_
      refine j_icmp_lt C dX6_numberTo_26 41 rfl 29 rfl (fun c3 => ?_) (fun c3 => ?_)
      · rw [if_pos c3] at hR
        refine j_iconst (v := 0) C dX6_numberTo_41 42 rfl (by decide) ?_
        rw [pr1_mk (0 : Int32)] at hR
        exact j_lv [0, 1, 2, 3] [(0, .ref (a 0)), (1, .int x1), (2, .int x2), (3, .int x3)] rfl (J5 _  hR)
      · rw [if_neg c3] at hR
        refine j_aload_n C dX6_numberTo_29 30 rfl rfl 0 rfl ?_
        refine j_get C dX6_numberTo_30 33 rfl hiX6 0 rfl rfl 10 (by decide) rfl kX6_numberTo_f87 rfl ?_
        refine j_iload_n C dX6_numberTo_33 34 rfl rfl 3 rfl ?_
        refine j_icmp_gt C dX6_numberTo_34 41 rfl 37 rfl (fun c4 => ?_) (fun c4 => ?_)
        · rw [if_pos c4] at hR
          refine j_iconst (v := 0) C dX6_numberTo_41 42 rfl (by decide) ?_
          rw [pr1_mk (0 : Int32)] at hR
          exact j_lv [0, 1, 2, 3] [(0, .ref (a 0)), (1, .int x1), (2, .int x2), (3, .int x3)] rfl (J5 _  hR)
        · rw [if_neg c4] at hR
          refine j_iconst (v := 1) C dX6_numberTo_37 38 rfl (by decide) ?_
          refine j_goto C dX6_numberTo_38 42 rfl ?_
          rw [pr1_mk (1 : Int32)] at hR
          exact j_lv [0, 1, 2, 3] [(0, .ref (a 0)), (1, .int x1), (2, .int x2), (3, .int x3)] rfl (J5 _  hR)

theorem needs_TX {p : Nat → Int32} {n mtk mfr mtt mvl miw x k f t v w : Int32} (hn : TN n) (hx : TX mtk mfr mtt) (e : f_X6_needs p n mtk mfr mtt mvl miw x = (k, f, t, v, w)) : TX k f t ∧ mfr.toInt ≤ f.toInt ∧ (w = 0 → miw = 0 ∧ ¬ x = 0 ∧ (¬ mtk = 0 → mfr.toInt < f.toInt)) := by
  unfold f_X6_needs at e
  by_cases c1 : miw = 0
  · rw [if_pos c1] at e
    by_cases c2 : x = 0
    · rw [if_pos c2, pr1_mk, if_neg (by decide)] at e
      simp only [Prod.mk.injEq] at e
      obtain ⟨rfl, rfl, rfl, rfl, rfl⟩ := e
      exact ⟨hx, Int.le_refl _, fun q => absurd q (by decide)⟩
    · rw [if_neg c2, pr1_mk, if_pos rfl] at e
      rcases h : f_X6_nextToken p n mtt with ⟨k1, f1, t1, v1⟩
      rw [h, pr4_mk] at e
      have hT := next_TX hn hx.t h
      simp only [Prod.mk.injEq] at e
      obtain ⟨rfl, rfl, rfl, rfl, rfl⟩ := e
      have h1 := hx.2.1
      exact ⟨hT.1, by omega, fun _ => ⟨c1, c2, fun q => by have := hx.2.2.2 q; omega⟩⟩
  · rw [if_neg c1, pr1_mk, if_neg (by decide)] at e
    simp only [Prod.mk.injEq] at e
    obtain ⟨rfl, rfl, rfl, rfl, rfl⟩ := e
    exact ⟨hx, Int.le_refl _, fun q => absurd q (by decide)⟩

theorem num_TX {s s2 p : Nat → Int32} {n mtk mfr mtt mvl miw x lo hi k f t v w : Int32} (hn : TN n) (hx : TX mtk mfr mtt) (e : f_X6_numberTo s p n mtk mfr mtt mvl miw x lo hi = (s2, k, f, t, v, w)) : (TX k f t ∧ mfr.toInt ≤ f.toInt ∧ (w = 0 → miw = 0 ∧ mfr.toInt < f.toInt)) ∧ (okS s → (miw = 0 → ∀ y : Int32, lo.toInt ≤ y.toInt → okS (upd s x.toNatClampNeg y)) → okS s2) := by
  unfold f_X6_numberTo at e
  generalize hj : (if mtk = 2 then if 3 < mtt - mfr then (0 : Int32) else if mvl < lo then 0 else if hi < mvl then 0 else 1 else 0) = j at e
  rw [pr1_mk, pr1_mk] at e
  rcases h : f_X6_needs p n mtk mfr mtt mvl miw j with ⟨k1, f1, t1, v1, w1⟩
  rw [h, pr5_mk] at e
  have hT := needs_TX hn hx h
  simp only [Prod.mk.injEq] at e
  obtain ⟨e0, rfl, rfl, rfl, rfl, rfl⟩ := e
  have hj2 : ¬ j = 0 → mtk = 2 ∧ lo.toInt ≤ mvl.toInt := by
    intro q
    by_cases c1 : mtk = 2
    · rw [if_pos c1] at hj
      by_cases c2 : 3 < mtt - mfr
      · rw [if_pos c2] at hj; exact absurd hj.symm q
      · rw [if_neg c2] at hj
        by_cases c3 : mvl < lo
        · rw [if_pos c3] at hj; exact absurd hj.symm q
        · rw [i32_lt] at c3; exact ⟨c1, by omega⟩
    · rw [if_neg c1] at hj; exact absurd hj.symm q
  refine ⟨⟨hT.1, hT.2.1, fun q => ?_⟩, fun ho hq => ?_⟩
  · have hw := hT.2.2 q
    exact ⟨hw.1, hw.2.2 (by rw [(hj2 hw.2.1).1]; decide)⟩
  · rw [← e0]
    by_cases c : j = 0
    · rw [if_pos c]; exact ho
    · rw [if_neg c]
      by_cases c2 : miw = 0
      · rw [if_pos c2]; exact hq c2 _ (hj2 c).2
      · rw [if_neg c2]; exact ho

-- X6_perhaps
def f_X6_perhaps (ss : Nat → Int32) (mtp : Nat → Int32) (mtn : Int32) (mtk : Int32) (mfr : Int32) (mtt : Int32) (mvl : Int32) (miw : Int32) (x1 : Int32) (x2 : Int32) (x3 : Int32) (x4 : Int32) : (Nat → Int32) × Int32 × Int32 × Int32 × Int32 × Int32 := if (miw = 0) then (if (x1 = 0) then (ss, mtk, mfr, mtt, mvl, miw) else (pr4 (f_X6_nextToken mtp mtn mtt) (fun mtk_3 mfr_3 mtt_3 mvl_3 => pr6 (f_X6_numberTo ss mtp mtn mtk_3 mfr_3 mtt_3 mvl_3 miw x2 x3 x4) (fun ss_4 mtk_4 mfr_4 mtt_4 mvl_4 miw_4 => (ss_4, mtk_4, mfr_4, mtt_4, mvl_4, miw_4))))) else (ss, mtk, mfr, mtt, mvl, miw)
theorem kX6_perhaps_f90 : Cond.fieldLink RX6 90 "TwoMinutesModel" "isWrong" "Z" ∈ wsX6_perhaps := by decide +kernel
theorem qd_X6_perhaps : yX6_perhaps.cls = RX6 ∧ yX6_perhaps.cls ≠ "java/lang/invoke/MethodHandle" ∧ yX6_perhaps.cls ≠ "java/lang/invoke/VarHandle" ∧ (parseMethodDescriptor yX6_perhaps.desc).map (fun d => d.parameters.length) = some 4 := by decide +kernel
abbrev rmX6_perhaps : Room := { frames := 4, cells := 0, slots := 0, locals := 87 }
set_option maxHeartbeats 4000000 in
set_option maxRecDepth 100000 in
theorem c_X6_perhaps (τ : SX) (a : Nat → Nat) (ss : Nat → Int32) (mhd : Nat → Int32) (mas : Nat → Int32) (mbf : Nat → Int32) (mih : Int32) (mtp : Nat → Int32) (mtn : Int32) (mtk : Int32) (mfr : Int32) (mtt : Int32) (mvl : Int32) (miw : Int32) (mld : Nat → Int32) (mrw : Nat → Int32) (mrn : Int32) (mso : Nat → Int32) (msz : Nat → Int32) (mnu : Nat → Int32) (mhw : Nat → Int32) (mhh : Nat → Int32) (mhm : Nat → Int32) (mbo : Nat → Int32) (mrr : Int32) (mak : Int32) (man : Int32) (maa : Int32) (mip : Int32) (x1 : Int32) (x2 : Int32) (x3 : Int32) (x4 : Int32) (hn : TN mtn) (hx : TX mtk mfr mtt) (hat : miw = 0 → vp_in x2 50) (sz : Nat) : McV τ yX6_perhaps wsX6_perhaps rmX6_perhaps [.ref (a 0), .int x1, .int x2, .int x3, .int x4] (wM τ a ss mhd mas mbf mih mtp mtn mtk mfr mtt mvl miw mld mrw mrn mso msz mnu mhw mhh mhm mbo mrr mak man maa mip) (fun u : (Nat → Int32) × Int32 × Int32 × Int32 × Int32 × Int32 => (wM τ a u.1 mhd mas mbf mih mtp mtn u.2.1 u.2.2.1 u.2.2.2.1 u.2.2.2.2.1 u.2.2.2.2.2 mld mrw mrn mso msz mnu mhw mhh mhm mbo mrr mak man maa mip)) (f_X6_perhaps ss mtp mtn mtk mfr mtt mvl miw x1 x2 x3 x4) 0 0 sz := by
  refine mc_V (cc := cX6_perhaps) (own := RX6) [(0, .ref (a 0)), (1, .int x1), (2, .int x2), (3, .int x3), (4, .int x4)] rfl (by decide) rfl rfl (Nat.le_of_ble_eq_true rfl) (fun κ C _ hR => ?_)
  have hiX6 : ∀ w ∈ wsX60, w ∈ wsX6_perhaps := fun w h => List.mem_cons_of_mem _ (List.mem_append_right _ h)
  unfold f_X6_perhaps at hR
  refine j_aload_n C dX6_perhaps_0 1 rfl rfl 0 rfl ?_
  refine j_get C dX6_perhaps_1 4 rfl hiX6 0 rfl rfl 11 (by decide) rfl kX6_perhaps_f90 rfl ?_
  refine j_if_ne C dX6_perhaps_4 23 rfl 7 rfl (fun c1 => ?_) (fun c1 => ?_)
  · rw [if_neg c1] at hR
    exact hR _ _ dX6_perhaps_23
  · rw [if_pos c1] at hR
    refine j_iload_n C dX6_perhaps_7 8 rfl rfl 1 rfl ?_
    refine j_if_eq C dX6_perhaps_8 23 rfl 11 rfl (fun c2 => ?_) (fun c2 => ?_)
    · rw [if_pos c2] at hR
      exact hR _ _ dX6_perhaps_23
    · rw [if_neg c2] at hR
      refine j_aload_n C dX6_perhaps_11 12 rfl rfl 0 rfl ?_
      refine j_cv0V (na := 0) C dX6_perhaps_12 15 rfl (c_X6_nextToken τ a ss mhd mas mbf mih mtp mtn mtk mfr mtt mvl miw mld mrw mrn mso msz mnu mhw mhh mhm mbo mrr mak man maa mip hn hx.t) gX6_perhaps_X6_nextToken rfl rfl rfl qd_X6_nextToken rfl ⟨by decide, by decide⟩ ⟨by decide, by decide⟩ rfl (Nat.le_of_ble_eq_true rfl) rfl 6 0 rfl rfl (fun u3 hX3 => ?_)
      obtain ⟨mtk_3, mfr_3, mtt_3, mvl_3⟩ := u3
      rw [hX3] at hR; rw [pr4_mk mtk_3 mfr_3 mtt_3 mvl_3] at hR
      refine j_aload_n C dX6_perhaps_15 16 rfl rfl 0 rfl ?_
      refine j_iload_n C dX6_perhaps_16 17 rfl rfl 2 rfl ?_
      refine j_iload_n C dX6_perhaps_17 18 rfl rfl 3 rfl ?_
      refine j_iload C dX6_perhaps_18 20 rfl 4 rfl ?_
      refine j_cv0V (na := 3) C dX6_perhaps_20 23 rfl (c_X6_numberTo τ a ss mhd mas mbf mih mtp mtn mtk_3 mfr_3 mtt_3 mvl_3 miw mld mrw mrn mso msz mnu mhw mhh mhm mbo mrr mak man maa mip x2 x3 x4 hn (next_TX hn hx.t hX3).1 hat) gX6_perhaps_X6_numberTo rfl rfl rfl qd_X6_numberTo rfl ⟨by decide, by decide⟩ ⟨by decide, by decide⟩ rfl (Nat.le_of_ble_eq_true rfl) rfl 6 0 rfl rfl (fun u4 hX4 => ?_)
      obtain ⟨ss_4, mtk_4, mfr_4, mtt_4, mvl_4, miw_4⟩ := u4
      rw [hX4] at hR; rw [pr6_mk ss_4 mtk_4 mfr_4 mtt_4 mvl_4 miw_4] at hR
      exact hR _ _ dX6_perhaps_23

theorem perh_TX {s s2 p : Nat → Int32} {n mtk mfr mtt mvl miw b x lo hi k f t v w : Int32} (hn : TN n) (hx : TX mtk mfr mtt) (e : f_X6_perhaps s p n mtk mfr mtt mvl miw b x lo hi = (s2, k, f, t, v, w)) : (TX k f t ∧ mfr.toInt ≤ f.toInt ∧ (w = 0 → miw = 0)) ∧ (okS s → (miw = 0 → ∀ y : Int32, lo.toInt ≤ y.toInt → okS (upd s x.toNatClampNeg y)) → okS s2) := by
  unfold f_X6_perhaps at e
  by_cases c1 : miw = 0
  · rw [if_pos c1] at e
    by_cases c2 : b = 0
    · rw [if_pos c2] at e
      simp only [Prod.mk.injEq] at e
      obtain ⟨rfl, rfl, rfl, rfl, rfl, rfl⟩ := e
      exact ⟨⟨hx, Int.le_refl _, fun q => q⟩, fun ho _ => ho⟩
    · rw [if_neg c2] at e
      rcases h : f_X6_nextToken p n mtt with ⟨k1, f1, t1, v1⟩
      rw [h, pr4_mk] at e
      have hT := next_TX hn hx.t h
      rcases h2 : f_X6_numberTo s p n k1 f1 t1 v1 miw x lo hi with ⟨s3, k3, f3, t3, v3, w3⟩
      rw [h2, pr6_mk] at e
      have hN := num_TX hn hT.1 h2
      simp only [Prod.mk.injEq] at e
      obtain ⟨rfl, rfl, rfl, rfl, rfl, rfl⟩ := e
      have h1 := hx.2.1
      exact ⟨⟨hN.1.1, by omega, fun q => (hN.1.2.2 q).1⟩, hN.2⟩
  · rw [if_neg c1] at e
    simp only [Prod.mk.injEq] at e
    obtain ⟨rfl, rfl, rfl, rfl, rfl, rfl⟩ := e
    exact ⟨⟨hx, Int.le_refl _, fun q => q⟩, fun ho _ => ho⟩
theorem per_lt {x : Int32} (c : ¬ (8 : Int32) ≤ x) : x.toInt < 8 := by
  rw [i32_le, show (8 : Int32).toInt = 8 from rfl] at c
  omega
theorem its_ix0 {o : Int32} (h0 : 0 ≤ o.toInt) (h : o.toInt < 8) : ((10 : Int32) + (5 : Int32) * o).toNatClampNeg = 10 + 5 * o.toNatClampNeg := by
  have e := its_toInt0 (o := o) h0 h
  show ((10 : Int32) + (5 : Int32) * o).toInt.toNat = 10 + 5 * o.toInt.toNat
  omega
theorem comes_at {s : Nat → Int32} {kd bt ph cn : Int32} (h0 : 0 ≤ (s 0).toInt) (hl : (s 0).toInt < 8) (j : Nat) : f_X6_comes s kd bt ph cn j = if j = 0 then s 0 + 1 else if j = 10 + 5 * (s 0).toNatClampNeg + 4 then 0 else if j = 10 + 5 * (s 0).toNatClampNeg + 3 then cn else if j = 10 + 5 * (s 0).toNatClampNeg + 2 then ph else if j = 10 + 5 * (s 0).toNatClampNeg + 1 then bt else if j = 10 + 5 * (s 0).toNatClampNeg then kd else s j := by
  unfold f_X6_comes
  rw [its_ix0 h0 hl, its_ix h0 hl (w := 1) (by decide) (by decide), its_ix h0 hl (w := 2) (by decide) (by decide), its_ix h0 hl (w := 3) (by decide) (by decide), its_ix h0 hl (w := 4) (by decide) (by decide), show (1 : Int32).toNatClampNeg = 1 from rfl, show (2 : Int32).toNatClampNeg = 2 from rfl, show (3 : Int32).toNatClampNeg = 3 from rfl, show (4 : Int32).toNatClampNeg = 4 from rfl]
  generalize (s 0).toNatClampNeg = c
  by_cases e0 : j = 0
  · rw [if_pos e0, e0, pk_us, pk_un (by omega), pk_un (by omega), pk_un (by omega), pk_un (by omega), pk_un (by omega)]
  rw [if_neg e0, pk_un e0]
  by_cases e4 : j = 10 + 5 * c + 4
  · rw [if_pos e4, e4, pk_us]
  rw [if_neg e4, pk_un e4]
  by_cases e3 : j = 10 + 5 * c + 3
  · rw [if_pos e3, e3, pk_us]
  rw [if_neg e3, pk_un e3]
  by_cases e2 : j = 10 + 5 * c + 2
  · rw [if_pos e2, e2, pk_us]
  rw [if_neg e2, pk_un e2]
  by_cases e1 : j = 10 + 5 * c + 1
  · rw [if_pos e1, e1, pk_us]
  rw [if_neg e1, pk_un e1]
  by_cases e5 : j = 10 + 5 * c
  · rw [if_pos e5, e5, pk_us]
  rw [if_neg e5, pk_un e5]
theorem ok_comes {s : Nat → Int32} {kd bt ph cn : Int32} (h : okS s) (hl : (s 0).toInt < 8) (hb : ¬ bt = 0) : okS (f_X6_comes s kd bt ph cn) := by
  have e := comes_at (kd := kd) (bt := bt) (ph := ph) (cn := cn) h.1 hl
  have e0 : f_X6_comes s kd bt ph cn 0 = s 0 + 1 := by rw [e 0, if_pos rfl]
  have e1 := i32_add1 (i := s 0) (by omega)
  have ec : ((s 0).toNatClampNeg : Int) = (s 0).toInt := by show (((s 0).toInt.toNat : Nat) : Int) = _; have := h.1; omega
  refine ⟨by rw [e0, e1]; have := h.1; omega, by rw [e0, e1]; omega, fun k hk => ?_⟩
  rw [e0, e1] at hk
  rw [e, if_neg (by omega), if_neg (by omega), if_neg (by omega), if_neg (by omega)]
  by_cases q : 10 + 5 * k + 1 = 10 + 5 * (s 0).toNatClampNeg + 1
  · rw [if_pos q]; exact hb
  · rw [if_neg q, if_neg (by omega)]; exact h.2.2 k (by omega)

-- X6_personHere
def f_X6_personHere (ss : Nat → Int32) (mtp : Nat → Int32) (mtn : Int32) (mtk : Int32) (mfr : Int32) (mtt : Int32) (mvl : Int32) (miw : Int32) (x1 : Int32) : (Nat → Int32) × Int32 × Int32 × Int32 × Int32 × Int32 := pr1 (if (8 ≤ (ss 0)) then (0 : Int32) else (1 : Int32)) (fun j21_0 => pr5 (f_X6_needs mtp mtn mtk mfr mtt mvl miw j21_0) (fun mtk_2 mfr_2 mtt_2 mvl_2 miw_2 => pr1 (if (mtk_2 = 1) then (if ((mtt_2 - mfr_2) = 2) then (if ((f_X6_byteAt mtp mtn mfr_2) = 97) then (if ((f_X6_byteAt mtp mtn (mfr_2 + 1)) = 116) then (1 : Int32) else (0 : Int32)) else (0 : Int32)) else (0 : Int32)) else (0 : Int32)) (fun j38_0 => pr5 (f_X6_needs mtp mtn mtk_2 mfr_2 mtt_2 mvl_2 miw_2 j38_0) (fun mtk_9 mfr_9 mtt_9 mvl_9 miw_9 => pr1 (if (miw_9 = 0) then (pr1 (f_X6_comes ss x1 (5 : Int32) (0 : Int32) (0 : Int32)) (fun ss_11 => ss_11)) else ss) (fun j94_0 => pr1 (if (miw_9 = 0) then (((10 : Int32) + ((5 : Int32) * (ss 0))) + 3) else (0 : Int32)) (fun j110_0 => pr6 (f_X6_numberTo j94_0 mtp mtn mtk_9 mfr_9 mtt_9 mvl_9 miw_9 j110_0 (0 : Int32) (11 : Int32)) (fun ss_13 mtk_13 mfr_13 mtt_13 mvl_13 miw_13 => pr6 (f_X6_perhaps ss_13 mtp mtn mtk_13 mfr_13 mtt_13 mvl_13 miw_13 (f_X6_isFour mtp mtn mtk_13 mfr_13 mtt_13 (98 : Int32) (101 : Int32) (97 : Int32) (116 : Int32)) (((10 : Int32) + ((5 : Int32) * (ss 0))) + 1) (1 : Int32) (9 : Int32)) (fun ss_15 mtk_15 mfr_15 mtt_15 mvl_15 miw_15 => pr6 (f_X6_perhaps ss_15 mtp mtn mtk_15 mfr_15 mtt_15 mvl_15 miw_15 (f_X6_isFive mtp mtn mtk_15 mfr_15 mtt_15 (112 : Int32) (104 : Int32) (97 : Int32) (115 : Int32) (101 : Int32)) (((10 : Int32) + ((5 : Int32) * (ss 0))) + 2) (0 : Int32) (8 : Int32)) (fun ss_17 mtk_17 mfr_17 mtt_17 mvl_17 miw_17 => (ss_17, mtk_17, mfr_17, mtt_17, mvl_17, miw_17))))))))))
theorem kX6_personHere_f7 : Cond.fieldLink RX6 7 "TwoMinutesModel" "s" "[I" ∈ wsX6_personHere := by decide +kernel
theorem kX6_personHere_f84 : Cond.fieldLink RX6 84 "TwoMinutesModel" "token" "I" ∈ wsX6_personHere := by decide +kernel
theorem kX6_personHere_f67 : Cond.fieldLink RX6 67 "TwoMinutesModel" "to" "I" ∈ wsX6_personHere := by decide +kernel
theorem kX6_personHere_f70 : Cond.fieldLink RX6 70 "TwoMinutesModel" "from" "I" ∈ wsX6_personHere := by decide +kernel
theorem kX6_personHere_f90 : Cond.fieldLink RX6 90 "TwoMinutesModel" "isWrong" "Z" ∈ wsX6_personHere := by decide +kernel
theorem qd_X6_personHere : yX6_personHere.cls = RX6 ∧ yX6_personHere.cls ≠ "java/lang/invoke/MethodHandle" ∧ yX6_personHere.cls ≠ "java/lang/invoke/VarHandle" ∧ (parseMethodDescriptor yX6_personHere.desc).map (fun d => d.parameters.length) = some 1 := by decide +kernel
abbrev rmX6_personHere : Room := { frames := 5, cells := 0, slots := 0, locals := 111 }
set_option maxHeartbeats 4000000 in
set_option maxRecDepth 100000 in
theorem c_X6_personHere (τ : SX) (a : Nat → Nat) (ss : Nat → Int32) (mhd : Nat → Int32) (mas : Nat → Int32) (mbf : Nat → Int32) (mih : Int32) (mtp : Nat → Int32) (mtn : Int32) (mtk : Int32) (mfr : Int32) (mtt : Int32) (mvl : Int32) (miw : Int32) (mld : Nat → Int32) (mrw : Nat → Int32) (mrn : Int32) (mso : Nat → Int32) (msz : Nat → Int32) (mnu : Nat → Int32) (mhw : Nat → Int32) (mhh : Nat → Int32) (mhm : Nat → Int32) (mbo : Nat → Int32) (mrr : Int32) (mak : Int32) (man : Int32) (maa : Int32) (mip : Int32) (x1 : Int32) (hn : TN mtn) (hx : TX mtk mfr mtt) (hok : okS ss) (sz : Nat) : McV τ yX6_personHere wsX6_personHere rmX6_personHere [.ref (a 0), .int x1] (wM τ a ss mhd mas mbf mih mtp mtn mtk mfr mtt mvl miw mld mrw mrn mso msz mnu mhw mhh mhm mbo mrr mak man maa mip) (fun u : (Nat → Int32) × Int32 × Int32 × Int32 × Int32 × Int32 => (wM τ a u.1 mhd mas mbf mih mtp mtn u.2.1 u.2.2.1 u.2.2.2.1 u.2.2.2.2.1 u.2.2.2.2.2 mld mrw mrn mso msz mnu mhw mhh mhm mbo mrr mak man maa mip)) (f_X6_personHere ss mtp mtn mtk mfr mtt mvl miw x1) 0 0 sz := by
  refine mc_V (cc := cX6_personHere) (own := RX6) [(0, .ref (a 0)), (1, .int x1)] rfl (by decide) rfl rfl (Nat.le_of_ble_eq_true rfl) (fun κ C _ hR => ?_)
  have hiX6 : ∀ w ∈ wsX60, w ∈ wsX6_personHere := fun w h => List.mem_cons_of_mem _ (List.mem_append_right _ h)
  unfold f_X6_personHere at hR
  refine j_bipush (v := 10) C dX6_personHere_0 2 rfl (by decide) ?_
  refine j_iconst (v := 5) C dX6_personHere_2 3 rfl (by decide) ?_
  refine j_aload_n C dX6_personHere_3 4 rfl rfl 0 rfl ?_
  refine j_get C dX6_personHere_4 7 rfl hiX6 0 rfl rfl 0 (by decide) rfl kX6_personHere_f7 rfl ?_
  refine j_iconst (v := 0) C dX6_personHere_7 8 rfl (by decide) ?_
  refine j_iald C dX6_personHere_8 9 rfl 1 rfl (by unfold vp_in; decide) 0 rfl ?_
  refine j_imul C dX6_personHere_9 10 rfl ?_
  refine j_iadd C dX6_personHere_10 11 rfl ?_
  refine j_istore_n C dX6_personHere_11 12 rfl rfl (by decide) [(2, .int ((10 : Int32) + ((5 : Int32) * (ss 0)))), (0, .ref (a 0)), (1, .int x1)] rfl ?_
  refine j_aload_n C dX6_personHere_12 13 rfl rfl 1 rfl ?_
  refine j_aload_n C dX6_personHere_13 14 rfl rfl 1 rfl ?_
  refine j_get C dX6_personHere_14 17 rfl hiX6 0 rfl rfl 0 (by decide) rfl kX6_personHere_f7 rfl ?_
  refine j_iconst (v := 0) C dX6_personHere_17 18 rfl (by decide) ?_
  refine j_iald C dX6_personHere_18 19 rfl 1 rfl (by unfold vp_in; decide) 0 rfl ?_
  refine j_bipush (v := 8) C dX6_personHere_19 21 rfl (by decide) ?_
  have J21 : ∀ (j21_0 : Int32), (¬ j21_0 = 0 → (ss 0).toInt < 8) → RtV τ κ cX6_personHere 0 0 (fun u : (Nat → Int32) × Int32 × Int32 × Int32 × Int32 × Int32 => (wM τ a u.1 mhd mas mbf mih mtp mtn u.2.1 u.2.2.1 u.2.2.2.1 u.2.2.2.2.1 u.2.2.2.2.2 mld mrw mrn mso msz mnu mhw mhh mhm mbo mrr mak man maa mip)) (pr5 (f_X6_needs mtp mtn mtk mfr mtt mvl miw j21_0) (fun mtk_2 mfr_2 mtt_2 mvl_2 miw_2 => pr1 (if (mtk_2 = 1) then (if ((mtt_2 - mfr_2) = 2) then (if ((f_X6_byteAt mtp mtn mfr_2) = 97) then (if ((f_X6_byteAt mtp mtn (mfr_2 + 1)) = 116) then (1 : Int32) else (0 : Int32)) else (0 : Int32)) else (0 : Int32)) else (0 : Int32)) (fun j38_0 => pr5 (f_X6_needs mtp mtn mtk_2 mfr_2 mtt_2 mvl_2 miw_2 j38_0) (fun mtk_9 mfr_9 mtt_9 mvl_9 miw_9 => pr1 (if (miw_9 = 0) then (pr1 (f_X6_comes ss x1 (5 : Int32) (0 : Int32) (0 : Int32)) (fun ss_11 => ss_11)) else ss) (fun j94_0 => pr1 (if (miw_9 = 0) then (((10 : Int32) + ((5 : Int32) * (ss 0))) + 3) else (0 : Int32)) (fun j110_0 => pr6 (f_X6_numberTo j94_0 mtp mtn mtk_9 mfr_9 mtt_9 mvl_9 miw_9 j110_0 (0 : Int32) (11 : Int32)) (fun ss_13 mtk_13 mfr_13 mtt_13 mvl_13 miw_13 => pr6 (f_X6_perhaps ss_13 mtp mtn mtk_13 mfr_13 mtt_13 mvl_13 miw_13 (f_X6_isFour mtp mtn mtk_13 mfr_13 mtt_13 (98 : Int32) (101 : Int32) (97 : Int32) (116 : Int32)) (((10 : Int32) + ((5 : Int32) * (ss 0))) + 1) (1 : Int32) (9 : Int32)) (fun ss_15 mtk_15 mfr_15 mtt_15 mvl_15 miw_15 => pr6 (f_X6_perhaps ss_15 mtp mtn mtk_15 mfr_15 mtt_15 mvl_15 miw_15 (f_X6_isFive mtp mtn mtk_15 mfr_15 mtt_15 (112 : Int32) (104 : Int32) (97 : Int32) (115 : Int32) (101 : Int32)) (((10 : Int32) + ((5 : Int32) * (ss 0))) + 2) (0 : Int32) (8 : Int32)) (fun ss_17 mtk_17 mfr_17 mtt_17 mvl_17 miw_17 => (ss_17, mtk_17, mfr_17, mtt_17, mvl_17, miw_17)))))))))) → J τ κ 0 0 (wM τ a ss mhd mas mbf mih mtp mtn mtk mfr mtt mvl miw mld mrw mrn mso msz mnu mhw mhh mhm mbo mrr mak man maa mip) [(0, .ref (a 0)), (1, .int x1), (2, .int ((10 : Int32) + ((5 : Int32) * (ss 0))))] 29 [.int j21_0, .ref (a 0)] := by
    intro j21_0 hl hR
    refine j_cv0V (na := 1) C dX6_personHere_29 32 rfl (c_X6_needs τ a ss mhd mas mbf mih mtp mtn mtk mfr mtt mvl miw mld mrw mrn mso msz mnu mhw mhh mhm mbo mrr mak man maa mip j21_0 (by first | assumption | exact TN0 | (unfold vp_in; decide) | decide) (by first | assumption | exact TN0 | (unfold vp_in; decide) | decide)) gX6_personHere_X6_needs rfl rfl rfl qd_X6_needs rfl ⟨by decide, by decide⟩ ⟨by decide, by decide⟩ rfl (Nat.le_of_ble_eq_true rfl) rfl 6 0 rfl rfl (fun u2 hX2 => ?_)
    obtain ⟨mtk_2, mfr_2, mtt_2, mvl_2, miw_2⟩ := u2
    rw [hX2] at hR; rw [pr5_mk mtk_2 mfr_2 mtt_2 mvl_2 miw_2] at hR
    obtain ⟨hx2, hle2, hw2⟩ := needs_TX hn (by assumption) hX2
    refine j_aload_n C dX6_personHere_32 33 rfl rfl 0 rfl ?_
    refine j_aload_n C dX6_personHere_33 34 rfl rfl 0 rfl ?_
    refine j_get C dX6_personHere_34 37 rfl hiX6 0 rfl rfl 7 (by decide) rfl kX6_personHere_f84 rfl ?_
    refine j_iconst (v := 1) C dX6_personHere_37 38 rfl (by decide) ?_
    have J38 : ∀ (j38_0 : Int32), RtV τ κ cX6_personHere 0 0 (fun u : (Nat → Int32) × Int32 × Int32 × Int32 × Int32 × Int32 => (wM τ a u.1 mhd mas mbf mih mtp mtn u.2.1 u.2.2.1 u.2.2.2.1 u.2.2.2.2.1 u.2.2.2.2.2 mld mrw mrn mso msz mnu mhw mhh mhm mbo mrr mak man maa mip)) (pr5 (f_X6_needs mtp mtn mtk_2 mfr_2 mtt_2 mvl_2 miw_2 j38_0) (fun mtk_9 mfr_9 mtt_9 mvl_9 miw_9 => pr1 (if (miw_9 = 0) then (pr1 (f_X6_comes ss x1 (5 : Int32) (0 : Int32) (0 : Int32)) (fun ss_11 => ss_11)) else ss) (fun j94_0 => pr1 (if (miw_9 = 0) then (((10 : Int32) + ((5 : Int32) * (ss 0))) + 3) else (0 : Int32)) (fun j110_0 => pr6 (f_X6_numberTo j94_0 mtp mtn mtk_9 mfr_9 mtt_9 mvl_9 miw_9 j110_0 (0 : Int32) (11 : Int32)) (fun ss_13 mtk_13 mfr_13 mtt_13 mvl_13 miw_13 => pr6 (f_X6_perhaps ss_13 mtp mtn mtk_13 mfr_13 mtt_13 mvl_13 miw_13 (f_X6_isFour mtp mtn mtk_13 mfr_13 mtt_13 (98 : Int32) (101 : Int32) (97 : Int32) (116 : Int32)) (((10 : Int32) + ((5 : Int32) * (ss 0))) + 1) (1 : Int32) (9 : Int32)) (fun ss_15 mtk_15 mfr_15 mtt_15 mvl_15 miw_15 => pr6 (f_X6_perhaps ss_15 mtp mtn mtk_15 mfr_15 mtt_15 mvl_15 miw_15 (f_X6_isFive mtp mtn mtk_15 mfr_15 mtt_15 (112 : Int32) (104 : Int32) (97 : Int32) (115 : Int32) (101 : Int32)) (((10 : Int32) + ((5 : Int32) * (ss 0))) + 2) (0 : Int32) (8 : Int32)) (fun ss_17 mtk_17 mfr_17 mtt_17 mvl_17 miw_17 => (ss_17, mtk_17, mfr_17, mtt_17, mvl_17, miw_17)))))))) → J τ κ 0 0 (wM τ a ss mhd mas mbf mih mtp mtn mtk_2 mfr_2 mtt_2 mvl_2 miw_2 mld mrw mrn mso msz mnu mhw mhh mhm mbo mrr mak man maa mip) [(0, .ref (a 0)), (1, .int x1), (2, .int ((10 : Int32) + ((5 : Int32) * (ss 0))))] 87 [.int j38_0, .ref (a 0)] := by
      intro j38_0  hR
      refine j_cv0V (na := 1) C dX6_personHere_87 90 rfl (c_X6_needs τ a ss mhd mas mbf mih mtp mtn mtk_2 mfr_2 mtt_2 mvl_2 miw_2 mld mrw mrn mso msz mnu mhw mhh mhm mbo mrr mak man maa mip j38_0 (by first | assumption | exact TN0 | (unfold vp_in; decide) | decide) (by first | assumption | exact TN0 | (unfold vp_in; decide) | decide)) gX6_personHere_X6_needs rfl rfl rfl qd_X6_needs rfl ⟨by decide, by decide⟩ ⟨by decide, by decide⟩ rfl (Nat.le_of_ble_eq_true rfl) rfl 6 0 rfl rfl (fun u9 hX9 => ?_)
      obtain ⟨mtk_9, mfr_9, mtt_9, mvl_9, miw_9⟩ := u9
      rw [hX9] at hR; rw [pr5_mk mtk_9 mfr_9 mtt_9 mvl_9 miw_9] at hR
      obtain ⟨hx9, hle9, hw9⟩ := needs_TX hn (by assumption) hX9
      refine j_aload_n C dX6_personHere_90 91 rfl rfl 0 rfl ?_
      refine j_get C dX6_personHere_91 94 rfl hiX6 0 rfl rfl 11 (by decide) rfl kX6_personHere_f90 rfl ?_
      have J94 : ∀ (j94_0 : Nat → Int32), (okS j94_0) → RtV τ κ cX6_personHere 0 0 (fun u : (Nat → Int32) × Int32 × Int32 × Int32 × Int32 × Int32 => (wM τ a u.1 mhd mas mbf mih mtp mtn u.2.1 u.2.2.1 u.2.2.2.1 u.2.2.2.2.1 u.2.2.2.2.2 mld mrw mrn mso msz mnu mhw mhh mhm mbo mrr mak man maa mip)) (pr1 (if (miw_9 = 0) then (((10 : Int32) + ((5 : Int32) * (ss 0))) + 3) else (0 : Int32)) (fun j110_0 => pr6 (f_X6_numberTo j94_0 mtp mtn mtk_9 mfr_9 mtt_9 mvl_9 miw_9 j110_0 (0 : Int32) (11 : Int32)) (fun ss_13 mtk_13 mfr_13 mtt_13 mvl_13 miw_13 => pr6 (f_X6_perhaps ss_13 mtp mtn mtk_13 mfr_13 mtt_13 mvl_13 miw_13 (f_X6_isFour mtp mtn mtk_13 mfr_13 mtt_13 (98 : Int32) (101 : Int32) (97 : Int32) (116 : Int32)) (((10 : Int32) + ((5 : Int32) * (ss 0))) + 1) (1 : Int32) (9 : Int32)) (fun ss_15 mtk_15 mfr_15 mtt_15 mvl_15 miw_15 => pr6 (f_X6_perhaps ss_15 mtp mtn mtk_15 mfr_15 mtt_15 mvl_15 miw_15 (f_X6_isFive mtp mtn mtk_15 mfr_15 mtt_15 (112 : Int32) (104 : Int32) (97 : Int32) (115 : Int32) (101 : Int32)) (((10 : Int32) + ((5 : Int32) * (ss 0))) + 2) (0 : Int32) (8 : Int32)) (fun ss_17 mtk_17 mfr_17 mtt_17 mvl_17 miw_17 => (ss_17, mtk_17, mfr_17, mtt_17, mvl_17, miw_17)))))) → J τ κ 0 0 (wM τ a j94_0 mhd mas mbf mih mtp mtn mtk_9 mfr_9 mtt_9 mvl_9 miw_9 mld mrw mrn mso msz mnu mhw mhh mhm mbo mrr mak man maa mip) [(0, .ref (a 0)), (1, .int x1), (2, .int ((10 : Int32) + ((5 : Int32) * (ss 0))))] 105 [] := by
        intro j94_0 hokj hR
        refine j_aload_n C dX6_personHere_105 106 rfl rfl 0 rfl ?_
        refine j_aload_n C dX6_personHere_106 107 rfl rfl 0 rfl ?_
        refine j_get C dX6_personHere_107 110 rfl hiX6 0 rfl rfl 11 (by decide) rfl kX6_personHere_f90 rfl ?_
        have J110 : ∀ (j110_0 : Int32), (miw_9 = 0 → vp_in j110_0 50) → RtV τ κ cX6_personHere 0 0 (fun u : (Nat → Int32) × Int32 × Int32 × Int32 × Int32 × Int32 => (wM τ a u.1 mhd mas mbf mih mtp mtn u.2.1 u.2.2.1 u.2.2.2.1 u.2.2.2.2.1 u.2.2.2.2.2 mld mrw mrn mso msz mnu mhw mhh mhm mbo mrr mak man maa mip)) (pr6 (f_X6_numberTo j94_0 mtp mtn mtk_9 mfr_9 mtt_9 mvl_9 miw_9 j110_0 (0 : Int32) (11 : Int32)) (fun ss_13 mtk_13 mfr_13 mtt_13 mvl_13 miw_13 => pr6 (f_X6_perhaps ss_13 mtp mtn mtk_13 mfr_13 mtt_13 mvl_13 miw_13 (f_X6_isFour mtp mtn mtk_13 mfr_13 mtt_13 (98 : Int32) (101 : Int32) (97 : Int32) (116 : Int32)) (((10 : Int32) + ((5 : Int32) * (ss 0))) + 1) (1 : Int32) (9 : Int32)) (fun ss_15 mtk_15 mfr_15 mtt_15 mvl_15 miw_15 => pr6 (f_X6_perhaps ss_15 mtp mtn mtk_15 mfr_15 mtt_15 mvl_15 miw_15 (f_X6_isFive mtp mtn mtk_15 mfr_15 mtt_15 (112 : Int32) (104 : Int32) (97 : Int32) (115 : Int32) (101 : Int32)) (((10 : Int32) + ((5 : Int32) * (ss 0))) + 2) (0 : Int32) (8 : Int32)) (fun ss_17 mtk_17 mfr_17 mtt_17 mvl_17 miw_17 => (ss_17, mtk_17, mfr_17, mtt_17, mvl_17, miw_17))))) → J τ κ 0 0 (wM τ a j94_0 mhd mas mbf mih mtp mtn mtk_9 mfr_9 mtt_9 mvl_9 miw_9 mld mrw mrn mso msz mnu mhw mhh mhm mbo mrr mak man maa mip) [(0, .ref (a 0)), (1, .int x1), (2, .int ((10 : Int32) + ((5 : Int32) * (ss 0))))] 120 [.int j110_0, .ref (a 0)] := by
          intro j110_0 hat hR
          refine j_iconst (v := 0) C dX6_personHere_120 121 rfl (by decide) ?_
          refine j_bipush (v := 11) C dX6_personHere_121 123 rfl (by decide) ?_
          refine j_cv0V (na := 3) C dX6_personHere_123 126 rfl (c_X6_numberTo τ a j94_0 mhd mas mbf mih mtp mtn mtk_9 mfr_9 mtt_9 mvl_9 miw_9 mld mrw mrn mso msz mnu mhw mhh mhm mbo mrr mak man maa mip j110_0 (0 : Int32) (11 : Int32) hn hx9 hat) gX6_personHere_X6_numberTo rfl rfl rfl qd_X6_numberTo rfl ⟨by decide, by decide⟩ ⟨by decide, by decide⟩ rfl (Nat.le_of_ble_eq_true rfl) rfl 6 0 rfl rfl (fun u13 hX13 => ?_)
          obtain ⟨ss_13, mtk_13, mfr_13, mtt_13, mvl_13, miw_13⟩ := u13
          rw [hX13] at hR; rw [pr6_mk ss_13 mtk_13 mfr_13 mtt_13 mvl_13 miw_13] at hR
          have hT13 := num_TX hn (by assumption) hX13
          have hx13 := hT13.1.1
          refine j_aload_n C dX6_personHere_126 127 rfl rfl 0 rfl ?_
          refine j_aload_n C dX6_personHere_127 128 rfl rfl 0 rfl ?_
          refine j_bipush (v := 98) C dX6_personHere_128 130 rfl (by decide) ?_
          refine j_bipush (v := 101) C dX6_personHere_130 132 rfl (by decide) ?_
          refine j_bipush (v := 97) C dX6_personHere_132 134 rfl (by decide) ?_
          refine j_bipush (v := 116) C dX6_personHere_134 136 rfl (by decide) ?_
          refine j_cv0I (na := 4) C dX6_personHere_136 139 rfl (c_X6_isFour τ a ss_13 mhd mas mbf mih mtp mtn mtk_13 mfr_13 mtt_13 mvl_13 miw_13 mld mrw mrn mso msz mnu mhw mhh mhm mbo mrr mak man maa mip (98 : Int32) (101 : Int32) (97 : Int32) (116 : Int32) hn hx13.f hx13.t) gX6_personHere_X6_isFour rfl rfl rfl qd_X6_isFour rfl ⟨by decide, by decide⟩ ⟨by decide, by decide⟩ rfl (Nat.le_of_ble_eq_true rfl) rfl 6 0 rfl rfl (fun r14 u14 hX14 hn14 => ?_)
          obtain rfl := (Prod.mk.inj hX14).1
          refine j_iload_n C dX6_personHere_139 140 rfl rfl 2 rfl ?_
          refine j_iconst (v := 1) C dX6_personHere_140 141 rfl (by decide) ?_
          refine j_iadd C dX6_personHere_141 142 rfl ?_
          refine j_iconst (v := 1) C dX6_personHere_142 143 rfl (by decide) ?_
          refine j_bipush (v := 9) C dX6_personHere_143 145 rfl (by decide) ?_
          refine j_cv0V (na := 4) C dX6_personHere_145 148 rfl (c_X6_perhaps τ a ss_13 mhd mas mbf mih mtp mtn mtk_13 mfr_13 mtt_13 mvl_13 miw_13 mld mrw mrn mso msz mnu mhw mhh mhm mbo mrr mak man maa mip (f_X6_isFour mtp mtn mtk_13 mfr_13 mtt_13 (98 : Int32) (101 : Int32) (97 : Int32) (116 : Int32)) (((10 : Int32) + ((5 : Int32) * (ss 0))) + 1) (1 : Int32) (9 : Int32) hn hx13 (fun q => its_in (o := ss 0) (w := 1) (n_in hok ((fun (q : miw_9 = 0) => hl (hw2 (hw9 q).1).2.1) ((hT13.1.2.2 q).1))) (by decide))) gX6_personHere_X6_perhaps rfl rfl rfl qd_X6_perhaps rfl ⟨by decide, by decide⟩ ⟨by decide, by decide⟩ rfl (Nat.le_of_ble_eq_true rfl) rfl 6 0 rfl rfl (fun u15 hX15 => ?_)
          obtain ⟨ss_15, mtk_15, mfr_15, mtt_15, mvl_15, miw_15⟩ := u15
          rw [hX15] at hR; rw [pr6_mk ss_15 mtk_15 mfr_15 mtt_15 mvl_15 miw_15] at hR
          have hT15 := perh_TX hn (by assumption) hX15
          have hx15 := hT15.1.1
          refine j_aload_n C dX6_personHere_148 149 rfl rfl 0 rfl ?_
          refine j_aload_n C dX6_personHere_149 150 rfl rfl 0 rfl ?_
          refine j_bipush (v := 112) C dX6_personHere_150 152 rfl (by decide) ?_
          refine j_bipush (v := 104) C dX6_personHere_152 154 rfl (by decide) ?_
          refine j_bipush (v := 97) C dX6_personHere_154 156 rfl (by decide) ?_
          refine j_bipush (v := 115) C dX6_personHere_156 158 rfl (by decide) ?_
          refine j_bipush (v := 101) C dX6_personHere_158 160 rfl (by decide) ?_
          refine j_cv0I (na := 5) C dX6_personHere_160 163 rfl (c_X6_isFive τ a ss_15 mhd mas mbf mih mtp mtn mtk_15 mfr_15 mtt_15 mvl_15 miw_15 mld mrw mrn mso msz mnu mhw mhh mhm mbo mrr mak man maa mip (112 : Int32) (104 : Int32) (97 : Int32) (115 : Int32) (101 : Int32) hn hx15.f hx15.t) gX6_personHere_X6_isFive rfl rfl rfl qd_X6_isFive rfl ⟨by decide, by decide⟩ ⟨by decide, by decide⟩ rfl (Nat.le_of_ble_eq_true rfl) rfl 6 0 rfl rfl (fun r16 u16 hX16 hn16 => ?_)
          obtain rfl := (Prod.mk.inj hX16).1
          refine j_iload_n C dX6_personHere_163 164 rfl rfl 2 rfl ?_
          refine j_iconst (v := 2) C dX6_personHere_164 165 rfl (by decide) ?_
          refine j_iadd C dX6_personHere_165 166 rfl ?_
          refine j_iconst (v := 0) C dX6_personHere_166 167 rfl (by decide) ?_
          refine j_bipush (v := 8) C dX6_personHere_167 169 rfl (by decide) ?_
          refine j_cv0V (na := 4) C dX6_personHere_169 172 rfl (c_X6_perhaps τ a ss_15 mhd mas mbf mih mtp mtn mtk_15 mfr_15 mtt_15 mvl_15 miw_15 mld mrw mrn mso msz mnu mhw mhh mhm mbo mrr mak man maa mip (f_X6_isFive mtp mtn mtk_15 mfr_15 mtt_15 (112 : Int32) (104 : Int32) (97 : Int32) (115 : Int32) (101 : Int32)) (((10 : Int32) + ((5 : Int32) * (ss 0))) + 2) (0 : Int32) (8 : Int32) hn hx15 (fun q => its_in (o := ss 0) (w := 2) (n_in hok ((fun (q : miw_9 = 0) => hl (hw2 (hw9 q).1).2.1) ((hT13.1.2.2 (hT15.1.2.2 q)).1))) (by decide))) gX6_personHere_X6_perhaps rfl rfl rfl qd_X6_perhaps rfl ⟨by decide, by decide⟩ ⟨by decide, by decide⟩ rfl (Nat.le_of_ble_eq_true rfl) rfl 6 0 rfl rfl (fun u17 hX17 => ?_)
          obtain ⟨ss_17, mtk_17, mfr_17, mtt_17, mvl_17, miw_17⟩ := u17
          rw [hX17] at hR; rw [pr6_mk ss_17 mtk_17 mfr_17 mtt_17 mvl_17 miw_17] at hR
          have hT17 := perh_TX hn (by assumption) hX17
          have hx17 := hT17.1.1
          exact hR _ _ dX6_personHere_172
        refine j_if_eq C dX6_personHere_110 117 rfl 113 rfl (fun c12 => ?_) (fun c12 => ?_)
        · rw [if_pos c12] at hR
          refine j_iload_n C dX6_personHere_117 118 rfl rfl 2 rfl ?_
          refine j_iconst (v := 3) C dX6_personHere_118 119 rfl (by decide) ?_
          refine j_iadd C dX6_personHere_119 120 rfl ?_
          rw [pr1_mk (((10 : Int32) + ((5 : Int32) * (ss 0))) + 3)] at hR
          exact j_lv [0, 1, 2] [(0, .ref (a 0)), (1, .int x1), (2, .int ((10 : Int32) + ((5 : Int32) * (ss 0))))] rfl (J110 _ (by first | exact fun q => absurd q (by assumption) | exact fun q => its_in (o := ss 0) (w := 3) (n_in hok ((fun (q : miw_9 = 0) => hl (hw2 (hw9 q).1).2.1) (q))) (by decide)) hR)
        · rw [if_neg c12] at hR
          refine j_iconst (v := 0) C dX6_personHere_113 114 rfl (by decide) ?_
          refine j_goto C dX6_personHere_114 120 rfl ?_
          rw [pr1_mk (0 : Int32)] at hR
          exact j_lv [0, 1, 2] [(0, .ref (a 0)), (1, .int x1), (2, .int ((10 : Int32) + ((5 : Int32) * (ss 0))))] rfl (J110 _ (by first | exact fun q => absurd q (by assumption) | exact fun q => its_in (o := ss 0) (w := 3) (n_in hok ((fun (q : miw_9 = 0) => hl (hw2 (hw9 q).1).2.1) (q))) (by decide)) hR)
      refine j_if_ne C dX6_personHere_94 105 rfl 97 rfl (fun c10 => ?_) (fun c10 => ?_)
      · rw [if_neg c10] at hR
        rw [pr1_mk ss] at hR
        exact j_lv [0, 1, 2] [(0, .ref (a 0)), (1, .int x1), (2, .int ((10 : Int32) + ((5 : Int32) * (ss 0))))] rfl (J94 _ (by first | exact hok | (rw [← hX11]; exact ok_comes hok ((fun (q : miw_9 = 0) => hl (hw2 (hw9 q).1).2.1) (by assumption)) (by decide))) hR)
      · rw [if_pos c10] at hR
        refine j_aload_n C dX6_personHere_97 98 rfl rfl 0 rfl ?_
        refine j_iload_n C dX6_personHere_98 99 rfl rfl 1 rfl ?_
        refine j_iconst (v := 5) C dX6_personHere_99 100 rfl (by decide) ?_
        refine j_iconst (v := 0) C dX6_personHere_100 101 rfl (by decide) ?_
        refine j_iconst (v := 0) C dX6_personHere_101 102 rfl (by decide) ?_
        refine j_cv0V (na := 4) C dX6_personHere_102 105 rfl (c_X6_comes τ a ss mhd mas mbf mih mtp mtn mtk_9 mfr_9 mtt_9 mvl_9 miw_9 mld mrw mrn mso msz mnu mhw mhh mhm mbo mrr mak man maa mip x1 (5 : Int32) (0 : Int32) (0 : Int32) hok ((fun (q : miw_9 = 0) => hl (hw2 (hw9 q).1).2.1) c10)) gX6_personHere_X6_comes rfl rfl rfl qd_X6_comes rfl ⟨by decide, by decide⟩ ⟨by decide, by decide⟩ rfl (Nat.le_of_ble_eq_true rfl) rfl 6 0 rfl rfl (fun u11 hX11 => ?_)
        obtain ⟨ss_11, rfl⟩ : ∃ z, z = u11 := ⟨_, rfl⟩
        rw [hX11] at hR; rw [pr1_mk ss_11] at hR
        rw [pr1_mk ss_11] at hR
        exact j_lv [0, 1, 2] [(0, .ref (a 0)), (1, .int x1), (2, .int ((10 : Int32) + ((5 : Int32) * (ss 0))))] rfl (J94 _ (by first | exact hok | (rw [← hX11]; exact ok_comes hok ((fun (q : miw_9 = 0) => hl (hw2 (hw9 q).1).2.1) (by assumption)) (by decide))) hR)
    refine j_icmp_ne C dX6_personHere_38 86 rfl 41 rfl (fun c3 => ?_) (fun c3 => ?_)
    · rw [if_neg c3] at hR
      refine j_iconst (v := 0) C dX6_personHere_86 87 rfl (by decide) ?_
      rw [pr1_mk (0 : Int32)] at hR
      exact j_lv [0, 1, 2] [(0, .ref (a 0)), (1, .int x1), (2, .int ((10 : Int32) + ((5 : Int32) * (ss 0))))] rfl (J38 _  hR)
    · rw [if_pos c3] at hR
      refine j_aload_n C dX6_personHere_41 42 rfl rfl 0 rfl ?_
      refine j_get C dX6_personHere_42 45 rfl hiX6 0 rfl rfl 9 (by decide) rfl kX6_personHere_f67 rfl ?_
      refine j_aload_n C dX6_personHere_45 46 rfl rfl 0 rfl ?_
      refine j_get C dX6_personHere_46 49 rfl hiX6 0 rfl rfl 8 (by decide) rfl kX6_personHere_f70 rfl ?_
      refine j_isub C dX6_personHere_49 50 rfl ?_
      refine j_iconst (v := 2) C dX6_personHere_50 51 rfl (by decide) ?_
      refine j_icmp_ne C dX6_personHere_51 86 rfl 54 rfl (fun c4 => ?_) (fun c4 => ?_)
      · rw [if_neg c4] at hR
        refine j_iconst (v := 0) C dX6_personHere_86 87 rfl (by decide) ?_
        rw [pr1_mk (0 : Int32)] at hR
        exact j_lv [0, 1, 2] [(0, .ref (a 0)), (1, .int x1), (2, .int ((10 : Int32) + ((5 : Int32) * (ss 0))))] rfl (J38 _  hR)
      · rw [if_pos c4] at hR
        refine j_aload_n C dX6_personHere_54 55 rfl rfl 0 rfl ?_
        refine j_aload_n C dX6_personHere_55 56 rfl rfl 0 rfl ?_
        refine j_get C dX6_personHere_56 59 rfl hiX6 0 rfl rfl 8 (by decide) rfl kX6_personHere_f70 rfl ?_
        refine j_cv0I (na := 1) C dX6_personHere_59 62 rfl (c_X6_byteAt τ a ss mhd mas mbf mih mtp mtn mtk_2 mfr_2 mtt_2 mvl_2 miw_2 mld mrw mrn mso msz mnu mhw mhh mhm mbo mrr mak man maa mip mfr_2 hn hx2.1) gX6_personHere_X6_byteAt rfl rfl rfl qd_X6_byteAt rfl ⟨by decide, by decide⟩ ⟨by decide, by decide⟩ rfl (Nat.le_of_ble_eq_true rfl) rfl 6 0 rfl rfl (fun r5 u5 hX5 hn5 => ?_)
        obtain rfl := (Prod.mk.inj hX5).1
        refine j_bipush (v := 97) C dX6_personHere_62 64 rfl (by decide) ?_
        refine j_icmp_ne C dX6_personHere_64 86 rfl 67 rfl (fun c6 => ?_) (fun c6 => ?_)
        · rw [if_neg c6] at hR
          refine j_iconst (v := 0) C dX6_personHere_86 87 rfl (by decide) ?_
          rw [pr1_mk (0 : Int32)] at hR
          exact j_lv [0, 1, 2] [(0, .ref (a 0)), (1, .int x1), (2, .int ((10 : Int32) + ((5 : Int32) * (ss 0))))] rfl (J38 _  hR)
        · rw [if_pos c6] at hR
          refine j_aload_n C dX6_personHere_67 68 rfl rfl 0 rfl ?_
          refine j_aload_n C dX6_personHere_68 69 rfl rfl 0 rfl ?_
          refine j_get C dX6_personHere_69 72 rfl hiX6 0 rfl rfl 8 (by decide) rfl kX6_personHere_f70 rfl ?_
          refine j_iconst (v := 1) C dX6_personHere_72 73 rfl (by decide) ?_
          refine j_iadd C dX6_personHere_73 74 rfl ?_
          refine j_cv0I (na := 1) C dX6_personHere_74 77 rfl (c_X6_byteAt τ a ss mhd mas mbf mih mtp mtn mtk_2 mfr_2 mtt_2 mvl_2 miw_2 mld mrw mrn mso msz mnu mhw mhh mhm mbo mrr mak man maa mip (mfr_2 + 1) hn (ad_nn hx2.f (i := 1) (by decide) (by decide)).1) gX6_personHere_X6_byteAt rfl rfl rfl qd_X6_byteAt rfl ⟨by decide, by decide⟩ ⟨by decide, by decide⟩ rfl (Nat.le_of_ble_eq_true rfl) rfl 6 0 rfl rfl (fun r7 u7 hX7 hn7 => ?_)
          obtain rfl := (Prod.mk.inj hX7).1
          refine j_bipush (v := 116) C dX6_personHere_77 79 rfl (by decide) ?_
          refine j_icmp_ne C dX6_personHere_79 86 rfl 82 rfl (fun c8 => ?_) (fun c8 => ?_)
          · rw [if_neg c8] at hR
            refine j_iconst (v := 0) C dX6_personHere_86 87 rfl (by decide) ?_
            rw [pr1_mk (0 : Int32)] at hR
            exact j_lv [0, 1, 2] [(0, .ref (a 0)), (1, .int x1), (2, .int ((10 : Int32) + ((5 : Int32) * (ss 0))))] rfl (J38 _  hR)
          · rw [if_pos c8] at hR
            refine j_iconst (v := 1) C dX6_personHere_82 83 rfl (by decide) ?_
            refine j_goto C dX6_personHere_83 87 rfl ?_
            rw [pr1_mk (1 : Int32)] at hR
            exact j_lv [0, 1, 2] [(0, .ref (a 0)), (1, .int x1), (2, .int ((10 : Int32) + ((5 : Int32) * (ss 0))))] rfl (J38 _  hR)
  refine j_icmp_ge C dX6_personHere_21 28 rfl 24 rfl (fun c1 => ?_) (fun c1 => ?_)
  · rw [if_pos c1] at hR
    refine j_iconst (v := 0) C dX6_personHere_28 29 rfl (by decide) ?_
    rw [pr1_mk (0 : Int32)] at hR
    exact j_lv [1, 2, 0] [(0, .ref (a 0)), (1, .int x1), (2, .int ((10 : Int32) + ((5 : Int32) * (ss 0))))] rfl (J21 _ (by first | exact fun h => absurd rfl h | exact fun _ => per_lt (by assumption)) hR)
  · rw [if_neg c1] at hR
    refine j_iconst (v := 1) C dX6_personHere_24 25 rfl (by decide) ?_
    refine j_goto C dX6_personHere_25 29 rfl ?_
    rw [pr1_mk (1 : Int32)] at hR
    exact j_lv [1, 2, 0] [(0, .ref (a 0)), (1, .int x1), (2, .int ((10 : Int32) + ((5 : Int32) * (ss 0))))] rfl (J21 _ (by first | exact fun h => absurd rfl h | exact fun _ => per_lt (by assumption)) hR)

theorem person_TX {s s2 p : Nat → Int32} {n mtk mfr mtt mvl miw kd k f t v w : Int32} (hn : TN n) (hx : TX mtk mfr mtt) (hok : okS s) (e : f_X6_personHere s p n mtk mfr mtt mvl miw kd = (s2, k, f, t, v, w)) : (TX k f t ∧ mfr.toInt ≤ f.toInt ∧ (w = 0 → miw = 0 ∧ (¬ mtk = 0 → mfr.toInt < f.toInt))) ∧ okS s2 := by
  unfold f_X6_personHere at e
  generalize hj : (if 8 ≤ s 0 then (0 : Int32) else 1) = j at e
  rw [pr1_mk] at e
  have hl : ¬ j = 0 → (s 0).toInt < 8 := by
    intro q
    by_cases c : 8 ≤ s 0
    · rw [if_pos c] at hj; exact absurd hj.symm q
    · exact per_lt c
  rcases h1 : f_X6_needs p n mtk mfr mtt mvl miw j with ⟨k1, f1, t1, v1, w1⟩
  rw [h1, pr5_mk] at e
  obtain ⟨hx1, hle1, hw1⟩ := needs_TX hn hx h1
  generalize (if k1 = 1 then if t1 - f1 = 2 then if f_X6_byteAt p n f1 = 97 then if f_X6_byteAt p n (f1 + 1) = 116 then (1 : Int32) else 0 else 0 else 0 else 0) = j2 at e
  rw [pr1_mk] at e
  rcases h2 : f_X6_needs p n k1 f1 t1 v1 w1 j2 with ⟨k2, f2, t2, v2, w2⟩
  rw [h2, pr5_mk] at e
  obtain ⟨hx2, hle2, hw2⟩ := needs_TX hn hx1 h2
  have h9 : w2 = 0 → (s 0).toInt < 8 := fun q => hl (hw1 (hw2 q).1).2.1
  have hj3 : okS (if w2 = 0 then pr1 (f_X6_comes s kd 5 0 0) (fun ss_11 => ss_11) else s) := by
    by_cases c : w2 = 0
    · rw [if_pos c, pr1_mk]; exact ok_comes hok (h9 c) (by decide)
    · rw [if_neg c]; exact hok
  generalize (if w2 = 0 then pr1 (f_X6_comes s kd 5 0 0) (fun ss_11 => ss_11) else s) = s3 at e hj3
  rw [pr1_mk, pr1_mk] at e
  rcases h3 : f_X6_numberTo s3 p n k2 f2 t2 v2 w2 (if w2 = 0 then 10 + 5 * s 0 + 3 else 0) 0 11 with ⟨s4, k4, f4, t4, v4, w4⟩
  rw [h3, pr6_mk] at e
  have hT4 := num_TX hn hx2 h3
  have ok4 : okS s4 := hT4.2 hj3 (fun q y _ => by rw [if_pos q]; exact okS_w (o := s 0) (w := 3) hj3 (n_in hok (h9 q)) (by decide) (by decide))
  rcases h5 : f_X6_perhaps s4 p n k4 f4 t4 v4 w4 (f_X6_isFour p n k4 f4 t4 98 101 97 116) (10 + 5 * s 0 + 1) 1 9 with ⟨s5, k5, f5, t5, v5, w5⟩
  rw [h5, pr6_mk] at e
  have hT5 := perh_TX hn hT4.1.1 h5
  have ok5 : okS s5 := hT5.2 ok4 (fun q y hy => okS_b (o := s 0) ok4 (n_in hok (h9 (hT4.1.2.2 q).1)) (nz1 hy))
  rcases h6 : f_X6_perhaps s5 p n k5 f5 t5 v5 w5 (f_X6_isFive p n k5 f5 t5 112 104 97 115 101) (10 + 5 * s 0 + 2) 0 8 with ⟨s6, k6, f6, t6, v6, w6⟩
  rw [h6, pr6_mk] at e
  have hT6 := perh_TX hn hT5.1.1 h6
  have ok6 : okS s6 := hT6.2 ok5 (fun q y hy => okS_w (o := s 0) (w := 2) ok5 (n_in hok (h9 (hT4.1.2.2 (hT5.1.2.2 q)).1)) (by decide) (by decide))
  simp only [Prod.mk.injEq] at e
  obtain ⟨rfl, rfl, rfl, rfl, rfl, rfl⟩ := e
  have a4 := hT4.1.2.1
  have a5 := hT5.1.2.1
  have a6 := hT6.1.2.1
  refine ⟨⟨hT6.1.1, by omega, fun q => ?_⟩, ok6⟩
  have b2 := hw2 (hT4.1.2.2 (hT5.1.2.2 (hT6.1.2.2 q))).1
  have b1 := hw1 b2.1
  exact ⟨b1.1, fun q2 => by have := b1.2.2 q2; omega⟩

theorem lawH {p : Nat → Int32} {n k f t : Int32} : f_X6_lawHere p n k f t = 6 ∨ f_X6_lawHere p n k f t = 7 ∨ f_X6_lawHere p n k f t = 8 ∨ f_X6_lawHere p n k f t = 9 ∨ f_X6_lawHere p n k f t = -1 := by
  unfold f_X6_lawHere
  repeat' split
  all_goals simp
theorem lawH_in {p : Nat → Int32} {n k f t : Int32} (c : ¬ f_X6_lawHere p n k f t < 0) : vp_in (f_X6_lawHere p n k f t) 50 := by
  rcases lawH (p := p) (n := n) (k := k) (f := f) (t := t) with h | h | h | h | h
  · rw [h]; unfold vp_in; decide
  · rw [h]; unfold vp_in; decide
  · rw [h]; unfold vp_in; decide
  · rw [h]; unfold vp_in; decide
  · rw [h] at c; exact absurd (by decide) c
theorem lawH_ok {s p : Nat → Int32} {n k f t : Int32} (ho : okS s) (c : ¬ f_X6_lawHere p n k f t < 0) (y : Int32) : okS (upd s (f_X6_lawHere p n k f t).toNatClampNeg y) := by
  rcases lawH (p := p) (n := n) (k := k) (f := f) (t := t) with h | h | h | h | h
  · rw [h]; exact okS_upd ho (by decide) (fun k _ => by rw [show (6 : Int32).toNatClampNeg = 6 from rfl]; omega)
  · rw [h]; exact okS_upd ho (by decide) (fun k _ => by rw [show (7 : Int32).toNatClampNeg = 7 from rfl]; omega)
  · rw [h]; exact okS_upd ho (by decide) (fun k _ => by rw [show (8 : Int32).toNatClampNeg = 8 from rfl]; omega)
  · rw [h]; exact okS_upd ho (by decide) (fun k _ => by rw [show (9 : Int32).toNatClampNeg = 9 from rfl]; omega)
  · rw [h] at c; exact absurd (by decide) c

-- X6_itemHere
def f_X6_itemHere (ss : Nat → Int32) (mtp : Nat → Int32) (mtn : Int32) (mtk : Int32) (mfr : Int32) (mtt : Int32) (mvl : Int32) (miw : Int32) : (Nat → Int32) × Int32 × Int32 × Int32 × Int32 × Int32 := pr6 (if ((f_X6_kindHere mtp mtn mtk mfr mtt) < 0) then (if ((f_X6_lawHere mtp mtn mtk mfr mtt) < 0) then (pr5 (f_X6_needs mtp mtn mtk mfr mtt mvl miw (0 : Int32)) (fun mtk_5 mfr_5 mtt_5 mvl_5 miw_5 => (ss, mtk_5, mfr_5, mtt_5, mvl_5, miw_5))) else (pr4 (f_X6_nextToken mtp mtn mtt) (fun mtk_6 mfr_6 mtt_6 mvl_6 => pr1 (if ((f_X6_lawHere mtp mtn mtk mfr mtt) = 6) then (1 : Int32) else (0 : Int32)) (fun j35_0 => pr1 (if ((f_X6_lawHere mtp mtn mtk mfr mtt) = 7) then (9 : Int32) else (99 : Int32)) (fun j46_0 => pr6 (f_X6_numberTo ss mtp mtn mtk_6 mfr_6 mtt_6 mvl_6 miw (f_X6_lawHere mtp mtn mtk mfr mtt) j35_0 j46_0) (fun ss_9 mtk_9 mfr_9 mtt_9 mvl_9 miw_9 => (ss_9, mtk_9, mfr_9, mtt_9, mvl_9, miw_9))))))) else (pr6 (f_X6_personHere ss mtp mtn mtk mfr mtt mvl miw (f_X6_kindHere mtp mtn mtk mfr mtt)) (fun ss_10 mtk_10 mfr_10 mtt_10 mvl_10 miw_10 => (ss_10, mtk_10, mfr_10, mtt_10, mvl_10, miw_10)))) (fun j11_0 j11_1 j11_2 j11_3 j11_4 j11_5 => pr1 (if (j11_1 = 3) then (if ((f_X6_byteAt mtp mtn j11_2) = 59) then (1 : Int32) else (0 : Int32)) else (0 : Int32)) (fun j73_0 => pr5 (f_X6_needs mtp mtn j11_1 j11_2 j11_3 j11_4 j11_5 j73_0) (fun mtk_14 mfr_14 mtt_14 mvl_14 miw_14 => (j11_0, mtk_14, mfr_14, mtt_14, mvl_14, miw_14))))
theorem kX6_itemHere_f84 : Cond.fieldLink RX6 84 "TwoMinutesModel" "token" "I" ∈ wsX6_itemHere := by decide +kernel
theorem kX6_itemHere_f70 : Cond.fieldLink RX6 70 "TwoMinutesModel" "from" "I" ∈ wsX6_itemHere := by decide +kernel
theorem qd_X6_itemHere : yX6_itemHere.cls = RX6 ∧ yX6_itemHere.cls ≠ "java/lang/invoke/MethodHandle" ∧ yX6_itemHere.cls ≠ "java/lang/invoke/VarHandle" ∧ (parseMethodDescriptor yX6_itemHere.desc).map (fun d => d.parameters.length) = some 0 := by decide +kernel
abbrev rmX6_itemHere : Room := { frames := 6, cells := 0, slots := 0, locals := 133 }
set_option maxHeartbeats 4000000 in
set_option maxRecDepth 100000 in
theorem c_X6_itemHere (τ : SX) (a : Nat → Nat) (ss : Nat → Int32) (mhd : Nat → Int32) (mas : Nat → Int32) (mbf : Nat → Int32) (mih : Int32) (mtp : Nat → Int32) (mtn : Int32) (mtk : Int32) (mfr : Int32) (mtt : Int32) (mvl : Int32) (miw : Int32) (mld : Nat → Int32) (mrw : Nat → Int32) (mrn : Int32) (mso : Nat → Int32) (msz : Nat → Int32) (mnu : Nat → Int32) (mhw : Nat → Int32) (mhh : Nat → Int32) (mhm : Nat → Int32) (mbo : Nat → Int32) (mrr : Int32) (mak : Int32) (man : Int32) (maa : Int32) (mip : Int32) (hn : TN mtn) (hx : TX mtk mfr mtt) (hok : okS ss) (sz : Nat) : McV τ yX6_itemHere wsX6_itemHere rmX6_itemHere [.ref (a 0)] (wM τ a ss mhd mas mbf mih mtp mtn mtk mfr mtt mvl miw mld mrw mrn mso msz mnu mhw mhh mhm mbo mrr mak man maa mip) (fun u : (Nat → Int32) × Int32 × Int32 × Int32 × Int32 × Int32 => (wM τ a u.1 mhd mas mbf mih mtp mtn u.2.1 u.2.2.1 u.2.2.2.1 u.2.2.2.2.1 u.2.2.2.2.2 mld mrw mrn mso msz mnu mhw mhh mhm mbo mrr mak man maa mip)) (f_X6_itemHere ss mtp mtn mtk mfr mtt mvl miw) 0 0 sz := by
  refine mc_V (cc := cX6_itemHere) (own := RX6) [(0, .ref (a 0))] rfl (by decide) rfl rfl (Nat.le_of_ble_eq_true rfl) (fun κ C _ hR => ?_)
  have hiX6 : ∀ w ∈ wsX60, w ∈ wsX6_itemHere := fun w h => List.mem_cons_of_mem _ (List.mem_append_right _ h)
  unfold f_X6_itemHere at hR
  refine j_aload_n C dX6_itemHere_0 1 rfl rfl 0 rfl ?_
  refine j_cv0I (na := 0) C dX6_itemHere_1 4 rfl (c_X6_kindHere τ a ss mhd mas mbf mih mtp mtn mtk mfr mtt mvl miw mld mrw mrn mso msz mnu mhw mhh mhm mbo mrr mak man maa mip hn hx.f hx.t) gX6_itemHere_X6_kindHere rfl rfl rfl qd_X6_kindHere rfl ⟨by decide, by decide⟩ ⟨by decide, by decide⟩ rfl (Nat.le_of_ble_eq_true rfl) rfl 6 0 rfl rfl (fun r1 u1 hX1 hn1 => ?_)
  obtain rfl := (Prod.mk.inj hX1).1
  refine j_istore_n C dX6_itemHere_4 5 rfl rfl (by decide) [(1, .int (f_X6_kindHere mtp mtn mtk mfr mtt)), (0, .ref (a 0))] rfl ?_
  refine j_aload_n C dX6_itemHere_5 6 rfl rfl 1 rfl ?_
  refine j_cv0I (na := 0) C dX6_itemHere_6 9 rfl (c_X6_lawHere τ a ss mhd mas mbf mih mtp mtn mtk mfr mtt mvl miw mld mrw mrn mso msz mnu mhw mhh mhm mbo mrr mak man maa mip hn hx.f hx.t) gX6_itemHere_X6_lawHere rfl rfl rfl qd_X6_lawHere rfl ⟨by decide, by decide⟩ ⟨by decide, by decide⟩ rfl (Nat.le_of_ble_eq_true rfl) rfl 6 0 rfl rfl (fun r2 u2 hX2 hn2 => ?_)
  obtain rfl := (Prod.mk.inj hX2).1
  refine j_istore_n C dX6_itemHere_9 10 rfl rfl (by decide) [(2, .int (f_X6_lawHere mtp mtn mtk mfr mtt)), (1, .int (f_X6_kindHere mtp mtn mtk mfr mtt)), (0, .ref (a 0))] rfl ?_
  refine j_iload_n C dX6_itemHere_10 11 rfl rfl 1 rfl ?_
  have J11 : ∀ (j11_0 : Nat → Int32) (j11_1 : Int32) (j11_2 : Int32) (j11_3 : Int32) (j11_4 : Int32) (j11_5 : Int32), (TX j11_1 j11_2 j11_3) → RtV τ κ cX6_itemHere 0 0 (fun u : (Nat → Int32) × Int32 × Int32 × Int32 × Int32 × Int32 => (wM τ a u.1 mhd mas mbf mih mtp mtn u.2.1 u.2.2.1 u.2.2.2.1 u.2.2.2.2.1 u.2.2.2.2.2 mld mrw mrn mso msz mnu mhw mhh mhm mbo mrr mak man maa mip)) (pr1 (if (j11_1 = 3) then (if ((f_X6_byteAt mtp mtn j11_2) = 59) then (1 : Int32) else (0 : Int32)) else (0 : Int32)) (fun j73_0 => pr5 (f_X6_needs mtp mtn j11_1 j11_2 j11_3 j11_4 j11_5 j73_0) (fun mtk_14 mfr_14 mtt_14 mvl_14 miw_14 => (j11_0, mtk_14, mfr_14, mtt_14, mvl_14, miw_14)))) → J τ κ 0 0 (wM τ a j11_0 mhd mas mbf mih mtp mtn j11_1 j11_2 j11_3 j11_4 j11_5 mld mrw mrn mso msz mnu mhw mhh mhm mbo mrr mak man maa mip) [(0, .ref (a 0)), (1, .int (f_X6_kindHere mtp mtn mtk mfr mtt)), (2, .int (f_X6_lawHere mtp mtn mtk mfr mtt))] 67 [] := by
    intro j11_0 j11_1 j11_2 j11_3 j11_4 j11_5 hxj hR
    refine j_aload_n C dX6_itemHere_67 68 rfl rfl 0 rfl ?_
    refine j_aload_n C dX6_itemHere_68 69 rfl rfl 0 rfl ?_
    refine j_get C dX6_itemHere_69 72 rfl hiX6 0 rfl rfl 7 (by decide) rfl kX6_itemHere_f84 rfl ?_
    refine j_iconst (v := 3) C dX6_itemHere_72 73 rfl (by decide) ?_
    have J73 : ∀ (j73_0 : Int32), RtV τ κ cX6_itemHere 0 0 (fun u : (Nat → Int32) × Int32 × Int32 × Int32 × Int32 × Int32 => (wM τ a u.1 mhd mas mbf mih mtp mtn u.2.1 u.2.2.1 u.2.2.2.1 u.2.2.2.2.1 u.2.2.2.2.2 mld mrw mrn mso msz mnu mhw mhh mhm mbo mrr mak man maa mip)) (pr5 (f_X6_needs mtp mtn j11_1 j11_2 j11_3 j11_4 j11_5 j73_0) (fun mtk_14 mfr_14 mtt_14 mvl_14 miw_14 => (j11_0, mtk_14, mfr_14, mtt_14, mvl_14, miw_14))) → J τ κ 0 0 (wM τ a j11_0 mhd mas mbf mih mtp mtn j11_1 j11_2 j11_3 j11_4 j11_5 mld mrw mrn mso msz mnu mhw mhh mhm mbo mrr mak man maa mip) [(0, .ref (a 0)), (1, .int (f_X6_kindHere mtp mtn mtk mfr mtt)), (2, .int (f_X6_lawHere mtp mtn mtk mfr mtt))] 94 [.int j73_0, .ref (a 0)] := by
      intro j73_0  hR
      refine j_cv0V (na := 1) C dX6_itemHere_94 97 rfl (c_X6_needs τ a j11_0 mhd mas mbf mih mtp mtn j11_1 j11_2 j11_3 j11_4 j11_5 mld mrw mrn mso msz mnu mhw mhh mhm mbo mrr mak man maa mip j73_0 hn hxj) gX6_itemHere_X6_needs rfl rfl rfl qd_X6_needs rfl ⟨by decide, by decide⟩ ⟨by decide, by decide⟩ rfl (Nat.le_of_ble_eq_true rfl) rfl 6 0 rfl rfl (fun u14 hX14 => ?_)
      obtain ⟨mtk_14, mfr_14, mtt_14, mvl_14, miw_14⟩ := u14
      rw [hX14] at hR; rw [pr5_mk mtk_14 mfr_14 mtt_14 mvl_14 miw_14] at hR
      obtain ⟨hx14, hle14, hw14⟩ := needs_TX hn (by assumption) hX14
      exact hR _ _ dX6_itemHere_97
    refine j_icmp_ne C dX6_itemHere_73 93 rfl 76 rfl (fun c11 => ?_) (fun c11 => ?_)
    · rw [if_neg c11] at hR
      refine j_iconst (v := 0) C dX6_itemHere_93 94 rfl (by decide) ?_
      rw [pr1_mk (0 : Int32)] at hR
      exact j_lv [0, 1, 2] [(0, .ref (a 0)), (1, .int (f_X6_kindHere mtp mtn mtk mfr mtt)), (2, .int (f_X6_lawHere mtp mtn mtk mfr mtt))] rfl (J73 _  hR)
    · rw [if_pos c11] at hR
      refine j_aload_n C dX6_itemHere_76 77 rfl rfl 0 rfl ?_
      refine j_aload_n C dX6_itemHere_77 78 rfl rfl 0 rfl ?_
      refine j_get C dX6_itemHere_78 81 rfl hiX6 0 rfl rfl 8 (by decide) rfl kX6_itemHere_f70 rfl ?_
      refine j_cv0I (na := 1) C dX6_itemHere_81 84 rfl (c_X6_byteAt τ a j11_0 mhd mas mbf mih mtp mtn j11_1 j11_2 j11_3 j11_4 j11_5 mld mrw mrn mso msz mnu mhw mhh mhm mbo mrr mak man maa mip j11_2 hn hxj.1) gX6_itemHere_X6_byteAt rfl rfl rfl qd_X6_byteAt rfl ⟨by decide, by decide⟩ ⟨by decide, by decide⟩ rfl (Nat.le_of_ble_eq_true rfl) rfl 6 0 rfl rfl (fun r12 u12 hX12 hn12 => ?_)
      obtain rfl := (Prod.mk.inj hX12).1
      refine j_bipush (v := 59) C dX6_itemHere_84 86 rfl (by decide) ?_
      refine j_icmp_ne C dX6_itemHere_86 93 rfl 89 rfl (fun c13 => ?_) (fun c13 => ?_)
      · rw [if_neg c13] at hR
        refine j_iconst (v := 0) C dX6_itemHere_93 94 rfl (by decide) ?_
        rw [pr1_mk (0 : Int32)] at hR
        exact j_lv [0, 1, 2] [(0, .ref (a 0)), (1, .int (f_X6_kindHere mtp mtn mtk mfr mtt)), (2, .int (f_X6_lawHere mtp mtn mtk mfr mtt))] rfl (J73 _  hR)
      · rw [if_pos c13] at hR
        refine j_iconst (v := 1) C dX6_itemHere_89 90 rfl (by decide) ?_
        refine j_goto C dX6_itemHere_90 94 rfl ?_
        rw [pr1_mk (1 : Int32)] at hR
        exact j_lv [0, 1, 2] [(0, .ref (a 0)), (1, .int (f_X6_kindHere mtp mtn mtk mfr mtt)), (2, .int (f_X6_lawHere mtp mtn mtk mfr mtt))] rfl (J73 _  hR)
  refine j_if_lt C dX6_itemHere_11 22 rfl 14 rfl (fun c3 => ?_) (fun c3 => ?_)
  · rw [if_pos c3] at hR
    refine j_iload_n C dX6_itemHere_22 23 rfl rfl 0 rfl ?_
    refine j_if_lt C dX6_itemHere_23 62 rfl 26 rfl (fun c4 => ?_) (fun c4 => ?_)
    · rw [if_pos c4] at hR
      refine j_aload_n C dX6_itemHere_62 63 rfl rfl 2 rfl ?_
      refine j_iconst (v := 0) C dX6_itemHere_63 64 rfl (by decide) ?_
      refine j_cv0V (na := 1) C dX6_itemHere_64 67 rfl (c_X6_needs τ a ss mhd mas mbf mih mtp mtn mtk mfr mtt mvl miw mld mrw mrn mso msz mnu mhw mhh mhm mbo mrr mak man maa mip (0 : Int32) hn hx) gX6_itemHere_X6_needs rfl rfl rfl qd_X6_needs rfl ⟨by decide, by decide⟩ ⟨by decide, by decide⟩ rfl (Nat.le_of_ble_eq_true rfl) rfl 6 0 rfl rfl (fun u5 hX5 => ?_)
      obtain ⟨mtk_5, mfr_5, mtt_5, mvl_5, miw_5⟩ := u5
      rw [hX5] at hR; rw [pr5_mk mtk_5 mfr_5 mtt_5 mvl_5 miw_5] at hR
      obtain ⟨hx5, hle5, hw5⟩ := needs_TX hn (by assumption) hX5
      rw [pr6_mk ss mtk_5 mfr_5 mtt_5 mvl_5 miw_5] at hR
      exact j_lv [2, 1, 0] [(0, .ref (a 0)), (1, .int (f_X6_kindHere mtp mtn mtk mfr mtt)), (2, .int (f_X6_lawHere mtp mtn mtk mfr mtt))] rfl (J11 _ _ _ _ _ _ (by assumption) hR)
    · rw [if_neg c4] at hR
      refine j_aload_n C dX6_itemHere_26 27 rfl rfl 2 rfl ?_
      refine j_cv0V (na := 0) C dX6_itemHere_27 30 rfl (c_X6_nextToken τ a ss mhd mas mbf mih mtp mtn mtk mfr mtt mvl miw mld mrw mrn mso msz mnu mhw mhh mhm mbo mrr mak man maa mip hn hx.t) gX6_itemHere_X6_nextToken rfl rfl rfl qd_X6_nextToken rfl ⟨by decide, by decide⟩ ⟨by decide, by decide⟩ rfl (Nat.le_of_ble_eq_true rfl) rfl 6 0 rfl rfl (fun u6 hX6 => ?_)
      obtain ⟨mtk_6, mfr_6, mtt_6, mvl_6⟩ := u6
      rw [hX6] at hR; rw [pr4_mk mtk_6 mfr_6 mtt_6 mvl_6] at hR
      obtain ⟨hx6, hle6⟩ := next_TX hn (by first | assumption | exact TX.t (by assumption) | exact TN0) hX6
      refine j_aload_n C dX6_itemHere_30 31 rfl rfl 2 rfl ?_
      refine j_iload_n C dX6_itemHere_31 32 rfl rfl 0 rfl ?_
      refine j_iload_n C dX6_itemHere_32 33 rfl rfl 0 rfl ?_
      refine j_bipush (v := 6) C dX6_itemHere_33 35 rfl (by decide) ?_
      have J35 : ∀ (j35_0 : Int32), RtV τ κ cX6_itemHere 0 0 (fun u : (Nat → Int32) × Int32 × Int32 × Int32 × Int32 × Int32 => (wM τ a u.1 mhd mas mbf mih mtp mtn u.2.1 u.2.2.1 u.2.2.2.1 u.2.2.2.2.1 u.2.2.2.2.2 mld mrw mrn mso msz mnu mhw mhh mhm mbo mrr mak man maa mip)) (pr6 (pr1 (if ((f_X6_lawHere mtp mtn mtk mfr mtt) = 7) then (9 : Int32) else (99 : Int32)) (fun j46_0 => pr6 (f_X6_numberTo ss mtp mtn mtk_6 mfr_6 mtt_6 mvl_6 miw (f_X6_lawHere mtp mtn mtk mfr mtt) j35_0 j46_0) (fun ss_9 mtk_9 mfr_9 mtt_9 mvl_9 miw_9 => (ss_9, mtk_9, mfr_9, mtt_9, mvl_9, miw_9)))) (fun j11_0 j11_1 j11_2 j11_3 j11_4 j11_5 => pr1 (if (j11_1 = 3) then (if ((f_X6_byteAt mtp mtn j11_2) = 59) then (1 : Int32) else (0 : Int32)) else (0 : Int32)) (fun j73_0 => pr5 (f_X6_needs mtp mtn j11_1 j11_2 j11_3 j11_4 j11_5 j73_0) (fun mtk_14 mfr_14 mtt_14 mvl_14 miw_14 => (j11_0, mtk_14, mfr_14, mtt_14, mvl_14, miw_14))))) → J τ κ 0 0 (wM τ a ss mhd mas mbf mih mtp mtn mtk_6 mfr_6 mtt_6 mvl_6 miw mld mrw mrn mso msz mnu mhw mhh mhm mbo mrr mak man maa mip) [(0, .ref (a 0)), (1, .int (f_X6_kindHere mtp mtn mtk mfr mtt)), (2, .int (f_X6_lawHere mtp mtn mtk mfr mtt))] 43 [.int j35_0, .int (f_X6_lawHere mtp mtn mtk mfr mtt), .ref (a 0)] := by
        intro j35_0  hR
        refine j_iload_n C dX6_itemHere_43 44 rfl rfl 2 rfl ?_
        refine j_bipush (v := 7) C dX6_itemHere_44 46 rfl (by decide) ?_
        have J46 : ∀ (j46_0 : Int32), RtV τ κ cX6_itemHere 0 0 (fun u : (Nat → Int32) × Int32 × Int32 × Int32 × Int32 × Int32 => (wM τ a u.1 mhd mas mbf mih mtp mtn u.2.1 u.2.2.1 u.2.2.2.1 u.2.2.2.2.1 u.2.2.2.2.2 mld mrw mrn mso msz mnu mhw mhh mhm mbo mrr mak man maa mip)) (pr6 (pr6 (f_X6_numberTo ss mtp mtn mtk_6 mfr_6 mtt_6 mvl_6 miw (f_X6_lawHere mtp mtn mtk mfr mtt) j35_0 j46_0) (fun ss_9 mtk_9 mfr_9 mtt_9 mvl_9 miw_9 => (ss_9, mtk_9, mfr_9, mtt_9, mvl_9, miw_9))) (fun j11_0 j11_1 j11_2 j11_3 j11_4 j11_5 => pr1 (if (j11_1 = 3) then (if ((f_X6_byteAt mtp mtn j11_2) = 59) then (1 : Int32) else (0 : Int32)) else (0 : Int32)) (fun j73_0 => pr5 (f_X6_needs mtp mtn j11_1 j11_2 j11_3 j11_4 j11_5 j73_0) (fun mtk_14 mfr_14 mtt_14 mvl_14 miw_14 => (j11_0, mtk_14, mfr_14, mtt_14, mvl_14, miw_14))))) → J τ κ 0 0 (wM τ a ss mhd mas mbf mih mtp mtn mtk_6 mfr_6 mtt_6 mvl_6 miw mld mrw mrn mso msz mnu mhw mhh mhm mbo mrr mak man maa mip) [(0, .ref (a 0)), (1, .int (f_X6_kindHere mtp mtn mtk mfr mtt)), (2, .int (f_X6_lawHere mtp mtn mtk mfr mtt))] 56 [.int j46_0, .int j35_0, .int (f_X6_lawHere mtp mtn mtk mfr mtt), .ref (a 0)] := by
          intro j46_0  hR
          refine j_cv0V (na := 3) C dX6_itemHere_56 59 rfl (c_X6_numberTo τ a ss mhd mas mbf mih mtp mtn mtk_6 mfr_6 mtt_6 mvl_6 miw mld mrw mrn mso msz mnu mhw mhh mhm mbo mrr mak man maa mip (f_X6_lawHere mtp mtn mtk mfr mtt) j35_0 j46_0 hn hx6 (fun _ => lawH_in c4)) gX6_itemHere_X6_numberTo rfl rfl rfl qd_X6_numberTo rfl ⟨by decide, by decide⟩ ⟨by decide, by decide⟩ rfl (Nat.le_of_ble_eq_true rfl) rfl 6 0 rfl rfl (fun u9 hX9 => ?_)
          obtain ⟨ss_9, mtk_9, mfr_9, mtt_9, mvl_9, miw_9⟩ := u9
          rw [hX9] at hR; rw [pr6_mk ss_9 mtk_9 mfr_9 mtt_9 mvl_9 miw_9] at hR
          have hT9 := num_TX hn (by assumption) hX9
          have hx9 := hT9.1.1
          refine j_goto C dX6_itemHere_59 67 rfl ?_
          rw [pr6_mk ss_9 mtk_9 mfr_9 mtt_9 mvl_9 miw_9] at hR
          exact j_lv [0, 1, 2] [(0, .ref (a 0)), (1, .int (f_X6_kindHere mtp mtn mtk mfr mtt)), (2, .int (f_X6_lawHere mtp mtn mtk mfr mtt))] rfl (J11 _ _ _ _ _ _ (by assumption) hR)
        refine j_icmp_ne C dX6_itemHere_46 54 rfl 49 rfl (fun c8 => ?_) (fun c8 => ?_)
        · rw [if_neg c8] at hR
          refine j_bipush (v := 99) C dX6_itemHere_54 56 rfl (by decide) ?_
          rw [pr1_mk (99 : Int32)] at hR
          exact j_lv [0, 1, 2] [(0, .ref (a 0)), (1, .int (f_X6_kindHere mtp mtn mtk mfr mtt)), (2, .int (f_X6_lawHere mtp mtn mtk mfr mtt))] rfl (J46 _  hR)
        · rw [if_pos c8] at hR
          refine j_bipush (v := 9) C dX6_itemHere_49 51 rfl (by decide) ?_
          refine j_goto C dX6_itemHere_51 56 rfl ?_
          rw [pr1_mk (9 : Int32)] at hR
          exact j_lv [0, 1, 2] [(0, .ref (a 0)), (1, .int (f_X6_kindHere mtp mtn mtk mfr mtt)), (2, .int (f_X6_lawHere mtp mtn mtk mfr mtt))] rfl (J46 _  hR)
      refine j_icmp_ne C dX6_itemHere_35 42 rfl 38 rfl (fun c7 => ?_) (fun c7 => ?_)
      · rw [if_neg c7] at hR
        refine j_iconst (v := 0) C dX6_itemHere_42 43 rfl (by decide) ?_
        rw [pr1_mk (0 : Int32)] at hR
        exact j_lv [2, 1, 0] [(0, .ref (a 0)), (1, .int (f_X6_kindHere mtp mtn mtk mfr mtt)), (2, .int (f_X6_lawHere mtp mtn mtk mfr mtt))] rfl (J35 _  hR)
      · rw [if_pos c7] at hR
        refine j_iconst (v := 1) C dX6_itemHere_38 39 rfl (by decide) ?_
        refine j_goto C dX6_itemHere_39 43 rfl ?_
        rw [pr1_mk (1 : Int32)] at hR
        exact j_lv [2, 1, 0] [(0, .ref (a 0)), (1, .int (f_X6_kindHere mtp mtn mtk mfr mtt)), (2, .int (f_X6_lawHere mtp mtn mtk mfr mtt))] rfl (J35 _  hR)
  · rw [if_neg c3] at hR
    refine j_aload_n C dX6_itemHere_14 15 rfl rfl 2 rfl ?_
    refine j_iload_n C dX6_itemHere_15 16 rfl rfl 1 rfl ?_
    refine j_cv0V (na := 1) C dX6_itemHere_16 19 rfl (c_X6_personHere τ a ss mhd mas mbf mih mtp mtn mtk mfr mtt mvl miw mld mrw mrn mso msz mnu mhw mhh mhm mbo mrr mak man maa mip (f_X6_kindHere mtp mtn mtk mfr mtt) hn hx hok) gX6_itemHere_X6_personHere rfl rfl rfl qd_X6_personHere rfl ⟨by decide, by decide⟩ ⟨by decide, by decide⟩ rfl (Nat.le_of_ble_eq_true rfl) rfl 6 0 rfl rfl (fun u10 hX10 => ?_)
    obtain ⟨ss_10, mtk_10, mfr_10, mtt_10, mvl_10, miw_10⟩ := u10
    rw [hX10] at hR; rw [pr6_mk ss_10 mtk_10 mfr_10 mtt_10 mvl_10 miw_10] at hR
    obtain ⟨⟨hx10, hle10, hw10⟩, hok10⟩ := person_TX hn (by assumption) (by assumption) hX10
    refine j_goto C dX6_itemHere_19 67 rfl ?_
    rw [pr6_mk ss_10 mtk_10 mfr_10 mtt_10 mvl_10 miw_10] at hR
    exact j_lv [2, 1, 0] [(0, .ref (a 0)), (1, .int (f_X6_kindHere mtp mtn mtk mfr mtt)), (2, .int (f_X6_lawHere mtp mtn mtk mfr mtt))] rfl (J11 _ _ _ _ _ _ (by assumption) hR)

theorem item_TX {s s2 p : Nat → Int32} {n mtk mfr mtt mvl miw k f t v w : Int32} (hn : TN n) (hx : TX mtk mfr mtt) (hok : okS s) (e : f_X6_itemHere s p n mtk mfr mtt mvl miw = (s2, k, f, t, v, w)) : (TX k f t ∧ (w = 0 → miw = 0 ∧ (¬ mtk = 0 → mfr.toInt < f.toInt))) ∧ okS s2 := by
  unfold f_X6_itemHere at e
  have fin : ∀ (s1 : Nat → Int32) (k1 f1 t1 v1 w1 j : Int32), TX k1 f1 t1 → mfr.toInt ≤ f1.toInt → okS s1 → (w1 = 0 → miw = 0 ∧ (¬ mtk = 0 → mfr.toInt < f1.toInt)) → (pr5 (f_X6_needs p n k1 f1 t1 v1 w1 j) fun a b c d e => (s1, a, b, c, d, e)) = (s2, k, f, t, v, w) → (TX k f t ∧ (w = 0 → miw = 0 ∧ (¬ mtk = 0 → mfr.toInt < f.toInt))) ∧ okS s2 := by
    intro s1 k1 f1 t1 v1 w1 j h1 hl ho hw e
    rcases h2 : f_X6_needs p n k1 f1 t1 v1 w1 j with ⟨k2, f2, t2, v2, w2⟩
    rw [h2, pr5_mk] at e
    obtain ⟨a1, a2, a3⟩ := needs_TX hn h1 h2
    simp only [Prod.mk.injEq] at e
    obtain ⟨rfl, rfl, rfl, rfl, rfl, rfl⟩ := e
    refine ⟨⟨a1, fun q => ?_⟩, ho⟩
    have b := hw (a3 q).1
    exact ⟨b.1, fun q2 => by have := b.2 q2; omega⟩
  by_cases c1 : f_X6_kindHere p n mtk mfr mtt < 0
  · rw [if_pos c1] at e
    by_cases c2 : f_X6_lawHere p n mtk mfr mtt < 0
    · rw [if_pos c2] at e
      rcases h1 : f_X6_needs p n mtk mfr mtt mvl miw 0 with ⟨k1, f1, t1, v1, w1⟩
      rw [h1, pr5_mk, pr6_mk, pr1_mk] at e
      obtain ⟨a1, a2, a3⟩ := needs_TX hn hx h1
      exact fin _ _ _ _ _ _ _ a1 a2 hok (fun q => ⟨(a3 q).1, (a3 q).2.2⟩) e
    · rw [if_neg c2] at e
      rcases h1 : f_X6_nextToken p n mtt with ⟨k1, f1, t1, v1⟩
      rw [h1, pr4_mk, pr1_mk, pr1_mk] at e
      obtain ⟨a1, a2⟩ := next_TX hn hx.t h1
      rcases h3 : f_X6_numberTo s p n k1 f1 t1 v1 miw (f_X6_lawHere p n mtk mfr mtt) (if f_X6_lawHere p n mtk mfr mtt = 6 then 1 else 0) (if f_X6_lawHere p n mtk mfr mtt = 7 then 9 else 99) with ⟨s4, k4, f4, t4, v4, w4⟩
      rw [h3, pr6_mk, pr6_mk, pr1_mk] at e
      have hT := num_TX hn a1 h3
      have h0 := hx.2.1
      have h4 := hT.1.2.1
      exact fin _ _ _ _ _ _ _ hT.1.1 (by omega) (hT.2 hok (fun _ y _ => lawH_ok hok c2 y)) (fun q => ⟨(hT.1.2.2 q).1, fun q2 => by have := (hT.1.2.2 q).2; omega⟩) e
  · rw [if_neg c1] at e
    rcases h1 : f_X6_personHere s p n mtk mfr mtt mvl miw (f_X6_kindHere p n mtk mfr mtt) with ⟨s1, k1, f1, t1, v1, w1⟩
    rw [h1, pr6_mk, pr6_mk, pr1_mk] at e
    obtain ⟨⟨a1, a2, a3⟩, a4⟩ := person_TX hn hx hok h1
    exact fin _ _ _ _ _ _ _ a1 a2 a4 a3 e

-- X6_begins
def l_X6_begins_9  : Nat → Int32 → (Nat → Int32) → Int32 × (Nat → Int32)
  | 0, x2, ss => (x2, ss)
  | N + 1, x2, ss => if (50 ≤ x2) then (x2, ss) else (l_X6_begins_9 N (x2 + 1) (upd ss (x2).toNatClampNeg 0))
def f_X6_begins (ss : Nat → Int32) : (Nat → Int32) := pr2 (l_X6_begins_9 300 (0 : Int32) ss) (fun x2_1 ss_1 => ((upd (upd (upd (upd (upd ss_1 2 (ss 2)) 6 12) 7 1) 8 6) 9 20)))
theorem kX6_begins_f7 : Cond.fieldLink RX6 7 "TwoMinutesModel" "s" "[I" ∈ wsX6_begins := by decide +kernel
theorem qd_X6_begins : yX6_begins.cls = RX6 ∧ yX6_begins.cls ≠ "java/lang/invoke/MethodHandle" ∧ yX6_begins.cls ≠ "java/lang/invoke/VarHandle" ∧ (parseMethodDescriptor yX6_begins.desc).map (fun d => d.parameters.length) = some 0 := by decide +kernel
abbrev rmX6_begins : Room := { frames := 0, cells := 0, slots := 0, locals := 0 }
set_option maxHeartbeats 4000000 in
set_option maxRecDepth 100000 in
theorem L_X6_begins_9 {τ : SX} {κ : KX} (C : Cx τ κ cX6_begins RX6 wsX6_begins rmX6_begins 3) (a : Nat → Nat) (mhd : Nat → Int32) (mas : Nat → Int32) (mbf : Nat → Int32) (mih : Int32) (mtp : Nat → Int32) (mtn : Int32) (mtk : Int32) (mfr : Int32) (mtt : Int32) (mvl : Int32) (miw : Int32) (mld : Nat → Int32) (mrw : Nat → Int32) (mrn : Int32) (mso : Nat → Int32) (msz : Nat → Int32) (mnu : Nat → Int32) (mhw : Nat → Int32) (mhh : Nat → Int32) (mhm : Nat → Int32) (mbo : Nat → Int32) (mrr : Int32) (mak : Int32) (man : Int32) (maa : Int32) (mip : Int32) (x1 : Int32) (Φ : Int32 × (Nat → Int32) → Prop) (hE : ∀ (x2 : Int32) (ss : Nat → Int32), Φ (x2, ss) → J τ κ 0 0 (wM τ a ss mhd mas mbf mih mtp mtn mtk mfr mtt mvl miw mld mrw mrn mso msz mnu mhw mhh mhm mbo mrr mak man maa mip) [(0, .ref (a 0)), (1, .int x1), (2, .int x2)] 28 []) : ∀ (N : Nat) (x2 : Int32) (ss : Nat → Int32), ((50 : Int) - x2.toInt).toNat < N → (0 ≤ x2.toInt) → (x2.toInt ≤ 50) → Φ (l_X6_begins_9 N x2 ss) → J τ κ 0 0 (wM τ a ss mhd mas mbf mih mtp mtn mtk mfr mtt mvl miw mld mrw mrn mso msz mnu mhw mhh mhm mbo mrr mak man maa mip) [(0, .ref (a 0)), (1, .int x1), (2, .int x2)] 9 [] := by
  have hiX6 : ∀ w ∈ wsX60, w ∈ wsX6_begins := fun w h => List.mem_cons_of_mem _ (List.mem_append_right _ h)
  intro N
  induction N with
  | zero => intro x2 ss hm; exact absurd hm (Nat.not_lt_zero _)
  | succ N ih =>
    intro x2 ss hm h0 h1 hR
    rw [l_X6_begins_9] at hR
    refine j_iload_n C dX6_begins_9 10 rfl rfl 2 rfl ?_
    refine j_bipush (v := 50) C dX6_begins_10 12 rfl (by decide) ?_
    refine j_icmp_ge C dX6_begins_12 28 rfl 15 rfl (fun c2 => ?_) (fun c2 => ?_)
    · rw [if_pos c2] at hR
      exact j_lv [0, 1, 2] [(0, .ref (a 0)), (1, .int x1), (2, .int x2)] rfl (hE _ _  hR)
    · rw [if_neg c2] at hR
      have hs := cnt_step (B := 50) h0 (by decide) (by decide) c2
      refine j_aload_n C dX6_begins_15 16 rfl rfl 0 rfl ?_
      refine j_get C dX6_begins_16 19 rfl hiX6 0 rfl rfl 0 (by decide) rfl kX6_begins_f7 rfl ?_
      refine j_iload_n C dX6_begins_19 20 rfl rfl 2 rfl ?_
      refine j_iconst (v := 0) C dX6_begins_20 21 rfl (by decide) ?_
      refine j_iast C dX6_begins_21 22 rfl 1 rfl (vpI h0 hs.2.2.2) (x2).toNatClampNeg rfl (wM τ a (upd ss (x2).toNatClampNeg 0) mhd mas mbf mih mtp mtn mtk mfr mtt mvl miw mld mrw mrn mso msz mnu mhw mhh mhm mbo mrr mak man maa mip) rfl ?_
      refine j_iinc (v := (x2 + 1)) C dX6_begins_22 25 rfl 2 rfl rfl (by decide) [(2, .int (x2 + 1)), (0, .ref (a 0)), (1, .int x1)] rfl ?_
      refine j_goto C dX6_begins_25 9 rfl ?_
      exact j_lv [1, 2, 0] [(0, .ref (a 0)), (1, .int x1), (2, .int (x2 + 1))] rfl (ih _ _ (by have := hs.2.2.1; omega) hs.1 hs.2.1 hR)
set_option maxHeartbeats 4000000 in
set_option maxRecDepth 100000 in
theorem c_X6_begins (τ : SX) (a : Nat → Nat) (ss : Nat → Int32) (mhd : Nat → Int32) (mas : Nat → Int32) (mbf : Nat → Int32) (mih : Int32) (mtp : Nat → Int32) (mtn : Int32) (mtk : Int32) (mfr : Int32) (mtt : Int32) (mvl : Int32) (miw : Int32) (mld : Nat → Int32) (mrw : Nat → Int32) (mrn : Int32) (mso : Nat → Int32) (msz : Nat → Int32) (mnu : Nat → Int32) (mhw : Nat → Int32) (mhh : Nat → Int32) (mhm : Nat → Int32) (mbo : Nat → Int32) (mrr : Int32) (mak : Int32) (man : Int32) (maa : Int32) (mip : Int32) (sz : Nat) : McV τ yX6_begins wsX6_begins rmX6_begins [.ref (a 0)] (wM τ a ss mhd mas mbf mih mtp mtn mtk mfr mtt mvl miw mld mrw mrn mso msz mnu mhw mhh mhm mbo mrr mak man maa mip) (fun u : (Nat → Int32) => (wM τ a u mhd mas mbf mih mtp mtn mtk mfr mtt mvl miw mld mrw mrn mso msz mnu mhw mhh mhm mbo mrr mak man maa mip)) (f_X6_begins ss) 0 0 sz := by
  refine mc_V (cc := cX6_begins) (own := RX6) [(0, .ref (a 0))] rfl (by decide) rfl rfl (Nat.le_of_ble_eq_true rfl) (fun κ C _ hR => ?_)
  have hiX6 : ∀ w ∈ wsX60, w ∈ wsX6_begins := fun w h => List.mem_cons_of_mem _ (List.mem_append_right _ h)
  unfold f_X6_begins at hR
  refine j_aload_n C dX6_begins_0 1 rfl rfl 0 rfl ?_
  refine j_get C dX6_begins_1 4 rfl hiX6 0 rfl rfl 0 (by decide) rfl kX6_begins_f7 rfl ?_
  refine j_iconst (v := 2) C dX6_begins_4 5 rfl (by decide) ?_
  refine j_iald C dX6_begins_5 6 rfl 1 rfl (by unfold vp_in; decide) 2 rfl ?_
  refine j_istore_n C dX6_begins_6 7 rfl rfl (by decide) [(1, .int (ss 2)), (0, .ref (a 0))] rfl ?_
  refine j_iconst (v := 0) C dX6_begins_7 8 rfl (by decide) ?_
  refine j_istore_n C dX6_begins_8 9 rfl rfl (by decide) [(2, .int 0), (1, .int (ss 2)), (0, .ref (a 0))] rfl ?_
  refine j_lv [2, 1, 0] [(0, .ref (a 0)), (1, .int (ss 2)), (2, .int 0)] rfl (L_X6_begins_9 C a mhd mas mbf mih mtp mtn mtk mfr mtt mvl miw mld mrw mrn mso msz mnu mhw mhh mhm mbo mrr mak man maa mip (ss 2)  (fun (o : Int32 × (Nat → Int32)) => RtV τ κ cX6_begins 0 0 (fun u : (Nat → Int32) => (wM τ a u mhd mas mbf mih mtp mtn mtk mfr mtt mvl miw mld mrw mrn mso msz mnu mhw mhh mhm mbo mrr mak man maa mip)) (pr2 o (fun x2_1 ss_1 => ((upd (upd (upd (upd (upd ss_1 2 (ss 2)) 6 12) 7 1) 8 6) 9 20))))) (fun x2_1 ss_1  hR => ?_) 300 (0 : Int32) ss (by decide) (by decide) (by decide) hR)
  rw [pr2_mk x2_1 ss_1] at hR
  refine j_aload_n C dX6_begins_28 29 rfl rfl 0 rfl ?_
  refine j_get C dX6_begins_29 32 rfl hiX6 0 rfl rfl 0 (by decide) rfl kX6_begins_f7 rfl ?_
  refine j_iconst (v := 2) C dX6_begins_32 33 rfl (by decide) ?_
  refine j_iload_n C dX6_begins_33 34 rfl rfl 1 rfl ?_
  refine j_iast C dX6_begins_34 35 rfl 1 rfl (by unfold vp_in; decide) 2 rfl (wM τ a (upd ss_1 2 (ss 2)) mhd mas mbf mih mtp mtn mtk mfr mtt mvl miw mld mrw mrn mso msz mnu mhw mhh mhm mbo mrr mak man maa mip) rfl ?_
  refine j_aload_n C dX6_begins_35 36 rfl rfl 0 rfl ?_
  refine j_get C dX6_begins_36 39 rfl hiX6 0 rfl rfl 0 (by decide) rfl kX6_begins_f7 rfl ?_
  refine j_bipush (v := 6) C dX6_begins_39 41 rfl (by decide) ?_
  refine j_bipush (v := 12) C dX6_begins_41 43 rfl (by decide) ?_
  refine j_iast C dX6_begins_43 44 rfl 1 rfl (by unfold vp_in; decide) 6 rfl (wM τ a (upd (upd ss_1 2 (ss 2)) 6 12) mhd mas mbf mih mtp mtn mtk mfr mtt mvl miw mld mrw mrn mso msz mnu mhw mhh mhm mbo mrr mak man maa mip) rfl ?_
  refine j_aload_n C dX6_begins_44 45 rfl rfl 0 rfl ?_
  refine j_get C dX6_begins_45 48 rfl hiX6 0 rfl rfl 0 (by decide) rfl kX6_begins_f7 rfl ?_
  refine j_bipush (v := 7) C dX6_begins_48 50 rfl (by decide) ?_
  refine j_iconst (v := 1) C dX6_begins_50 51 rfl (by decide) ?_
  refine j_iast C dX6_begins_51 52 rfl 1 rfl (by unfold vp_in; decide) 7 rfl (wM τ a (upd (upd (upd ss_1 2 (ss 2)) 6 12) 7 1) mhd mas mbf mih mtp mtn mtk mfr mtt mvl miw mld mrw mrn mso msz mnu mhw mhh mhm mbo mrr mak man maa mip) rfl ?_
  refine j_aload_n C dX6_begins_52 53 rfl rfl 0 rfl ?_
  refine j_get C dX6_begins_53 56 rfl hiX6 0 rfl rfl 0 (by decide) rfl kX6_begins_f7 rfl ?_
  refine j_bipush (v := 8) C dX6_begins_56 58 rfl (by decide) ?_
  refine j_bipush (v := 6) C dX6_begins_58 60 rfl (by decide) ?_
  refine j_iast C dX6_begins_60 61 rfl 1 rfl (by unfold vp_in; decide) 8 rfl (wM τ a (upd (upd (upd (upd ss_1 2 (ss 2)) 6 12) 7 1) 8 6) mhd mas mbf mih mtp mtn mtk mfr mtt mvl miw mld mrw mrn mso msz mnu mhw mhh mhm mbo mrr mak man maa mip) rfl ?_
  refine j_aload_n C dX6_begins_61 62 rfl rfl 0 rfl ?_
  refine j_get C dX6_begins_62 65 rfl hiX6 0 rfl rfl 0 (by decide) rfl kX6_begins_f7 rfl ?_
  refine j_bipush (v := 9) C dX6_begins_65 67 rfl (by decide) ?_
  refine j_bipush (v := 20) C dX6_begins_67 69 rfl (by decide) ?_
  refine j_iast C dX6_begins_69 70 rfl 1 rfl (by unfold vp_in; decide) 9 rfl (wM τ a (upd (upd (upd (upd (upd ss_1 2 (ss 2)) 6 12) 7 1) 8 6) 9 20) mhd mas mbf mih mtp mtn mtk mfr mtt mvl miw mld mrw mrn mso msz mnu mhw mhh mhm mbo mrr mak man maa mip) rfl ?_
  exact hR _ _ dX6_begins_70

theorem beginsL : ∀ (N : Nat) (x2 : Int32) (s : Nat → Int32), 0 ≤ x2.toInt → x2.toInt ≤ 50 → ((50 : Int) - x2.toInt).toNat < N → (∀ k : Nat, (k : Int) < x2.toInt → s k = 0) → ∀ k : Nat, k < 50 → (l_X6_begins_9 N x2 s).2 k = 0 := by
  intro N
  induction N with
  | zero => intro x2 s _ _ h; exact absurd h (Nat.not_lt_zero _)
  | succ N ih =>
    intro x2 s h0 h1 hm hq k hk
    rw [l_X6_begins_9]
    by_cases c : (50 : Int32) ≤ x2
    · rw [if_pos c]
      rw [i32_le, show (50 : Int32).toInt = 50 from rfl] at c
      exact hq k (by omega)
    · rw [if_neg c]
      have hs := cnt_step (B := 50) h0 (by decide) (by decide) c
      have e1 := i32_add1 (i := x2) (by omega)
      have ec : (x2.toNatClampNeg : Int) = x2.toInt := by show ((x2.toInt.toNat : Nat) : Int) = x2.toInt; omega
      refine ih _ _ hs.1 hs.2.1 (by omega) (fun j hj => ?_) k hk
      by_cases ej : j = x2.toNatClampNeg
      · rw [ej]; exact pk_us
      · rw [pk_un ej]; exact hq j (by omega)
theorem begins_at (s : Nat → Int32) (k : Nat) (hk : k < 50) : f_X6_begins s k = if k = 9 then 20 else if k = 8 then 6 else if k = 7 then 1 else if k = 6 then 12 else if k = 2 then s 2 else 0 := by
  unfold f_X6_begins
  have h := beginsL 300 0 s (by decide) (by decide) (by decide) (fun k hk => absurd hk (by rw [show (0 : Int32).toInt = 0 from rfl]; omega)) k hk
  generalize l_X6_begins_9 300 0 s = q at h
  obtain ⟨q1, q2⟩ := q
  rw [pr2_mk]
  by_cases e9 : k = 9
  · rw [if_pos e9, e9, pk_us]
  rw [if_neg e9, pk_un e9]
  by_cases e8 : k = 8
  · rw [if_pos e8, e8, pk_us]
  rw [if_neg e8, pk_un e8]
  by_cases e7 : k = 7
  · rw [if_pos e7, e7, pk_us]
  rw [if_neg e7, pk_un e7]
  by_cases e6 : k = 6
  · rw [if_pos e6, e6, pk_us]
  rw [if_neg e6, pk_un e6]
  by_cases e2 : k = 2
  · rw [if_pos e2, e2, pk_us]
  rw [if_neg e2, pk_un e2]
  exact h
theorem ok_begins {s : Nat → Int32} : okS (f_X6_begins s) := by
  have e : f_X6_begins s 0 = 0 := by rw [begins_at s 0 (by decide)]; rfl
  refine ⟨by rw [e]; decide, by rw [e]; decide, fun k hk => ?_⟩
  rw [e, show (0 : Int32).toInt = 0 from rfl] at hk
  omega
theorem town_fuel {k f t w : Int32} (h : TX k f t) : (if w = 0 then ((202 : Int) - f.toInt).toNat else 0) < 300 := by
  have := h.1
  split <;> omega
theorem town_dec {miw miw2 mfr mfr2 mtk : Int32} {N : Nat} (hm : (if miw = 0 then ((202 : Int) - mfr.toInt).toNat else 0) < N + 1) (c1 : miw = 0) (c2 : ¬ mtk = 0) (h : miw2 = 0 → miw = 0 ∧ (¬ mtk = 0 → mfr.toInt < mfr2.toInt)) {k t k2 t2 : Int32} (hx : TX k mfr t) (hx2 : TX k2 mfr2 t2) : (if miw2 = 0 then ((202 : Int) - mfr2.toInt).toNat else 0) < N := by
  rw [if_pos c1] at hm
  have := hx.f.2
  have := hx2.f.2
  by_cases c : miw2 = 0
  · rw [if_pos c]
    have := (h c).2 c2
    omega
  · rw [if_neg c]; omega

-- X6_town
def l_X6_town_29 (mtp : Nat → Int32) (mtn : Int32) : Nat → (Nat → Int32) → Int32 → Int32 → Int32 → Int32 → Int32 → (Nat → Int32) × Int32 × Int32 × Int32 × Int32 × Int32
  | 0, ss, mtk, mfr, mtt, mvl, miw => (ss, mtk, mfr, mtt, mvl, miw)
  | N + 1, ss, mtk, mfr, mtt, mvl, miw => if (miw = 0) then (if (mtk = 0) then (ss, mtk, mfr, mtt, mvl, miw) else (pr6 (f_X6_itemHere ss mtp mtn mtk mfr mtt mvl miw) (fun ss_7 mtk_7 mfr_7 mtt_7 mvl_7 miw_7 => l_X6_town_29 mtp mtn N ss_7 mtk_7 mfr_7 mtt_7 mvl_7 miw_7))) else (ss, mtk, mfr, mtt, mvl, miw)
def f_X6_town (ss : Nat → Int32) (mbf : Nat → Int32) (mtp : Nat → Int32) (mtn : Int32) (mrn : Int32) : Int32 × (Nat → Int32) × (Nat → Int32) × Int32 × Int32 × Int32 × Int32 × Int32 × Int32 × Int32 := pr1 (f_X6_copyRow__sb ss mbf) (fun mbf_1 => pr1 (f_X6_begins ss) (fun ss_2 => pr4 (f_X6_nextToken mtp mtn (0 : Int32)) (fun mtk_3 mfr_3 mtt_3 mvl_3 => pr6 (l_X6_town_29 mtp mtn 300 ss_2 mtk_3 mfr_3 mtt_3 mvl_3 (0 : Int32)) (fun ss_4 mtk_4 mfr_4 mtt_4 mvl_4 miw_4 => if (miw_4 = 0) then ((ss_4 0), ss_4, mbf_1, (0 : Int32), mtk_4, mfr_4, mtt_4, mvl_4, miw_4, (0 : Int32)) else (pr1 (f_X6_copyRow__bs ss_4 mbf_1) (fun ss_9 => ((((-100) : Int32) - mfr_4), ss_9, mbf_1, (0 : Int32), mtk_4, mfr_4, mtt_4, mvl_4, miw_4, mrn)))))))
theorem kX6_town_f7 : Cond.fieldLink RX6 7 "TwoMinutesModel" "s" "[I" ∈ wsX6_town := by decide +kernel
theorem kX6_town_f19 : Cond.fieldLink RX6 19 "TwoMinutesModel" "before" "[I" ∈ wsX6_town := by decide +kernel
theorem kX6_town_iRX6 : Cond.initialized yX6_copyRow.cls ∈ wsX6_town := by decide +kernel
theorem kX6_town_sX6_copyRow : Cond.static yX6_copyRow ∈ wsX6_town := by decide +kernel
theorem kX6_town_m138 : Cond.methodLink RX6 138 yX6_copyRow ∈ wsX6_town := by decide +kernel
theorem kX6_town_f67 : Cond.fieldLink RX6 67 "TwoMinutesModel" "to" "I" ∈ wsX6_town := by decide +kernel
theorem kX6_town_f90 : Cond.fieldLink RX6 90 "TwoMinutesModel" "isWrong" "Z" ∈ wsX6_town := by decide +kernel
theorem kX6_town_f84 : Cond.fieldLink RX6 84 "TwoMinutesModel" "token" "I" ∈ wsX6_town := by decide +kernel
theorem kX6_town_f61 : Cond.fieldLink RX6 61 "TwoMinutesModel" "taped" "I" ∈ wsX6_town := by decide +kernel
theorem kX6_town_f145 : Cond.fieldLink RX6 145 "TwoMinutesModel" "rowN" "I" ∈ wsX6_town := by decide +kernel
theorem kX6_town_f70 : Cond.fieldLink RX6 70 "TwoMinutesModel" "from" "I" ∈ wsX6_town := by decide +kernel
theorem qd_X6_town : yX6_town.cls = RX6 ∧ yX6_town.cls ≠ "java/lang/invoke/MethodHandle" ∧ yX6_town.cls ≠ "java/lang/invoke/VarHandle" ∧ (parseMethodDescriptor yX6_town.desc).map (fun d => d.parameters.length) = some 0 := by decide +kernel
abbrev rmX6_town : Room := { frames := 7, cells := 0, slots := 0, locals := 155 }
set_option maxHeartbeats 4000000 in
set_option maxRecDepth 100000 in
theorem L_X6_town_29 {τ : SX} {κ : KX} (C : Cx τ κ cX6_town RX6 wsX6_town rmX6_town 1) (a : Nat → Nat) (mhd : Nat → Int32) (mas : Nat → Int32) (mbf : Nat → Int32) (mih : Int32) (mtp : Nat → Int32) (mtn : Int32) (mld : Nat → Int32) (mrw : Nat → Int32) (mrn : Int32) (mso : Nat → Int32) (msz : Nat → Int32) (mnu : Nat → Int32) (mhw : Nat → Int32) (mhh : Nat → Int32) (mhm : Nat → Int32) (mbo : Nat → Int32) (mrr : Int32) (mak : Int32) (man : Int32) (maa : Int32) (mip : Int32) (hn : TN mtn) (Φ : (Nat → Int32) × Int32 × Int32 × Int32 × Int32 × Int32 → Prop) (hE : ∀ (ss : Nat → Int32) (mtk : Int32) (mfr : Int32) (mtt : Int32) (mvl : Int32) (miw : Int32), Φ (ss, mtk, mfr, mtt, mvl, miw) → J τ κ 0 0 (wM τ a ss mhd mas mbf mih mtp mtn mtk mfr mtt mvl miw mld mrw mrn mso msz mnu mhw mhh mhm mbo mrr mak man maa mip) [(0, .ref (a 0))] 50 []) : ∀ (N : Nat) (ss : Nat → Int32) (mtk : Int32) (mfr : Int32) (mtt : Int32) (mvl : Int32) (miw : Int32), (if miw = 0 then ((202 : Int) - mfr.toInt).toNat else 0) < N → (okS ss) → (TX mtk mfr mtt) → Φ (l_X6_town_29 mtp mtn N ss mtk mfr mtt mvl miw) → J τ κ 0 0 (wM τ a ss mhd mas mbf mih mtp mtn mtk mfr mtt mvl miw mld mrw mrn mso msz mnu mhw mhh mhm mbo mrr mak man maa mip) [(0, .ref (a 0))] 29 [] := by
  have hiX6 : ∀ w ∈ wsX60, w ∈ wsX6_town := fun w h => List.mem_cons_of_mem _ (List.mem_append_right _ h)
  intro N
  induction N with
  | zero => intro ss mtk mfr mtt mvl miw hm; exact absurd hm (Nat.not_lt_zero _)
  | succ N ih =>
    intro ss mtk mfr mtt mvl miw hm hok hx hR
    rw [l_X6_town_29] at hR
    refine j_aload_n C dX6_town_29 30 rfl rfl 0 rfl ?_
    refine j_get C dX6_town_30 33 rfl hiX6 0 rfl rfl 11 (by decide) rfl kX6_town_f90 rfl ?_
    refine j_if_ne C dX6_town_33 50 rfl 36 rfl (fun c5 => ?_) (fun c5 => ?_)
    · rw [if_neg c5] at hR
      exact j_lv [0] [(0, .ref (a 0))] rfl (hE _ _ _ _ _ _  hR)
    · rw [if_pos c5] at hR
      refine j_aload_n C dX6_town_36 37 rfl rfl 0 rfl ?_
      refine j_get C dX6_town_37 40 rfl hiX6 0 rfl rfl 7 (by decide) rfl kX6_town_f84 rfl ?_
      refine j_if_eq C dX6_town_40 50 rfl 43 rfl (fun c6 => ?_) (fun c6 => ?_)
      · rw [if_pos c6] at hR
        exact j_lv [0] [(0, .ref (a 0))] rfl (hE _ _ _ _ _ _  hR)
      · rw [if_neg c6] at hR
        refine j_aload_n C dX6_town_43 44 rfl rfl 0 rfl ?_
        refine j_cv0V (na := 0) C dX6_town_44 47 rfl (c_X6_itemHere τ a ss mhd mas mbf mih mtp mtn mtk mfr mtt mvl miw mld mrw mrn mso msz mnu mhw mhh mhm mbo mrr mak man maa mip (by first | assumption | exact TN0 | (unfold vp_in; decide) | decide) (by first | assumption | exact TN0 | (unfold vp_in; decide) | decide) (by first | assumption | exact TN0 | (unfold vp_in; decide) | decide)) gX6_town_X6_itemHere rfl rfl rfl qd_X6_itemHere rfl ⟨by decide, by decide⟩ ⟨by decide, by decide⟩ rfl (Nat.le_of_ble_eq_true rfl) rfl 6 0 rfl rfl (fun u7 hX7 => ?_)
        obtain ⟨ss_7, mtk_7, mfr_7, mtt_7, mvl_7, miw_7⟩ := u7
        rw [hX7] at hR; rw [pr6_mk ss_7 mtk_7 mfr_7 mtt_7 mvl_7 miw_7] at hR
        obtain ⟨⟨hx7, hw7⟩, hok7⟩ := item_TX hn (by assumption) (by assumption) hX7
        refine j_goto C dX6_town_47 29 rfl ?_
        exact j_lv [0] [(0, .ref (a 0))] rfl (ih _ _ _ _ _ _ (town_dec hm c5 c6 (by assumption) (by assumption) (by assumption)) (by assumption) (by assumption) hR)
set_option maxHeartbeats 4000000 in
set_option maxRecDepth 100000 in
theorem c_X6_town (τ : SX) (a : Nat → Nat) (ss : Nat → Int32) (mhd : Nat → Int32) (mas : Nat → Int32) (mbf : Nat → Int32) (mih : Int32) (mtp : Nat → Int32) (mtn : Int32) (mtk : Int32) (mfr : Int32) (mtt : Int32) (mvl : Int32) (miw : Int32) (mld : Nat → Int32) (mrw : Nat → Int32) (mrn : Int32) (mso : Nat → Int32) (msz : Nat → Int32) (mnu : Nat → Int32) (mhw : Nat → Int32) (mhh : Nat → Int32) (mhm : Nat → Int32) (mbo : Nat → Int32) (mrr : Int32) (mak : Int32) (man : Int32) (maa : Int32) (mip : Int32) (hn : TN mtn) (hok : okS ss) (sz : Nat) : McI τ yX6_town wsX6_town rmX6_town .int [.ref (a 0)] (wM τ a ss mhd mas mbf mih mtp mtn mtk mfr mtt mvl miw mld mrw mrn mso msz mnu mhw mhh mhm mbo mrr mak man maa mip) (fun u : (Nat → Int32) × (Nat → Int32) × Int32 × Int32 × Int32 × Int32 × Int32 × Int32 × Int32 => (wM τ a u.1 mhd mas u.2.1 mih mtp u.2.2.1 u.2.2.2.1 u.2.2.2.2.1 u.2.2.2.2.2.1 u.2.2.2.2.2.2.1 u.2.2.2.2.2.2.2.1 mld mrw u.2.2.2.2.2.2.2.2 mso msz mnu mhw mhh mhm mbo mrr mak man maa mip)) (f_X6_town ss mbf mtp mtn mrn) sz := by
  refine mc_I (cc := cX6_town) (own := RX6) [(0, .ref (a 0))] rfl (by decide) rfl rfl (Nat.le_of_ble_eq_true rfl) (fun κ C hR => ?_)
  have hiX6 : ∀ w ∈ wsX60, w ∈ wsX6_town := fun w h => List.mem_cons_of_mem _ (List.mem_append_right _ h)
  unfold f_X6_town at hR
  refine j_aload_n C dX6_town_0 1 rfl rfl 0 rfl ?_
  refine j_get C dX6_town_1 4 rfl hiX6 0 rfl rfl 0 (by decide) rfl kX6_town_f7 rfl ?_
  refine j_aload_n C dX6_town_4 5 rfl rfl 0 rfl ?_
  refine j_get C dX6_town_5 8 rfl hiX6 0 rfl rfl 3 (by decide) rfl kX6_town_f19 rfl ?_
  refine j_csWV (na := 2) C dX6_town_8 11 rfl (c_X6_copyRow__sb τ a ss mhd mas mbf mih mtp mtn mtk mfr mtt mvl miw mld mrw mrn mso msz mnu mhw mhh mhm mbo mrr mak man maa mip ) ggX6_town_X6_copyRow rfl rfl rfl kX6_town_iRX6 kX6_town_m138 kX6_town_sX6_copyRow qd_X6_copyRow__sb rfl ⟨by decide, by decide⟩ ⟨by decide, by decide⟩ rfl (Nat.le_of_ble_eq_true rfl) rfl (fun u1 hX1 => ?_)
  obtain ⟨mbf_1, rfl⟩ : ∃ z, z = u1 := ⟨_, rfl⟩
  rw [hX1] at hR; rw [pr1_mk mbf_1] at hR
  refine j_aload_n C dX6_town_11 12 rfl rfl 0 rfl ?_
  refine j_cv0V (na := 0) C dX6_town_12 15 rfl (c_X6_begins τ a ss mhd mas mbf_1 mih mtp mtn mtk mfr mtt mvl miw mld mrw mrn mso msz mnu mhw mhh mhm mbo mrr mak man maa mip ) gX6_town_X6_begins rfl rfl rfl qd_X6_begins rfl ⟨by decide, by decide⟩ ⟨by decide, by decide⟩ rfl (Nat.le_of_ble_eq_true rfl) rfl 6 0 rfl rfl (fun u2 hX2 => ?_)
  obtain ⟨ss_2, rfl⟩ : ∃ z, z = u2 := ⟨_, rfl⟩
  rw [hX2] at hR; rw [pr1_mk ss_2] at hR
  have hok2 : okS ss_2 := by rw [← hX2]; exact ok_begins
  refine j_aload_n C dX6_town_15 16 rfl rfl 0 rfl ?_
  refine j_iconst (v := 0) C dX6_town_16 17 rfl (by decide) ?_
  refine j_put C dX6_town_17 20 rfl hiX6 tyX6_ok nmX6 0 rfl rfl 9 (by decide) rfl kX6_town_f67 rfl rfl rfl (Nat.le_of_ble_eq_true rfl) (wM τ a ss_2 mhd mas mbf_1 mih mtp mtn mtk mfr 0 mvl miw mld mrw mrn mso msz mnu mhw mhh mhm mbo mrr mak man maa mip) rfl ?_
  refine j_aload_n C dX6_town_20 21 rfl rfl 0 rfl ?_
  refine j_iconst (v := 0) C dX6_town_21 22 rfl (by decide) ?_
  refine j_put C dX6_town_22 25 rfl hiX6 tyX6_ok nmX6 0 rfl rfl 11 (by decide) rfl kX6_town_f90 rfl rfl rfl (Nat.le_of_ble_eq_true rfl) (wM τ a ss_2 mhd mas mbf_1 mih mtp mtn mtk mfr 0 mvl 0 mld mrw mrn mso msz mnu mhw mhh mhm mbo mrr mak man maa mip) rfl ?_
  refine j_aload_n C dX6_town_25 26 rfl rfl 0 rfl ?_
  refine j_cv0V (na := 0) C dX6_town_26 29 rfl (c_X6_nextToken τ a ss_2 mhd mas mbf_1 mih mtp mtn mtk mfr 0 mvl 0 mld mrw mrn mso msz mnu mhw mhh mhm mbo mrr mak man maa mip (by first | assumption | exact TN0 | (unfold vp_in; decide) | decide) (by first | assumption | exact TN0 | (unfold vp_in; decide) | decide)) gX6_town_X6_nextToken rfl rfl rfl qd_X6_nextToken rfl ⟨by decide, by decide⟩ ⟨by decide, by decide⟩ rfl (Nat.le_of_ble_eq_true rfl) rfl 6 0 rfl rfl (fun u3 hX3 => ?_)
  obtain ⟨mtk_3, mfr_3, mtt_3, mvl_3⟩ := u3
  rw [hX3] at hR; rw [pr4_mk mtk_3 mfr_3 mtt_3 mvl_3] at hR
  obtain ⟨hx3, hle3⟩ := next_TX hn (by first | assumption | exact TX.t (by assumption) | exact TN0) hX3
  refine j_lv [0] [(0, .ref (a 0))] rfl (L_X6_town_29 C a mhd mas mbf_1 mih mtp mtn mld mrw mrn mso msz mnu mhw mhh mhm mbo mrr mak man maa mip  hn (fun (o : (Nat → Int32) × Int32 × Int32 × Int32 × Int32 × Int32) => Rt τ κ cX6_town .int (fun u : (Nat → Int32) × (Nat → Int32) × Int32 × Int32 × Int32 × Int32 × Int32 × Int32 × Int32 => (wM τ a u.1 mhd mas u.2.1 mih mtp u.2.2.1 u.2.2.2.1 u.2.2.2.2.1 u.2.2.2.2.2.1 u.2.2.2.2.2.2.1 u.2.2.2.2.2.2.2.1 mld mrw u.2.2.2.2.2.2.2.2 mso msz mnu mhw mhh mhm mbo mrr mak man maa mip)) (pr6 o (fun ss_4 mtk_4 mfr_4 mtt_4 mvl_4 miw_4 => if (miw_4 = 0) then ((ss_4 0), ss_4, mbf_1, (0 : Int32), mtk_4, mfr_4, mtt_4, mvl_4, miw_4, (0 : Int32)) else (pr1 (f_X6_copyRow__bs ss_4 mbf_1) (fun ss_9 => ((((-100) : Int32) - mfr_4), ss_9, mbf_1, (0 : Int32), mtk_4, mfr_4, mtt_4, mvl_4, miw_4, mrn)))))) (fun ss_4 mtk_4 mfr_4 mtt_4 mvl_4 miw_4  hR => ?_) 300 ss_2 mtk_3 mfr_3 mtt_3 mvl_3 (0 : Int32) (town_fuel (by assumption)) (by assumption) (by assumption) hR)
  rw [pr6_mk ss_4 mtk_4 mfr_4 mtt_4 mvl_4 miw_4] at hR
  refine j_aload_n C dX6_town_50 51 rfl rfl 0 rfl ?_
  refine j_iconst (v := 0) C dX6_town_51 52 rfl (by decide) ?_
  refine j_put C dX6_town_52 55 rfl hiX6 tyX6_ok nmX6 0 rfl rfl 6 (by decide) rfl kX6_town_f61 rfl rfl rfl (Nat.le_of_ble_eq_true rfl) (wM τ a ss_4 mhd mas mbf_1 mih mtp 0 mtk_4 mfr_4 mtt_4 mvl_4 miw_4 mld mrw mrn mso msz mnu mhw mhh mhm mbo mrr mak man maa mip) rfl ?_
  refine j_aload_n C dX6_town_55 56 rfl rfl 0 rfl ?_
  refine j_get C dX6_town_56 59 rfl hiX6 0 rfl rfl 11 (by decide) rfl kX6_town_f90 rfl ?_
  refine j_if_eq C dX6_town_59 81 rfl 62 rfl (fun c8 => ?_) (fun c8 => ?_)
  · rw [if_pos c8] at hR
    refine j_aload_n C dX6_town_81 82 rfl rfl 0 rfl ?_
    refine j_iconst (v := 0) C dX6_town_82 83 rfl (by decide) ?_
    refine j_put C dX6_town_83 86 rfl hiX6 tyX6_ok nmX6 0 rfl rfl 14 (by decide) rfl kX6_town_f145 rfl rfl rfl (Nat.le_of_ble_eq_true rfl) (wM τ a ss_4 mhd mas mbf_1 mih mtp 0 mtk_4 mfr_4 mtt_4 mvl_4 miw_4 mld mrw 0 mso msz mnu mhw mhh mhm mbo mrr mak man maa mip) rfl ?_
    refine j_aload_n C dX6_town_86 87 rfl rfl 0 rfl ?_
    refine j_get C dX6_town_87 90 rfl hiX6 0 rfl rfl 0 (by decide) rfl kX6_town_f7 rfl ?_
    refine j_iconst (v := 0) C dX6_town_90 91 rfl (by decide) ?_
    refine j_iald C dX6_town_91 92 rfl 1 rfl (by unfold vp_in; decide) 0 rfl ?_
    exact Rt.ret (hR) rfl dX6_town_92
  · rw [if_neg c8] at hR
    refine j_aload_n C dX6_town_62 63 rfl rfl 0 rfl ?_
    refine j_get C dX6_town_63 66 rfl hiX6 0 rfl rfl 3 (by decide) rfl kX6_town_f19 rfl ?_
    refine j_aload_n C dX6_town_66 67 rfl rfl 0 rfl ?_
    refine j_get C dX6_town_67 70 rfl hiX6 0 rfl rfl 0 (by decide) rfl kX6_town_f7 rfl ?_
    refine j_csWV (na := 2) C dX6_town_70 73 rfl (c_X6_copyRow__bs τ a ss_4 mhd mas mbf_1 mih mtp 0 mtk_4 mfr_4 mtt_4 mvl_4 miw_4 mld mrw mrn mso msz mnu mhw mhh mhm mbo mrr mak man maa mip ) ggX6_town_X6_copyRow rfl rfl rfl kX6_town_iRX6 kX6_town_m138 kX6_town_sX6_copyRow qd_X6_copyRow__bs rfl ⟨by decide, by decide⟩ ⟨by decide, by decide⟩ rfl (Nat.le_of_ble_eq_true rfl) rfl (fun u9 hX9 => ?_)
    obtain ⟨ss_9, rfl⟩ : ∃ z, z = u9 := ⟨_, rfl⟩
    rw [hX9] at hR; rw [pr1_mk ss_9] at hR
    refine j_bipush (v := (-100)) C dX6_town_73 75 rfl (by decide) ?_
    refine j_aload_n C dX6_town_75 76 rfl rfl 0 rfl ?_
    refine j_get C dX6_town_76 79 rfl hiX6 0 rfl rfl 8 (by decide) rfl kX6_town_f70 rfl ?_
    refine j_isub C dX6_town_79 80 rfl ?_
    exact Rt.ret (hR) rfl dX6_town_80

theorem feed_0 {n x : Int32} (hn : TN n) (h : (1 : Int64).toInt ≤ x.toInt ∧ x.toInt ≤ (8 : Int64).toInt) (c : n + x ≤ 200) : 0 ≤ n.toInt ∧ n.toInt + x.toInt ≤ 200 + (0 : Int32).toInt := by
  rw [show (1 : Int64).toInt = 1 from rfl, show (8 : Int64).toInt = 8 from rfl] at h
  have h1 := hn.1
  have h2 := hn.2
  have e : (n + x).toInt = n.toInt + x.toInt := i32_addE (by omega) (by omega)
  rw [i32_le, e, show (200 : Int32).toInt = 200 from rfl] at c
  rw [show (0 : Int32).toInt = 0 from rfl]
  omega
theorem feed_keep {n x k : Int32} (hk : k.toInt < 8) (h : 0 ≤ n.toInt ∧ n.toInt + x.toInt ≤ 200 + k.toInt) (hc : ¬ x.toInt ≤ k.toInt) : 0 ≤ (n + 1).toInt ∧ (n + 1).toInt + x.toInt ≤ 200 + (k + 1).toInt := by
  rw [i32_add1 (i := n) (by omega), i32_add1 (i := k) (by omega)]
  omega
-- X6_feed
def l_X6_feed_32 (x1 : Int64) (x3 : Int32) : Nat → Int32 → (Nat → Int32) → Int32 → Int32 × (Nat → Int32) × Int32
  | 0, x4, mtp, mtn => (x4, mtp, mtn)
  | N + 1, x4, mtp, mtn => if (x3 ≤ x4) then (x4, mtp, mtn) else (l_X6_feed_32 x1 x3 N (x4 + 1) (upd mtp (mtn).toNatClampNeg ((((x1 >>> ((((8 : Int32) * x4) : Int32).toInt64 &&& 63)) &&& 255) : Int64).toInt32)) (mtn + 1))
def f_X6_feed (mtp : Nat → Int32) (mtn : Int32) (x1 : Int64) (x3 : Int32) : Int32 × (Nat → Int32) × Int32 := if ((f_X6_isIn ((x3 : Int32).toInt64) (1 : Int64) (8 : Int64)) = 0) then (((-1) : Int32), mtp, mtn) else (if ((mtn + x3) ≤ 200) then (pr3 (l_X6_feed_32 x1 x3 300 (0 : Int32) mtp mtn) (fun x4_4 mtp_4 mtn_4 => (mtn_4, mtp_4, mtn_4))) else (((-2) : Int32), mtp, mtn))
theorem kX6_feed_c55 : Cond.constantLong RX6 55 8 ∈ wsX6_feed := by decide +kernel
theorem kX6_feed_iRX6 : Cond.initialized yX6_isIn.cls ∈ wsX6_feed := by decide +kernel
theorem kX6_feed_sX6_isIn : Cond.static yX6_isIn ∈ wsX6_feed := by decide +kernel
theorem kX6_feed_m57 : Cond.methodLink RX6 57 yX6_isIn ∈ wsX6_feed := by decide +kernel
theorem kX6_feed_f61 : Cond.fieldLink RX6 61 "TwoMinutesModel" "taped" "I" ∈ wsX6_feed := by decide +kernel
theorem kX6_feed_f22 : Cond.fieldLink RX6 22 "TwoMinutesModel" "tape" "[I" ∈ wsX6_feed := by decide +kernel
theorem kX6_feed_c65 : Cond.constantLong RX6 65 255 ∈ wsX6_feed := by decide +kernel
theorem qd_X6_feed : yX6_feed.cls = RX6 ∧ yX6_feed.cls ≠ "java/lang/invoke/MethodHandle" ∧ yX6_feed.cls ≠ "java/lang/invoke/VarHandle" ∧ (parseMethodDescriptor yX6_feed.desc).map (fun d => d.parameters.length) = some 2 := by decide +kernel
abbrev rmX6_feed : Room := { frames := 1, cells := 0, slots := 0, locals := 25 }
set_option maxHeartbeats 4000000 in
set_option maxRecDepth 100000 in
theorem L_X6_feed_32 {τ : SX} {κ : KX} (C : Cx τ κ cX6_feed RX6 wsX6_feed rmX6_feed 5) (a : Nat → Nat) (ss : Nat → Int32) (mhd : Nat → Int32) (mas : Nat → Int32) (mbf : Nat → Int32) (mih : Int32) (mtk : Int32) (mfr : Int32) (mtt : Int32) (mvl : Int32) (miw : Int32) (mld : Nat → Int32) (mrw : Nat → Int32) (mrn : Int32) (mso : Nat → Int32) (msz : Nat → Int32) (mnu : Nat → Int32) (mhw : Nat → Int32) (mhh : Nat → Int32) (mhm : Nat → Int32) (mbo : Nat → Int32) (mrr : Int32) (mak : Int32) (man : Int32) (maa : Int32) (mip : Int32) (x1 : Int64) (x3 : Int32) (hx : 1 ≤ x3.toInt ∧ x3.toInt ≤ 8) (Φ : Int32 × (Nat → Int32) × Int32 → Prop) (hE : ∀ (x4 : Int32) (mtp : Nat → Int32) (mtn : Int32), Φ (x4, mtp, mtn) → J τ κ 0 0 (wM τ a ss mhd mas mbf mih mtp mtn mtk mfr mtt mvl miw mld mrw mrn mso msz mnu mhw mhh mhm mbo mrr mak man maa mip) [(0, .ref (a 0)), (1, .long x1), (3, .int x3), (4, .int x4)] 75 []) : ∀ (N : Nat) (x4 : Int32) (mtp : Nat → Int32) (mtn : Int32), ((8 : Int) - x4.toInt).toNat < N → (0 ≤ x4.toInt) → (x4.toInt ≤ 8) → (0 ≤ mtn.toInt ∧ mtn.toInt + x3.toInt ≤ 200 + x4.toInt) → Φ (l_X6_feed_32 x1 x3 N x4 mtp mtn) → J τ κ 0 0 (wM τ a ss mhd mas mbf mih mtp mtn mtk mfr mtt mvl miw mld mrw mrn mso msz mnu mhw mhh mhm mbo mrr mak man maa mip) [(0, .ref (a 0)), (1, .long x1), (3, .int x3), (4, .int x4)] 32 [] := by
  have hiX6 : ∀ w ∈ wsX60, w ∈ wsX6_feed := fun w h => List.mem_cons_of_mem _ (List.mem_append_right _ h)
  intro N
  induction N with
  | zero => intro x4 mtp mtn hm; exact absurd hm (Nat.not_lt_zero _)
  | succ N ih =>
    intro x4 mtp mtn hm h0 h1 hf hR
    rw [l_X6_feed_32] at hR
    refine j_iload C dX6_feed_32 34 rfl 3 rfl ?_
    refine j_iload_n C dX6_feed_34 35 rfl rfl 2 rfl ?_
    refine j_icmp_ge C dX6_feed_35 75 rfl 38 rfl (fun c5 => ?_) (fun c5 => ?_)
    · rw [if_pos c5] at hR
      exact j_lv [0, 1, 2, 3] [(0, .ref (a 0)), (1, .long x1), (3, .int x3), (4, .int x4)] rfl (hE _ _ _  hR)
    · rw [if_neg c5] at hR
      have hs := cnt_step (B := 8) h0 (hx.2) (by decide) c5
      have hc := mt i32_le.mpr c5
      refine j_aload_n C dX6_feed_38 39 rfl rfl 0 rfl ?_
      refine j_get C dX6_feed_39 42 rfl hiX6 0 rfl rfl 5 (by decide) rfl kX6_feed_f22 rfl ?_
      refine j_aload_n C dX6_feed_42 43 rfl rfl 0 rfl ?_
      refine j_get C dX6_feed_43 46 rfl hiX6 0 rfl rfl 6 (by decide) rfl kX6_feed_f61 rfl ?_
      refine j_lload_n C dX6_feed_46 47 rfl rfl 1 rfl ?_
      refine j_bipush (v := 8) C dX6_feed_47 49 rfl (by decide) ?_
      refine j_iload C dX6_feed_49 51 rfl 3 rfl ?_
      refine j_imul C dX6_feed_51 52 rfl ?_
      refine j_lshr C dX6_feed_52 53 rfl ?_
      refine j_ldc2 C dX6_feed_53 56 rfl kX6_feed_c65 ?_
      refine j_land C dX6_feed_56 57 rfl ?_
      refine j_l2i C dX6_feed_57 58 rfl ?_
      refine j_iast C dX6_feed_58 59 rfl 5 rfl (vpI hf.1 (by omega)) (mtn).toNatClampNeg rfl (wM τ a ss mhd mas mbf mih (upd mtp (mtn).toNatClampNeg ((((x1 >>> ((((8 : Int32) * x4) : Int32).toInt64 &&& 63)) &&& 255) : Int64).toInt32)) mtn mtk mfr mtt mvl miw mld mrw mrn mso msz mnu mhw mhh mhm mbo mrr mak man maa mip) rfl ?_
      refine j_aload_n C dX6_feed_59 60 rfl rfl 0 rfl ?_
      refine j_dup C dX6_feed_60 61 rfl rfl ?_
      refine j_get C dX6_feed_61 64 rfl hiX6 0 rfl rfl 6 (by decide) rfl kX6_feed_f61 rfl ?_
      refine j_iconst (v := 1) C dX6_feed_64 65 rfl (by decide) ?_
      refine j_iadd C dX6_feed_65 66 rfl ?_
      refine j_put C dX6_feed_66 69 rfl hiX6 tyX6_ok nmX6 0 rfl rfl 6 (by decide) rfl kX6_feed_f61 rfl rfl rfl (Nat.le_of_ble_eq_true rfl) (wM τ a ss mhd mas mbf mih (upd mtp (mtn).toNatClampNeg ((((x1 >>> ((((8 : Int32) * x4) : Int32).toInt64 &&& 63)) &&& 255) : Int64).toInt32)) (mtn + 1) mtk mfr mtt mvl miw mld mrw mrn mso msz mnu mhw mhh mhm mbo mrr mak man maa mip) rfl ?_
      refine j_iinc (v := (x4 + 1)) C dX6_feed_69 72 rfl 3 rfl rfl (by decide) [(4, .int (x4 + 1)), (0, .ref (a 0)), (1, .long x1), (3, .int x3)] rfl ?_
      refine j_goto C dX6_feed_72 32 rfl ?_
      exact j_lv [1, 2, 3, 0] [(0, .ref (a 0)), (1, .long x1), (3, .int x3), (4, .int (x4 + 1))] rfl (ih _ _ _ (by have := hs.2.2.1; omega) hs.1 hs.2.1 (feed_keep hs.2.2.2 hf hc) hR)
set_option maxHeartbeats 4000000 in
set_option maxRecDepth 100000 in
theorem c_X6_feed (τ : SX) (a : Nat → Nat) (ss : Nat → Int32) (mhd : Nat → Int32) (mas : Nat → Int32) (mbf : Nat → Int32) (mih : Int32) (mtp : Nat → Int32) (mtn : Int32) (mtk : Int32) (mfr : Int32) (mtt : Int32) (mvl : Int32) (miw : Int32) (mld : Nat → Int32) (mrw : Nat → Int32) (mrn : Int32) (mso : Nat → Int32) (msz : Nat → Int32) (mnu : Nat → Int32) (mhw : Nat → Int32) (mhh : Nat → Int32) (mhm : Nat → Int32) (mbo : Nat → Int32) (mrr : Int32) (mak : Int32) (man : Int32) (maa : Int32) (mip : Int32) (x1 : Int64) (x3 : Int32) (hn : TN mtn) (sz : Nat) : McI τ yX6_feed wsX6_feed rmX6_feed .int [.ref (a 0), .long x1, .int x3] (wM τ a ss mhd mas mbf mih mtp mtn mtk mfr mtt mvl miw mld mrw mrn mso msz mnu mhw mhh mhm mbo mrr mak man maa mip) (fun u : (Nat → Int32) × Int32 => (wM τ a ss mhd mas mbf mih u.1 u.2 mtk mfr mtt mvl miw mld mrw mrn mso msz mnu mhw mhh mhm mbo mrr mak man maa mip)) (f_X6_feed mtp mtn x1 x3) sz := by
  refine mc_I (cc := cX6_feed) (own := RX6) [(0, .ref (a 0)), (1, .long x1), (3, .int x3)] rfl (by decide) rfl rfl (Nat.le_of_ble_eq_true rfl) (fun κ C hR => ?_)
  have hiX6 : ∀ w ∈ wsX60, w ∈ wsX6_feed := fun w h => List.mem_cons_of_mem _ (List.mem_append_right _ h)
  unfold f_X6_feed at hR
  refine j_iload_n C dX6_feed_0 1 rfl rfl 2 rfl ?_
  refine j_i2l C dX6_feed_1 2 rfl ?_
  refine j_lconst (v := 1) C dX6_feed_2 3 rfl (by decide) ?_
  refine j_ldc2 C dX6_feed_3 6 rfl kX6_feed_c55 ?_
  refine j_cs0I (na := 3) C dX6_feed_6 9 rfl (c_X6_isIn τ  ((x3 : Int32).toInt64) (1 : Int64) (8 : Int64) ) rfl ggX6_feed_X6_isIn rfl rfl rfl kX6_feed_iRX6 kX6_feed_m57 kX6_feed_sX6_isIn qd_X6_isIn rfl ⟨by decide, by decide⟩ ⟨by decide, by decide⟩ rfl (Nat.le_of_ble_eq_true rfl) (fun r1 u1 hX1 hn1 => ?_)
  obtain rfl := (Prod.mk.inj hX1).1
  refine j_if_ne C dX6_feed_9 14 rfl 12 rfl (fun c2 => ?_) (fun c2 => ?_)
  · rw [if_neg c2] at hR
    refine j_aload_n C dX6_feed_14 15 rfl rfl 0 rfl ?_
    refine j_get C dX6_feed_15 18 rfl hiX6 0 rfl rfl 6 (by decide) rfl kX6_feed_f61 rfl ?_
    refine j_iload_n C dX6_feed_18 19 rfl rfl 2 rfl ?_
    refine j_iadd C dX6_feed_19 20 rfl ?_
    refine j_sipush (v := 200) C dX6_feed_20 23 rfl (by decide) ?_
    refine j_icmp_le C dX6_feed_23 29 rfl 26 rfl (fun c3 => ?_) (fun c3 => ?_)
    · rw [if_pos c3] at hR
      refine j_iconst (v := 0) C dX6_feed_29 30 rfl (by decide) ?_
      refine j_istore C dX6_feed_30 32 rfl (by decide) [(4, .int 0), (0, .ref (a 0)), (1, .long x1), (3, .int x3)] rfl ?_
      refine j_lv [1, 2, 3, 0] [(0, .ref (a 0)), (1, .long x1), (3, .int x3), (4, .int 0)] rfl (L_X6_feed_32 C a ss mhd mas mbf mih mtk mfr mtt mvl miw mld mrw mrn mso msz mnu mhw mhh mhm mbo mrr mak man maa mip x1 x3 (in6 (x := x3) c2) (fun (o : Int32 × (Nat → Int32) × Int32) => Rt τ κ cX6_feed .int (fun u : (Nat → Int32) × Int32 => (wM τ a ss mhd mas mbf mih u.1 u.2 mtk mfr mtt mvl miw mld mrw mrn mso msz mnu mhw mhh mhm mbo mrr mak man maa mip)) (pr3 o (fun x4_4 mtp_4 mtn_4 => (mtn_4, mtp_4, mtn_4)))) (fun x4_4 mtp_4 mtn_4  hR => ?_) 300 (0 : Int32) mtp mtn (by decide) (by decide) (by decide) (feed_0 hn (in6 (x := x3) c2) c3) hR)
      rw [pr3_mk x4_4 mtp_4 mtn_4] at hR
      refine j_aload_n C dX6_feed_75 76 rfl rfl 0 rfl ?_
      refine j_get C dX6_feed_76 79 rfl hiX6 0 rfl rfl 6 (by decide) rfl kX6_feed_f61 rfl ?_
      exact Rt.ret (hR) rfl dX6_feed_79
    · rw [if_neg c3] at hR
      refine j_bipush (v := (-2)) C dX6_feed_26 28 rfl (by decide) ?_
      exact Rt.ret (hR) rfl dX6_feed_28
  · rw [if_pos c2] at hR
    refine j_iconst (v := (-1)) C dX6_feed_12 13 rfl (by decide) ?_
    exact Rt.ret (hR) rfl dX6_feed_13

