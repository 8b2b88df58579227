-- X3_tookName
def f_X3_tookName__at (bs : Nat → Int32) (tz : Int32) (so : Int32) (fr : Int32) (tt : Int32) (ft : Int32) : Int32 × Int32 × Int32 × Int32 := if (ft = (-1)) then (if ((f_X3_isName__n10 bs tz so fr tt) = 0) then ((0 : Int32), so, fr, tt) else (pr3 (f_X3_readSign bs tz tt) (fun so_4 fr_4 tt_4 => ((1 : Int32), so_4, fr_4, tt_4)))) else ((0 : Int32), so, fr, tt)
theorem kX3_tookName__at_f19 : Cond.fieldLink RX3 19 "TwoMinutes$Tape" "fault" "I" ∈ wsX3_tookName := by decide +kernel
theorem qd_X3_tookName__at : yX3_tookName.cls = RX3 ∧ yX3_tookName.cls ≠ "java/lang/invoke/MethodHandle" ∧ yX3_tookName.cls ≠ "java/lang/invoke/VarHandle" ∧ (parseMethodDescriptor yX3_tookName.desc).map (fun d => d.parameters.length) = some 1 := by decide +kernel
abbrev rmX3_tookName__at : Room := { frames := 5, cells := 0, slots := 0, locals := 107 }
set_option maxHeartbeats 4000000 in
set_option maxRecDepth 100000 in
theorem c_X3_tookName__at (τ : SX) (a : Nat → Nat) (bs : Nat → Int32) (tz : Int32) (so : Int32) (fr : Int32) (tt : Int32) (ft : Int32) (hn : TN tz) (hf : TN fr) (ht : TN tt) (sz : Nat) : McI τ yX3_tookName wsX3_tookName rmX3_tookName__at .boolean [.ref (a 0), .ref (τ.2.2.2 (100 + 10))] (wP τ a bs tz so fr tt ft) (fun u : Int32 × Int32 × Int32 => (wP τ a bs tz u.1 u.2.1 u.2.2 ft)) (f_X3_tookName__at bs tz so fr tt ft) sz := by
  refine mc_I (cc := cX3_tookName) (own := RX3) [(0, .ref (a 0)), (1, .ref (τ.2.2.2 (100 + 10)))] rfl (by decide) rfl rfl (Nat.le_of_ble_eq_true rfl) (fun κ C hR => ?_)
  have hiX3 : ∀ w ∈ wsX30, w ∈ wsX3_tookName := fun w h => List.mem_cons_of_mem _ (List.mem_append_right _ h)
  unfold f_X3_tookName__at at hR
  refine j_aload_n C dX3_tookName_0 1 rfl rfl 0 rfl ?_
  refine j_get C dX3_tookName_1 4 rfl hiX3 0 rfl rfl 5 (by decide) rfl kX3_tookName__at_f19 rfl ?_
  refine j_iconst (v := (-1)) C dX3_tookName_4 5 rfl (by decide) ?_
  refine j_icmp_ne C dX3_tookName_5 16 rfl 8 rfl (fun c1 => ?_) (fun c1 => ?_)
  · rw [if_neg c1] at hR
    refine j_iconst (v := 0) C dX3_tookName_16 17 rfl (by decide) ?_
    exact Rt.ret (hR) (show narrow .boolean (.int (0 : Int32)) = .int (0 : Int32) from rfl) dX3_tookName_17
  · rw [if_pos c1] at hR
    refine j_aload_n C dX3_tookName_8 9 rfl rfl 0 rfl ?_
    refine j_aload_n C dX3_tookName_9 10 rfl rfl 1 rfl ?_
    refine j_cv0I (na := 1) C dX3_tookName_10 13 rfl (c_X3_isName__n10 τ a bs tz so fr tt ft (by assumption) (by assumption) (by assumption)) gX3_tookName_X3_isName rfl rfl rfl qd_X3_isName__n10 rfl ⟨by decide, by decide⟩ ⟨by decide, by decide⟩ rfl (Nat.le_of_ble_eq_true rfl) rfl 3 0 rfl rfl (fun r2 u2 hX2 hn2 => ?_)
    obtain rfl := (Prod.mk.inj hX2).1
    refine j_if_ne C dX3_tookName_13 18 rfl 16 rfl (fun c3 => ?_) (fun c3 => ?_)
    · rw [if_neg c3] at hR
      refine j_aload_n C dX3_tookName_18 19 rfl rfl 0 rfl ?_
      refine j_cv0V (na := 0) C dX3_tookName_19 22 rfl (c_X3_readSign τ a bs tz so fr tt ft (by assumption) (by assumption)) gX3_tookName_X3_readSign rfl rfl rfl qd_X3_readSign rfl ⟨by decide, by decide⟩ ⟨by decide, by decide⟩ rfl (Nat.le_of_ble_eq_true rfl) rfl 3 0 rfl rfl (fun u4 hX4 => ?_)
      obtain ⟨so_4, fr_4, tt_4⟩ := u4
      rw [hX4] at hR; rw [pr3_mk so_4 fr_4 tt_4] at hR
      obtain ⟨hf4, ht4⟩ := rs_TN hX4 (by assumption) (by assumption)
      refine j_iconst (v := 1) C dX3_tookName_22 23 rfl (by decide) ?_
      exact Rt.ret (hR) (show narrow .boolean (.int (1 : Int32)) = .int (1 : Int32) from rfl) dX3_tookName_23
    · rw [if_pos c3] at hR
      refine j_iconst (v := 0) C dX3_tookName_16 17 rfl (by decide) ?_
      exact Rt.ret (hR) (show narrow .boolean (.int (0 : Int32)) = .int (0 : Int32) from rfl) dX3_tookName_17

theorem td_TN_at {bs : Nat → Int32} {n so fr tt ft r k f t : Int32} (e : f_X3_tookName__at bs n so fr tt ft = (r, k, f, t)) (hn : TN n) (hf : TN fr) (ht : TN tt) : TN f ∧ TN t := by
  unfold f_X3_tookName__at at e
  by_cases c : ft = -1
  · rw [if_pos c] at e
    split at e
    · simp only [Prod.mk.injEq] at e
      obtain ⟨_, _, e3, e4⟩ := e
      exact ⟨e3 ▸ hf, e4 ▸ ht⟩
    · have h := rs_TN (bs := bs) (n := n) (t := tt) (k := (f_X3_readSign bs n tt).1) (f := (f_X3_readSign bs n tt).2.1) (t2 := (f_X3_readSign bs n tt).2.2) rfl hn ht
      generalize f_X3_readSign bs n tt = p at h e
      obtain ⟨p0, p1, p2⟩ := p
      have h' : TN p1 ∧ TN p2 := h
      rw [pr3_mk] at e
      simp only [Prod.mk.injEq] at e
      obtain ⟨_, _, e3, e4⟩ := e
      exact ⟨e3 ▸ h'.1, e4 ▸ h'.2⟩
  · rw [if_neg c] at e
    simp only [Prod.mk.injEq] at e
    obtain ⟨_, _, e3, e4⟩ := e
    exact ⟨e3 ▸ hf, e4 ▸ ht⟩

-- X3_tookName
def f_X3_tookName__beat (bs : Nat → Int32) (tz : Int32) (so : Int32) (fr : Int32) (tt : Int32) (ft : Int32) : Int32 × Int32 × Int32 × Int32 := if (ft = (-1)) then (if ((f_X3_isName__n11 bs tz so fr tt) = 0) then ((0 : Int32), so, fr, tt) else (pr3 (f_X3_readSign bs tz tt) (fun so_4 fr_4 tt_4 => ((1 : Int32), so_4, fr_4, tt_4)))) else ((0 : Int32), so, fr, tt)
theorem kX3_tookName__beat_f19 : Cond.fieldLink RX3 19 "TwoMinutes$Tape" "fault" "I" ∈ wsX3_tookName := by decide +kernel
theorem qd_X3_tookName__beat : yX3_tookName.cls = RX3 ∧ yX3_tookName.cls ≠ "java/lang/invoke/MethodHandle" ∧ yX3_tookName.cls ≠ "java/lang/invoke/VarHandle" ∧ (parseMethodDescriptor yX3_tookName.desc).map (fun d => d.parameters.length) = some 1 := by decide +kernel
abbrev rmX3_tookName__beat : Room := { frames := 5, cells := 0, slots := 0, locals := 107 }
set_option maxHeartbeats 4000000 in
set_option maxRecDepth 100000 in
theorem c_X3_tookName__beat (τ : SX) (a : Nat → Nat) (bs : Nat → Int32) (tz : Int32) (so : Int32) (fr : Int32) (tt : Int32) (ft : Int32) (hn : TN tz) (hf : TN fr) (ht : TN tt) (sz : Nat) : McI τ yX3_tookName wsX3_tookName rmX3_tookName__beat .boolean [.ref (a 0), .ref (τ.2.2.2 (100 + 11))] (wP τ a bs tz so fr tt ft) (fun u : Int32 × Int32 × Int32 => (wP τ a bs tz u.1 u.2.1 u.2.2 ft)) (f_X3_tookName__beat bs tz so fr tt ft) sz := by
  refine mc_I (cc := cX3_tookName) (own := RX3) [(0, .ref (a 0)), (1, .ref (τ.2.2.2 (100 + 11)))] rfl (by decide) rfl rfl (Nat.le_of_ble_eq_true rfl) (fun κ C hR => ?_)
  have hiX3 : ∀ w ∈ wsX30, w ∈ wsX3_tookName := fun w h => List.mem_cons_of_mem _ (List.mem_append_right _ h)
  unfold f_X3_tookName__beat at hR
  refine j_aload_n C dX3_tookName_0 1 rfl rfl 0 rfl ?_
  refine j_get C dX3_tookName_1 4 rfl hiX3 0 rfl rfl 5 (by decide) rfl kX3_tookName__beat_f19 rfl ?_
  refine j_iconst (v := (-1)) C dX3_tookName_4 5 rfl (by decide) ?_
  refine j_icmp_ne C dX3_tookName_5 16 rfl 8 rfl (fun c1 => ?_) (fun c1 => ?_)
  · rw [if_neg c1] at hR
    refine j_iconst (v := 0) C dX3_tookName_16 17 rfl (by decide) ?_
    exact Rt.ret (hR) (show narrow .boolean (.int (0 : Int32)) = .int (0 : Int32) from rfl) dX3_tookName_17
  · rw [if_pos c1] at hR
    refine j_aload_n C dX3_tookName_8 9 rfl rfl 0 rfl ?_
    refine j_aload_n C dX3_tookName_9 10 rfl rfl 1 rfl ?_
    refine j_cv0I (na := 1) C dX3_tookName_10 13 rfl (c_X3_isName__n11 τ a bs tz so fr tt ft (by assumption) (by assumption) (by assumption)) gX3_tookName_X3_isName rfl rfl rfl qd_X3_isName__n11 rfl ⟨by decide, by decide⟩ ⟨by decide, by decide⟩ rfl (Nat.le_of_ble_eq_true rfl) rfl 3 0 rfl rfl (fun r2 u2 hX2 hn2 => ?_)
    obtain rfl := (Prod.mk.inj hX2).1
    refine j_if_ne C dX3_tookName_13 18 rfl 16 rfl (fun c3 => ?_) (fun c3 => ?_)
    · rw [if_neg c3] at hR
      refine j_aload_n C dX3_tookName_18 19 rfl rfl 0 rfl ?_
      refine j_cv0V (na := 0) C dX3_tookName_19 22 rfl (c_X3_readSign τ a bs tz so fr tt ft (by assumption) (by assumption)) gX3_tookName_X3_readSign rfl rfl rfl qd_X3_readSign rfl ⟨by decide, by decide⟩ ⟨by decide, by decide⟩ rfl (Nat.le_of_ble_eq_true rfl) rfl 3 0 rfl rfl (fun u4 hX4 => ?_)
      obtain ⟨so_4, fr_4, tt_4⟩ := u4
      rw [hX4] at hR; rw [pr3_mk so_4 fr_4 tt_4] at hR
      obtain ⟨hf4, ht4⟩ := rs_TN hX4 (by assumption) (by assumption)
      refine j_iconst (v := 1) C dX3_tookName_22 23 rfl (by decide) ?_
      exact Rt.ret (hR) (show narrow .boolean (.int (1 : Int32)) = .int (1 : Int32) from rfl) dX3_tookName_23
    · rw [if_pos c3] at hR
      refine j_iconst (v := 0) C dX3_tookName_16 17 rfl (by decide) ?_
      exact Rt.ret (hR) (show narrow .boolean (.int (0 : Int32)) = .int (0 : Int32) from rfl) dX3_tookName_17

theorem td_TN_beat {bs : Nat → Int32} {n so fr tt ft r k f t : Int32} (e : f_X3_tookName__beat bs n so fr tt ft = (r, k, f, t)) (hn : TN n) (hf : TN fr) (ht : TN tt) : TN f ∧ TN t := by
  unfold f_X3_tookName__beat at e
  by_cases c : ft = -1
  · rw [if_pos c] at e
    split at e
    · simp only [Prod.mk.injEq] at e
      obtain ⟨_, _, e3, e4⟩ := e
      exact ⟨e3 ▸ hf, e4 ▸ ht⟩
    · have h := rs_TN (bs := bs) (n := n) (t := tt) (k := (f_X3_readSign bs n tt).1) (f := (f_X3_readSign bs n tt).2.1) (t2 := (f_X3_readSign bs n tt).2.2) rfl hn ht
      generalize f_X3_readSign bs n tt = p at h e
      obtain ⟨p0, p1, p2⟩ := p
      have h' : TN p1 ∧ TN p2 := h
      rw [pr3_mk] at e
      simp only [Prod.mk.injEq] at e
      obtain ⟨_, _, e3, e4⟩ := e
      exact ⟨e3 ▸ h'.1, e4 ▸ h'.2⟩
  · rw [if_neg c] at e
    simp only [Prod.mk.injEq] at e
    obtain ⟨_, _, e3, e4⟩ := e
    exact ⟨e3 ▸ hf, e4 ▸ ht⟩

-- X3_tookName
def f_X3_tookName__phase (bs : Nat → Int32) (tz : Int32) (so : Int32) (fr : Int32) (tt : Int32) (ft : Int32) : Int32 × Int32 × Int32 × Int32 := if (ft = (-1)) then (if ((f_X3_isName__n12 bs tz so fr tt) = 0) then ((0 : Int32), so, fr, tt) else (pr3 (f_X3_readSign bs tz tt) (fun so_4 fr_4 tt_4 => ((1 : Int32), so_4, fr_4, tt_4)))) else ((0 : Int32), so, fr, tt)
theorem kX3_tookName__phase_f19 : Cond.fieldLink RX3 19 "TwoMinutes$Tape" "fault" "I" ∈ wsX3_tookName := by decide +kernel
theorem qd_X3_tookName__phase : yX3_tookName.cls = RX3 ∧ yX3_tookName.cls ≠ "java/lang/invoke/MethodHandle" ∧ yX3_tookName.cls ≠ "java/lang/invoke/VarHandle" ∧ (parseMethodDescriptor yX3_tookName.desc).map (fun d => d.parameters.length) = some 1 := by decide +kernel
abbrev rmX3_tookName__phase : Room := { frames := 5, cells := 0, slots := 0, locals := 107 }
set_option maxHeartbeats 4000000 in
set_option maxRecDepth 100000 in
theorem c_X3_tookName__phase (τ : SX) (a : Nat → Nat) (bs : Nat → Int32) (tz : Int32) (so : Int32) (fr : Int32) (tt : Int32) (ft : Int32) (hn : TN tz) (hf : TN fr) (ht : TN tt) (sz : Nat) : McI τ yX3_tookName wsX3_tookName rmX3_tookName__phase .boolean [.ref (a 0), .ref (τ.2.2.2 (100 + 12))] (wP τ a bs tz so fr tt ft) (fun u : Int32 × Int32 × Int32 => (wP τ a bs tz u.1 u.2.1 u.2.2 ft)) (f_X3_tookName__phase bs tz so fr tt ft) sz := by
  refine mc_I (cc := cX3_tookName) (own := RX3) [(0, .ref (a 0)), (1, .ref (τ.2.2.2 (100 + 12)))] rfl (by decide) rfl rfl (Nat.le_of_ble_eq_true rfl) (fun κ C hR => ?_)
  have hiX3 : ∀ w ∈ wsX30, w ∈ wsX3_tookName := fun w h => List.mem_cons_of_mem _ (List.mem_append_right _ h)
  unfold f_X3_tookName__phase at hR
  refine j_aload_n C dX3_tookName_0 1 rfl rfl 0 rfl ?_
  refine j_get C dX3_tookName_1 4 rfl hiX3 0 rfl rfl 5 (by decide) rfl kX3_tookName__phase_f19 rfl ?_
  refine j_iconst (v := (-1)) C dX3_tookName_4 5 rfl (by decide) ?_
  refine j_icmp_ne C dX3_tookName_5 16 rfl 8 rfl (fun c1 => ?_) (fun c1 => ?_)
  · rw [if_neg c1] at hR
    refine j_iconst (v := 0) C dX3_tookName_16 17 rfl (by decide) ?_
    exact Rt.ret (hR) (show narrow .boolean (.int (0 : Int32)) = .int (0 : Int32) from rfl) dX3_tookName_17
  · rw [if_pos c1] at hR
    refine j_aload_n C dX3_tookName_8 9 rfl rfl 0 rfl ?_
    refine j_aload_n C dX3_tookName_9 10 rfl rfl 1 rfl ?_
    refine j_cv0I (na := 1) C dX3_tookName_10 13 rfl (c_X3_isName__n12 τ a bs tz so fr tt ft (by assumption) (by assumption) (by assumption)) gX3_tookName_X3_isName rfl rfl rfl qd_X3_isName__n12 rfl ⟨by decide, by decide⟩ ⟨by decide, by decide⟩ rfl (Nat.le_of_ble_eq_true rfl) rfl 3 0 rfl rfl (fun r2 u2 hX2 hn2 => ?_)
    obtain rfl := (Prod.mk.inj hX2).1
    refine j_if_ne C dX3_tookName_13 18 rfl 16 rfl (fun c3 => ?_) (fun c3 => ?_)
    · rw [if_neg c3] at hR
      refine j_aload_n C dX3_tookName_18 19 rfl rfl 0 rfl ?_
      refine j_cv0V (na := 0) C dX3_tookName_19 22 rfl (c_X3_readSign τ a bs tz so fr tt ft (by assumption) (by assumption)) gX3_tookName_X3_readSign rfl rfl rfl qd_X3_readSign rfl ⟨by decide, by decide⟩ ⟨by decide, by decide⟩ rfl (Nat.le_of_ble_eq_true rfl) rfl 3 0 rfl rfl (fun u4 hX4 => ?_)
      obtain ⟨so_4, fr_4, tt_4⟩ := u4
      rw [hX4] at hR; rw [pr3_mk so_4 fr_4 tt_4] at hR
      obtain ⟨hf4, ht4⟩ := rs_TN hX4 (by assumption) (by assumption)
      refine j_iconst (v := 1) C dX3_tookName_22 23 rfl (by decide) ?_
      exact Rt.ret (hR) (show narrow .boolean (.int (1 : Int32)) = .int (1 : Int32) from rfl) dX3_tookName_23
    · rw [if_pos c3] at hR
      refine j_iconst (v := 0) C dX3_tookName_16 17 rfl (by decide) ?_
      exact Rt.ret (hR) (show narrow .boolean (.int (0 : Int32)) = .int (0 : Int32) from rfl) dX3_tookName_17

theorem td_TN_phase {bs : Nat → Int32} {n so fr tt ft r k f t : Int32} (e : f_X3_tookName__phase bs n so fr tt ft = (r, k, f, t)) (hn : TN n) (hf : TN fr) (ht : TN tt) : TN f ∧ TN t := by
  unfold f_X3_tookName__phase at e
  by_cases c : ft = -1
  · rw [if_pos c] at e
    split at e
    · simp only [Prod.mk.injEq] at e
      obtain ⟨_, _, e3, e4⟩ := e
      exact ⟨e3 ▸ hf, e4 ▸ ht⟩
    · have h := rs_TN (bs := bs) (n := n) (t := tt) (k := (f_X3_readSign bs n tt).1) (f := (f_X3_readSign bs n tt).2.1) (t2 := (f_X3_readSign bs n tt).2.2) rfl hn ht
      generalize f_X3_readSign bs n tt = p at h e
      obtain ⟨p0, p1, p2⟩ := p
      have h' : TN p1 ∧ TN p2 := h
      rw [pr3_mk] at e
      simp only [Prod.mk.injEq] at e
      obtain ⟨_, _, e3, e4⟩ := e
      exact ⟨e3 ▸ h'.1, e4 ▸ h'.2⟩
  · rw [if_neg c] at e
    simp only [Prod.mk.injEq] at e
    obtain ⟨_, _, e3, e4⟩ := e
    exact ⟨e3 ▸ hf, e4 ▸ ht⟩

-- X3_readPerson
def f_X3_readPerson (bs : Nat → Int32) (tz : Int32) (so : Int32) (fr : Int32) (tt : Int32) (ft : Int32) (kd : Nat → Int32) (bt : Nat → Int32) (ph : Nat → Int32) (cn : Nat → Int32) (no : Nat → Int32) (ct : Int32) (x2 : Int32) : Int32 × Int32 × Int32 × Int32 × (Nat → Int32) × (Nat → Int32) × (Nat → Int32) × (Nat → Int32) × (Nat → Int32) × Int32 := pr4 (f_X3_tookName__at bs tz so fr tt ft) (fun r1 so_1 fr_1 tt_1 => pr1 (if (r1 = 0) then (pr1 (f_X3_fail fr_1 ft) (fun ft_3 => ft_3)) else ft) (fun j6_0 => pr5 (f_X3_takeNumber bs tz so_1 fr_1 tt_1 j6_0 (0 : Int32) (11 : Int32)) (fun r4 so_4 fr_4 tt_4 ft_4 => pr4 (f_X3_tookName__beat bs tz so_4 fr_4 tt_4 ft_4) (fun r5 so_5 fr_5 tt_5 => pr5 (if (r5 = 0) then ((5 : Int32), so_5, fr_5, tt_5, ft_4) else (pr5 (f_X3_takeNumber bs tz so_5 fr_5 tt_5 ft_4 (1 : Int32) (9 : Int32)) (fun r7 so_7 fr_7 tt_7 ft_7 => (r7, so_7, fr_7, tt_7, ft_7)))) (fun j27_0 j27_1 j27_2 j27_3 j27_4 => pr4 (f_X3_tookName__phase bs tz j27_1 j27_2 j27_3 j27_4) (fun r8 so_8 fr_8 tt_8 => pr5 (if (r8 = 0) then ((0 : Int32), so_8, fr_8, tt_8, j27_4) else (pr5 (f_X3_takeNumber bs tz so_8 fr_8 tt_8 j27_4 (0 : Int32) (8 : Int32)) (fun r10 so_10 fr_10 tt_10 ft_10 => (r10, so_10, fr_10, tt_10, ft_10)))) (fun j49_0 j49_1 j49_2 j49_3 j49_4 => pr4 (f_X3_takeSemicolon bs tz j49_1 j49_2 j49_3 j49_4) (fun so_11 fr_11 tt_11 ft_11 => pr6 (f_X4_add kd bt ph cn no ct x2 j27_0 j49_0 r4) (fun kd_12 bt_12 ph_12 cn_12 no_12 ct_12 => (so_11, fr_11, tt_11, ft_11, kd_12, bt_12, ph_12, cn_12, no_12, ct_12))))))))))
theorem qd_X3_readPerson : yX3_readPerson.cls = RX3 ∧ yX3_readPerson.cls ≠ "java/lang/invoke/MethodHandle" ∧ yX3_readPerson.cls ≠ "java/lang/invoke/VarHandle" ∧ (parseMethodDescriptor yX3_readPerson.desc).map (fun d => d.parameters.length) = some 2 := by decide +kernel
abbrev rmX3_readPerson : Room := { frames := 6, cells := 0, slots := 0, locals := 128 }
set_option maxHeartbeats 4000000 in
set_option maxRecDepth 100000 in
theorem c_X3_readPerson (τ : SX) (a b : Nat → Nat) (bs : Nat → Int32) (tz : Int32) (so : Int32) (fr : Int32) (tt : Int32) (ft : Int32) (lw : Nat → Int32) (kd : Nat → Int32) (bt : Nat → Int32) (ph : Nat → Int32) (cn : Nat → Int32) (no : Nat → Int32) (ct : Int32) (sc : Int32) (rn : Int32) (lg : Int32) (dn : Int32) (zz : Int32) (x2 : Int32) (hn : TN tz) (hf : TN fr) (ht : TN tt) (hc0 : 0 ≤ ct.toInt) (sz : Nat) : McV τ yX3_readPerson wsX3_readPerson rmX3_readPerson [.ref (a 0), .ref (b 0), .int x2] ((wP τ a bs tz so fr tt ft) ++ (wT τ b lw kd bt ph cn no ct sc rn lg dn zz)) (fun u : Int32 × Int32 × Int32 × Int32 × (Nat → Int32) × (Nat → Int32) × (Nat → Int32) × (Nat → Int32) × (Nat → Int32) × Int32 => ((wP τ a bs tz u.1 u.2.1 u.2.2.1 u.2.2.2.1) ++ (wT τ b lw u.2.2.2.2.1 u.2.2.2.2.2.1 u.2.2.2.2.2.2.1 u.2.2.2.2.2.2.2.1 u.2.2.2.2.2.2.2.2.1 u.2.2.2.2.2.2.2.2.2 sc rn lg dn zz))) (f_X3_readPerson bs tz so fr tt ft kd bt ph cn no ct x2) 0 0 sz := by
  refine mc_V (cc := cX3_readPerson) (own := RX3) [(0, .ref (a 0)), (1, .ref (b 0)), (2, .int x2)] rfl (by decide) rfl rfl (Nat.le_of_ble_eq_true rfl) (fun κ C _ hR => ?_)
  have hiX4 : ∀ w ∈ wsX40, w ∈ wsX3_readPerson := fun w h => List.mem_cons_of_mem _ (List.mem_append_right _ h)
  have hiX3 : ∀ w ∈ wsX30, w ∈ wsX3_readPerson := fun w h => List.mem_cons_of_mem _ (List.mem_append_left _ (List.mem_append_right _ h))
  unfold f_X3_readPerson at hR
  refine j_aload_n C dX3_readPerson_0 1 rfl rfl 0 rfl ?_
  refine j_ldcS (i := 10) C rfl dX3_readPerson_1 3 rfl ?_
  refine j_cvI (na := 1) C dX3_readPerson_3 6 rfl (c_X3_tookName__at τ a bs tz so fr tt ft (by assumption) (by assumption) (by assumption)) gX3_readPerson_X3_tookName rfl rfl rfl qd_X3_tookName__at rfl ⟨by decide, by decide⟩ ⟨by decide, by decide⟩ rfl (Nat.le_of_ble_eq_true rfl) [0, 1] [2, 3, 4, 5, 6, 7, 8] [7, 8, 0, 1, 2, 3, 4, 5, 6] ((wT τ b lw kd bt ph cn no ct sc rn lg dn zz)) rfl (by decide) rfl (by decide) (by decide) 3 0 rfl rfl (fun u => ((wP τ a bs tz u.1 u.2.1 u.2.2 ft) ++ (wT τ b lw kd bt ph cn no ct sc rn lg dn zz))) (fun _ => rfl) (by decide) (fun r1 u1 hX1 hn1 => ?_)
  obtain ⟨so_1, fr_1, tt_1⟩ := u1
  rw [hX1] at hR; rw [pr4_mk r1 so_1 fr_1 tt_1] at hR
  obtain ⟨hf1, ht1⟩ := td_TN_at hX1 (by assumption) (by assumption) (by assumption)
  have J6 : ∀ (j6_0 : Int32), RtV τ κ cX3_readPerson 0 0 (fun u : Int32 × Int32 × Int32 × Int32 × (Nat → Int32) × (Nat → Int32) × (Nat → Int32) × (Nat → Int32) × (Nat → Int32) × Int32 => ((wP τ a bs tz u.1 u.2.1 u.2.2.1 u.2.2.2.1) ++ (wT τ b lw u.2.2.2.2.1 u.2.2.2.2.2.1 u.2.2.2.2.2.2.1 u.2.2.2.2.2.2.2.1 u.2.2.2.2.2.2.2.2.1 u.2.2.2.2.2.2.2.2.2 sc rn lg dn zz))) (pr5 (f_X3_takeNumber bs tz so_1 fr_1 tt_1 j6_0 (0 : Int32) (11 : Int32)) (fun r4 so_4 fr_4 tt_4 ft_4 => pr4 (f_X3_tookName__beat bs tz so_4 fr_4 tt_4 ft_4) (fun r5 so_5 fr_5 tt_5 => pr5 (if (r5 = 0) then ((5 : Int32), so_5, fr_5, tt_5, ft_4) else (pr5 (f_X3_takeNumber bs tz so_5 fr_5 tt_5 ft_4 (1 : Int32) (9 : Int32)) (fun r7 so_7 fr_7 tt_7 ft_7 => (r7, so_7, fr_7, tt_7, ft_7)))) (fun j27_0 j27_1 j27_2 j27_3 j27_4 => pr4 (f_X3_tookName__phase bs tz j27_1 j27_2 j27_3 j27_4) (fun r8 so_8 fr_8 tt_8 => pr5 (if (r8 = 0) then ((0 : Int32), so_8, fr_8, tt_8, j27_4) else (pr5 (f_X3_takeNumber bs tz so_8 fr_8 tt_8 j27_4 (0 : Int32) (8 : Int32)) (fun r10 so_10 fr_10 tt_10 ft_10 => (r10, so_10, fr_10, tt_10, ft_10)))) (fun j49_0 j49_1 j49_2 j49_3 j49_4 => pr4 (f_X3_takeSemicolon bs tz j49_1 j49_2 j49_3 j49_4) (fun so_11 fr_11 tt_11 ft_11 => pr6 (f_X4_add kd bt ph cn no ct x2 j27_0 j49_0 r4) (fun kd_12 bt_12 ph_12 cn_12 no_12 ct_12 => (so_11, fr_11, tt_11, ft_11, kd_12, bt_12, ph_12, cn_12, no_12, ct_12))))))))) → J τ κ 0 0 ((wP τ a bs tz so_1 fr_1 tt_1 j6_0) ++ (wT τ b lw kd bt ph cn no ct sc rn lg dn zz)) [(0, .ref (a 0)), (1, .ref (b 0)), (2, .int x2)] 13 [] := by
    intro j6_0  hR
    refine j_aload_n C dX3_readPerson_13 14 rfl rfl 0 rfl ?_
    refine j_iconst (v := 0) C dX3_readPerson_14 15 rfl (by decide) ?_
    refine j_bipush (v := 11) C dX3_readPerson_15 17 rfl (by decide) ?_
    refine j_cvI (na := 2) C dX3_readPerson_17 20 rfl (c_X3_takeNumber τ a bs tz so_1 fr_1 tt_1 j6_0 (0 : Int32) (11 : Int32) (by assumption) (by assumption) (by assumption)) gX3_readPerson_X3_takeNumber rfl rfl rfl qd_X3_takeNumber rfl ⟨by decide, by decide⟩ ⟨by decide, by decide⟩ rfl (Nat.le_of_ble_eq_true rfl) [0, 1] [2, 3, 4, 5, 6, 7, 8] [7, 8, 0, 1, 2, 3, 4, 5, 6] ((wT τ b lw kd bt ph cn no ct sc rn lg dn zz)) rfl (by decide) rfl (by decide) (by decide) 3 0 rfl rfl (fun u => ((wP τ a bs tz u.1 u.2.1 u.2.2.1 u.2.2.2) ++ (wT τ b lw kd bt ph cn no ct sc rn lg dn zz))) (fun _ => rfl) (by decide) (fun r4 u4 hX4 hn4 => ?_)
    obtain ⟨so_4, fr_4, tt_4, ft_4⟩ := u4
    rw [hX4] at hR; rw [pr5_mk r4 so_4 fr_4 tt_4 ft_4] at hR
    obtain ⟨hf4, ht4⟩ := tn_TN hX4 (by assumption) (by assumption) (by assumption)
    refine j_istore_n C dX3_readPerson_20 21 rfl rfl (by decide) [(3, .int r4), (0, .ref (a 0)), (1, .ref (b 0)), (2, .int x2)] rfl ?_
    refine j_aload_n C dX3_readPerson_21 22 rfl rfl 1 rfl ?_
    refine j_ldcS (i := 11) C rfl dX3_readPerson_22 24 rfl ?_
    refine j_cvI (na := 1) C dX3_readPerson_24 27 rfl (c_X3_tookName__beat τ a bs tz so_4 fr_4 tt_4 ft_4 (by assumption) (by assumption) (by assumption)) gX3_readPerson_X3_tookName rfl rfl rfl qd_X3_tookName__beat rfl ⟨by decide, by decide⟩ ⟨by decide, by decide⟩ rfl (Nat.le_of_ble_eq_true rfl) [0, 1] [2, 3, 4, 5, 6, 7, 8] [7, 8, 0, 1, 2, 3, 4, 5, 6] ((wT τ b lw kd bt ph cn no ct sc rn lg dn zz)) rfl (by decide) rfl (by decide) (by decide) 3 0 rfl rfl (fun u => ((wP τ a bs tz u.1 u.2.1 u.2.2 ft_4) ++ (wT τ b lw kd bt ph cn no ct sc rn lg dn zz))) (fun _ => rfl) (by decide) (fun r5 u5 hX5 hn5 => ?_)
    obtain ⟨so_5, fr_5, tt_5⟩ := u5
    rw [hX5] at hR; rw [pr4_mk r5 so_5 fr_5 tt_5] at hR
    obtain ⟨hf5, ht5⟩ := td_TN_beat hX5 (by assumption) (by assumption) (by assumption)
    have J27 : ∀ (j27_0 : Int32) (j27_1 : Int32) (j27_2 : Int32) (j27_3 : Int32) (j27_4 : Int32), (TN j27_2) → (TN j27_3) → RtV τ κ cX3_readPerson 0 0 (fun u : Int32 × Int32 × Int32 × Int32 × (Nat → Int32) × (Nat → Int32) × (Nat → Int32) × (Nat → Int32) × (Nat → Int32) × Int32 => ((wP τ a bs tz u.1 u.2.1 u.2.2.1 u.2.2.2.1) ++ (wT τ b lw u.2.2.2.2.1 u.2.2.2.2.2.1 u.2.2.2.2.2.2.1 u.2.2.2.2.2.2.2.1 u.2.2.2.2.2.2.2.2.1 u.2.2.2.2.2.2.2.2.2 sc rn lg dn zz))) (pr4 (f_X3_tookName__phase bs tz j27_1 j27_2 j27_3 j27_4) (fun r8 so_8 fr_8 tt_8 => pr5 (if (r8 = 0) then ((0 : Int32), so_8, fr_8, tt_8, j27_4) else (pr5 (f_X3_takeNumber bs tz so_8 fr_8 tt_8 j27_4 (0 : Int32) (8 : Int32)) (fun r10 so_10 fr_10 tt_10 ft_10 => (r10, so_10, fr_10, tt_10, ft_10)))) (fun j49_0 j49_1 j49_2 j49_3 j49_4 => pr4 (f_X3_takeSemicolon bs tz j49_1 j49_2 j49_3 j49_4) (fun so_11 fr_11 tt_11 ft_11 => pr6 (f_X4_add kd bt ph cn no ct x2 j27_0 j49_0 r4) (fun kd_12 bt_12 ph_12 cn_12 no_12 ct_12 => (so_11, fr_11, tt_11, ft_11, kd_12, bt_12, ph_12, cn_12, no_12, ct_12)))))) → J τ κ 0 0 ((wP τ a bs tz j27_1 j27_2 j27_3 j27_4) ++ (wT τ b lw kd bt ph cn no ct sc rn lg dn zz)) [(0, .ref (a 0)), (1, .ref (b 0)), (2, .int x2), (3, .int r4)] 41 [.int j27_0] := by
      intro j27_0 j27_1 j27_2 j27_3 j27_4 hjf hjt hR
      refine j_istore C dX3_readPerson_41 43 rfl (by decide) [(4, .int j27_0), (0, .ref (a 0)), (1, .ref (b 0)), (2, .int x2), (3, .int r4)] rfl ?_
      refine j_aload_n C dX3_readPerson_43 44 rfl rfl 1 rfl ?_
      refine j_ldcS (i := 12) C rfl dX3_readPerson_44 46 rfl ?_
      refine j_cvI (na := 1) C dX3_readPerson_46 49 rfl (c_X3_tookName__phase τ a bs tz j27_1 j27_2 j27_3 j27_4 (by assumption) (by assumption) (by assumption)) gX3_readPerson_X3_tookName rfl rfl rfl qd_X3_tookName__phase rfl ⟨by decide, by decide⟩ ⟨by decide, by decide⟩ rfl (Nat.le_of_ble_eq_true rfl) [0, 1] [2, 3, 4, 5, 6, 7, 8] [7, 8, 0, 1, 2, 3, 4, 5, 6] ((wT τ b lw kd bt ph cn no ct sc rn lg dn zz)) rfl (by decide) rfl (by decide) (by decide) 3 0 rfl rfl (fun u => ((wP τ a bs tz u.1 u.2.1 u.2.2 j27_4) ++ (wT τ b lw kd bt ph cn no ct sc rn lg dn zz))) (fun _ => rfl) (by decide) (fun r8 u8 hX8 hn8 => ?_)
      obtain ⟨so_8, fr_8, tt_8⟩ := u8
      rw [hX8] at hR; rw [pr4_mk r8 so_8 fr_8 tt_8] at hR
      obtain ⟨hf8, ht8⟩ := td_TN_phase hX8 (by assumption) (by assumption) (by assumption)
      have J49 : ∀ (j49_0 : Int32) (j49_1 : Int32) (j49_2 : Int32) (j49_3 : Int32) (j49_4 : Int32), (TN j49_2) → (TN j49_3) → RtV τ κ cX3_readPerson 0 0 (fun u : Int32 × Int32 × Int32 × Int32 × (Nat → Int32) × (Nat → Int32) × (Nat → Int32) × (Nat → Int32) × (Nat → Int32) × Int32 => ((wP τ a bs tz u.1 u.2.1 u.2.2.1 u.2.2.2.1) ++ (wT τ b lw u.2.2.2.2.1 u.2.2.2.2.2.1 u.2.2.2.2.2.2.1 u.2.2.2.2.2.2.2.1 u.2.2.2.2.2.2.2.2.1 u.2.2.2.2.2.2.2.2.2 sc rn lg dn zz))) (pr4 (f_X3_takeSemicolon bs tz j49_1 j49_2 j49_3 j49_4) (fun so_11 fr_11 tt_11 ft_11 => pr6 (f_X4_add kd bt ph cn no ct x2 j27_0 j49_0 r4) (fun kd_12 bt_12 ph_12 cn_12 no_12 ct_12 => (so_11, fr_11, tt_11, ft_11, kd_12, bt_12, ph_12, cn_12, no_12, ct_12)))) → J τ κ 0 0 ((wP τ a bs tz j49_1 j49_2 j49_3 j49_4) ++ (wT τ b lw kd bt ph cn no ct sc rn lg dn zz)) [(0, .ref (a 0)), (1, .ref (b 0)), (2, .int x2), (3, .int r4), (4, .int j27_0)] 63 [.int j49_0] := by
        intro j49_0 j49_1 j49_2 j49_3 j49_4 hkf hkt hR
        refine j_istore C dX3_readPerson_63 65 rfl (by decide) [(5, .int j49_0), (0, .ref (a 0)), (1, .ref (b 0)), (2, .int x2), (3, .int r4), (4, .int j27_0)] rfl ?_
        refine j_aload_n C dX3_readPerson_65 66 rfl rfl 1 rfl ?_
        refine j_cvV (na := 0) C dX3_readPerson_66 69 rfl (c_X3_takeSemicolon τ a bs tz j49_1 j49_2 j49_3 j49_4 (by assumption) (by assumption) (by assumption)) gX3_readPerson_X3_takeSemicolon rfl rfl rfl qd_X3_takeSemicolon rfl ⟨by decide, by decide⟩ ⟨by decide, by decide⟩ rfl (Nat.le_of_ble_eq_true rfl) [0, 1] [2, 3, 4, 5, 6, 7, 8] [7, 8, 0, 1, 2, 3, 4, 5, 6] ((wT τ b lw kd bt ph cn no ct sc rn lg dn zz)) rfl (by decide) rfl (by decide) (by decide) 3 0 rfl rfl (fun u => ((wP τ a bs tz u.1 u.2.1 u.2.2.1 u.2.2.2) ++ (wT τ b lw kd bt ph cn no ct sc rn lg dn zz))) (fun _ => rfl) (by decide) (fun u11 hX11 => ?_)
        obtain ⟨so_11, fr_11, tt_11, ft_11⟩ := u11
        rw [hX11] at hR; rw [pr4_mk so_11 fr_11 tt_11 ft_11] at hR
        obtain ⟨hf11, ht11⟩ := sc_TN hX11 (by assumption) (by assumption) (by assumption)
        refine j_aload_n C dX3_readPerson_69 70 rfl rfl 2 rfl ?_
        refine j_iload_n C dX3_readPerson_70 71 rfl rfl 3 rfl ?_
        refine j_iload C dX3_readPerson_71 73 rfl 5 rfl ?_
        refine j_iload C dX3_readPerson_73 75 rfl 0 rfl ?_
        refine j_iload_n C dX3_readPerson_75 76 rfl rfl 4 rfl ?_
        refine j_cvV (na := 4) C dX3_readPerson_76 79 rfl (c_X4_add τ b lw kd bt ph cn no ct sc rn lg dn zz x2 j27_0 j49_0 r4 (by assumption)) gX3_readPerson_X4_add rfl rfl rfl qd_X4_add rfl ⟨by decide, by decide⟩ ⟨by decide, by decide⟩ rfl (Nat.le_of_ble_eq_true rfl) [2, 3, 4, 5, 6, 7, 8] [0, 1] [0, 1, 2, 3, 4, 5, 6, 7, 8] ((wP τ a bs tz so_11 fr_11 tt_11 ft_11)) rfl (by decide) rfl (by decide) (by decide) 4 0 rfl rfl (fun u => ((wP τ a bs tz so_11 fr_11 tt_11 ft_11) ++ (wT τ b lw u.1 u.2.1 u.2.2.1 u.2.2.2.1 u.2.2.2.2.1 u.2.2.2.2.2 sc rn lg dn zz))) (fun _ => rfl) (by decide) (fun u12 hX12 => ?_)
        obtain ⟨kd_12, bt_12, ph_12, cn_12, no_12, ct_12⟩ := u12
        rw [hX12] at hR; rw [pr6_mk kd_12 bt_12 ph_12 cn_12 no_12 ct_12] at hR
        exact hR _ _ dX3_readPerson_79
      refine j_if_eq C dX3_readPerson_49 62 rfl 52 rfl (fun c9 => ?_) (fun c9 => ?_)
      · rw [if_pos c9] at hR
        refine j_iconst (v := 0) C dX3_readPerson_62 63 rfl (by decide) ?_
        rw [pr5_mk (0 : Int32) so_8 fr_8 tt_8 j27_4] at hR
        exact j_lv [1, 2, 3, 4, 0] [(0, .ref (a 0)), (1, .ref (b 0)), (2, .int x2), (3, .int r4), (4, .int j27_0)] rfl (J49 _ _ _ _ _ (by assumption) (by assumption) hR)
      · rw [if_neg c9] at hR
        refine j_aload_n C dX3_readPerson_52 53 rfl rfl 1 rfl ?_
        refine j_iconst (v := 0) C dX3_readPerson_53 54 rfl (by decide) ?_
        refine j_bipush (v := 8) C dX3_readPerson_54 56 rfl (by decide) ?_
        refine j_cvI (na := 2) C dX3_readPerson_56 59 rfl (c_X3_takeNumber τ a bs tz so_8 fr_8 tt_8 j27_4 (0 : Int32) (8 : Int32) (by assumption) (by assumption) (by assumption)) gX3_readPerson_X3_takeNumber rfl rfl rfl qd_X3_takeNumber rfl ⟨by decide, by decide⟩ ⟨by decide, by decide⟩ rfl (Nat.le_of_ble_eq_true rfl) [0, 1] [2, 3, 4, 5, 6, 7, 8] [7, 8, 0, 1, 2, 3, 4, 5, 6] ((wT τ b lw kd bt ph cn no ct sc rn lg dn zz)) rfl (by decide) rfl (by decide) (by decide) 3 0 rfl rfl (fun u => ((wP τ a bs tz u.1 u.2.1 u.2.2.1 u.2.2.2) ++ (wT τ b lw kd bt ph cn no ct sc rn lg dn zz))) (fun _ => rfl) (by decide) (fun r10 u10 hX10 hn10 => ?_)
        obtain ⟨so_10, fr_10, tt_10, ft_10⟩ := u10
        rw [hX10] at hR; rw [pr5_mk r10 so_10 fr_10 tt_10 ft_10] at hR
        obtain ⟨hf10, ht10⟩ := tn_TN hX10 (by assumption) (by assumption) (by assumption)
        refine j_goto C dX3_readPerson_59 63 rfl ?_
        rw [pr5_mk r10 so_10 fr_10 tt_10 ft_10] at hR
        exact j_lv [1, 2, 3, 4, 0] [(0, .ref (a 0)), (1, .ref (b 0)), (2, .int x2), (3, .int r4), (4, .int j27_0)] rfl (J49 _ _ _ _ _ (by assumption) (by assumption) hR)
    refine j_if_eq C dX3_readPerson_27 40 rfl 30 rfl (fun c6 => ?_) (fun c6 => ?_)
    · rw [if_pos c6] at hR
      refine j_iconst (v := 5) C dX3_readPerson_40 41 rfl (by decide) ?_
      rw [pr5_mk (5 : Int32) so_5 fr_5 tt_5 ft_4] at hR
      exact j_lv [1, 2, 3, 0] [(0, .ref (a 0)), (1, .ref (b 0)), (2, .int x2), (3, .int r4)] rfl (J27 _ _ _ _ _ (by assumption) (by assumption) hR)
    · rw [if_neg c6] at hR
      refine j_aload_n C dX3_readPerson_30 31 rfl rfl 1 rfl ?_
      refine j_iconst (v := 1) C dX3_readPerson_31 32 rfl (by decide) ?_
      refine j_bipush (v := 9) C dX3_readPerson_32 34 rfl (by decide) ?_
      refine j_cvI (na := 2) C dX3_readPerson_34 37 rfl (c_X3_takeNumber τ a bs tz so_5 fr_5 tt_5 ft_4 (1 : Int32) (9 : Int32) (by assumption) (by assumption) (by assumption)) gX3_readPerson_X3_takeNumber rfl rfl rfl qd_X3_takeNumber rfl ⟨by decide, by decide⟩ ⟨by decide, by decide⟩ rfl (Nat.le_of_ble_eq_true rfl) [0, 1] [2, 3, 4, 5, 6, 7, 8] [7, 8, 0, 1, 2, 3, 4, 5, 6] ((wT τ b lw kd bt ph cn no ct sc rn lg dn zz)) rfl (by decide) rfl (by decide) (by decide) 3 0 rfl rfl (fun u => ((wP τ a bs tz u.1 u.2.1 u.2.2.1 u.2.2.2) ++ (wT τ b lw kd bt ph cn no ct sc rn lg dn zz))) (fun _ => rfl) (by decide) (fun r7 u7 hX7 hn7 => ?_)
      obtain ⟨so_7, fr_7, tt_7, ft_7⟩ := u7
      rw [hX7] at hR; rw [pr5_mk r7 so_7 fr_7 tt_7 ft_7] at hR
      obtain ⟨hf7, ht7⟩ := tn_TN hX7 (by assumption) (by assumption) (by assumption)
      refine j_goto C dX3_readPerson_37 41 rfl ?_
      rw [pr5_mk r7 so_7 fr_7 tt_7 ft_7] at hR
      exact j_lv [1, 2, 3, 0] [(0, .ref (a 0)), (1, .ref (b 0)), (2, .int x2), (3, .int r4)] rfl (J27 _ _ _ _ _ (by assumption) (by assumption) hR)
  refine j_if_ne C dX3_readPerson_6 13 rfl 9 rfl (fun c2 => ?_) (fun c2 => ?_)
  · rw [if_neg c2] at hR
    rw [pr1_mk ft] at hR
    exact j_lv [0, 1, 2] [(0, .ref (a 0)), (1, .ref (b 0)), (2, .int x2)] rfl (J6 _  hR)
  · rw [if_pos c2] at hR
    refine j_aload_n C dX3_readPerson_9 10 rfl rfl 0 rfl ?_
    refine j_cvV (na := 0) C dX3_readPerson_10 13 rfl (c_X3_fail τ a bs tz so_1 fr_1 tt_1 ft ) gX3_readPerson_X3_fail rfl rfl rfl qd_X3_fail rfl ⟨by decide, by decide⟩ ⟨by decide, by decide⟩ rfl (Nat.le_of_ble_eq_true rfl) [0, 1] [2, 3, 4, 5, 6, 7, 8] [7, 8, 0, 1, 2, 3, 4, 5, 6] ((wT τ b lw kd bt ph cn no ct sc rn lg dn zz)) rfl (by decide) rfl (by decide) (by decide) 3 0 rfl rfl (fun u => ((wP τ a bs tz so_1 fr_1 tt_1 u) ++ (wT τ b lw kd bt ph cn no ct sc rn lg dn zz))) (fun _ => rfl) (by decide) (fun u3 hX3 => ?_)
    obtain ⟨ft_3, rfl⟩ : ∃ z, z = u3 := ⟨_, rfl⟩
    rw [hX3] at hR; rw [pr1_mk ft_3] at hR
    rw [pr1_mk ft_3] at hR
    exact j_lv [0, 1, 2] [(0, .ref (a 0)), (1, .ref (b 0)), (2, .int x2)] rfl (J6 _  hR)

