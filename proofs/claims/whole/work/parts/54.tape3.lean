-- X3_takeNamed
def f_X3_takeNamed__beat (bs : Nat → Int32) (tz : Int32) (so : Int32) (fr : Int32) (tt : Int32) (ft : Int32) (x2 : Int32) (x3 : Int32) (x4 : Int32) : Int32 × Int32 × Int32 × Int32 × Int32 := if (ft = (-1)) then (if ((f_X3_isName__n11 bs tz so fr tt) = 0) then (x4, so, fr, tt, ft) else (pr3 (f_X3_readSign bs tz tt) (fun so_4 fr_4 tt_4 => pr5 (f_X3_takeNumber bs tz so_4 fr_4 tt_4 ft x2 x3) (fun r5 so_5 fr_5 tt_5 ft_5 => (r5, so_5, fr_5, tt_5, ft_5))))) else (x4, so, fr, tt, ft)
theorem kX3_takeNamed__beat_f19 : Cond.fieldLink RX3 19 "TwoMinutes$Tape" "fault" "I" ∈ wsX3_takeNamed := by decide +kernel
theorem qd_X3_takeNamed__beat : yX3_takeNamed.cls = RX3 ∧ yX3_takeNamed.cls ≠ "java/lang/invoke/MethodHandle" ∧ yX3_takeNamed.cls ≠ "java/lang/invoke/VarHandle" ∧ (parseMethodDescriptor yX3_takeNamed.desc).map (fun d => d.parameters.length) = some 4 := by decide +kernel
abbrev rmX3_takeNamed__beat : Room := { frames := 5, cells := 0, slots := 0, locals := 107 }
set_option maxHeartbeats 4000000 in
set_option maxRecDepth 100000 in
theorem c_X3_takeNamed__beat (τ : SX) (a : Nat → Nat) (bs : Nat → Int32) (tz : Int32) (so : Int32) (fr : Int32) (tt : Int32) (ft : Int32) (x2 : Int32) (x3 : Int32) (x4 : Int32) (hn : TN tz) (hf : TN fr) (ht : TN tt) (sz : Nat) : McI τ yX3_takeNamed wsX3_takeNamed rmX3_takeNamed__beat .int [.ref (a 0), .ref (τ.2.2.2 (100 + 11)), .int x2, .int x3, .int x4] (wP τ a bs tz so fr tt ft) (fun u : Int32 × Int32 × Int32 × Int32 => (wP τ a bs tz u.1 u.2.1 u.2.2.1 u.2.2.2)) (f_X3_takeNamed__beat bs tz so fr tt ft x2 x3 x4) sz := by
  refine mc_I (cc := cX3_takeNamed) (own := RX3) [(0, .ref (a 0)), (1, .ref (τ.2.2.2 (100 + 11))), (2, .int x2), (3, .int x3), (4, .int x4)] rfl (by decide) rfl rfl (Nat.le_of_ble_eq_true rfl) (fun κ C hR => ?_)
  have hiX3 : ∀ w ∈ wsX30, w ∈ wsX3_takeNamed := fun w h => List.mem_cons_of_mem _ (List.mem_append_right _ h)
  unfold f_X3_takeNamed__beat at hR
  refine j_aload_n C dX3_takeNamed_0 1 rfl rfl 0 rfl ?_
  refine j_get C dX3_takeNamed_1 4 rfl hiX3 0 rfl rfl 5 (by decide) rfl kX3_takeNamed__beat_f19 rfl ?_
  refine j_iconst (v := (-1)) C dX3_takeNamed_4 5 rfl (by decide) ?_
  refine j_icmp_ne C dX3_takeNamed_5 16 rfl 8 rfl (fun c1 => ?_) (fun c1 => ?_)
  · rw [if_neg c1] at hR
    refine j_iload C dX3_takeNamed_16 18 rfl 4 rfl ?_
    exact Rt.ret (hR) rfl dX3_takeNamed_18
  · rw [if_pos c1] at hR
    refine j_aload_n C dX3_takeNamed_8 9 rfl rfl 0 rfl ?_
    refine j_aload_n C dX3_takeNamed_9 10 rfl rfl 1 rfl ?_
    refine j_cv0I (na := 1) C dX3_takeNamed_10 13 rfl (c_X3_isName__n11 τ a bs tz so fr tt ft (by assumption) (by assumption) (by assumption)) gX3_takeNamed_X3_isName rfl rfl rfl qd_X3_isName__n11 rfl ⟨by decide, by decide⟩ ⟨by decide, by decide⟩ rfl (Nat.le_of_ble_eq_true rfl) rfl 3 0 rfl rfl (fun r2 u2 hX2 hn2 => ?_)
    obtain rfl := (Prod.mk.inj hX2).1
    refine j_if_ne C dX3_takeNamed_13 19 rfl 16 rfl (fun c3 => ?_) (fun c3 => ?_)
    · rw [if_neg c3] at hR
      refine j_aload_n C dX3_takeNamed_19 20 rfl rfl 0 rfl ?_
      refine j_cv0V (na := 0) C dX3_takeNamed_20 23 rfl (c_X3_readSign τ a bs tz so fr tt ft (by assumption) (by assumption)) gX3_takeNamed_X3_readSign rfl rfl rfl qd_X3_readSign rfl ⟨by decide, by decide⟩ ⟨by decide, by decide⟩ rfl (Nat.le_of_ble_eq_true rfl) rfl 3 0 rfl rfl (fun u4 hX4 => ?_)
      obtain ⟨so_4, fr_4, tt_4⟩ := u4
      rw [hX4] at hR; rw [pr3_mk so_4 fr_4 tt_4] at hR
      obtain ⟨hf4, ht4⟩ := rs_TN hX4 (by assumption) (by assumption)
      refine j_aload_n C dX3_takeNamed_23 24 rfl rfl 0 rfl ?_
      refine j_iload_n C dX3_takeNamed_24 25 rfl rfl 2 rfl ?_
      refine j_iload_n C dX3_takeNamed_25 26 rfl rfl 3 rfl ?_
      refine j_cv0I (na := 2) C dX3_takeNamed_26 29 rfl (c_X3_takeNumber τ a bs tz so_4 fr_4 tt_4 ft x2 x3 (by assumption) (by assumption) (by assumption)) gX3_takeNamed_X3_takeNumber rfl rfl rfl qd_X3_takeNumber rfl ⟨by decide, by decide⟩ ⟨by decide, by decide⟩ rfl (Nat.le_of_ble_eq_true rfl) rfl 3 0 rfl rfl (fun r5 u5 hX5 hn5 => ?_)
      obtain ⟨so_5, fr_5, tt_5, ft_5⟩ := u5
      rw [hX5] at hR; rw [pr5_mk r5 so_5 fr_5 tt_5 ft_5] at hR
      obtain ⟨hf5, ht5⟩ := tn_TN hX5 (by assumption) (by assumption) (by assumption)
      exact Rt.ret (hR) rfl dX3_takeNamed_29
    · rw [if_pos c3] at hR
      refine j_iload C dX3_takeNamed_16 18 rfl 4 rfl ?_
      exact Rt.ret (hR) rfl dX3_takeNamed_18

theorem td_TN_beat {bs : Nat → Int32} {n so fr tt ft x y z r k f t g : Int32} (e : f_X3_takeNamed__beat bs n so fr tt ft x y z = (r, k, f, t, g)) (hn : TN n) (hf : TN fr) (ht : TN tt) : TN f ∧ TN t := by
  unfold f_X3_takeNamed__beat at e
  by_cases c : ft = -1
  · rw [if_pos c] at e
    split at e
    · simp only [Prod.mk.injEq] at e
      obtain ⟨_, _, e3, e4, _⟩ := e
      exact ⟨e3 ▸ hf, e4 ▸ ht⟩
    · have h := rs_TN (bs := bs) (n := n) (t := tt) (k := (f_X3_readSign bs n tt).1) (f := (f_X3_readSign bs n tt).2.1) (t2 := (f_X3_readSign bs n tt).2.2) rfl hn ht
      generalize f_X3_readSign bs n tt = p at h e
      obtain ⟨p0, p1, p2⟩ := p
      have h' : TN p1 ∧ TN p2 := h
      rw [pr3_mk] at e
      have h2 := tn_TN (bs := bs) (n := n) (so := p0) (fr := p1) (tt := p2) (ft := ft) (x := x) (y := y) (r := (f_X3_takeNumber bs n p0 p1 p2 ft x y).1) (k := (f_X3_takeNumber bs n p0 p1 p2 ft x y).2.1) (f := (f_X3_takeNumber bs n p0 p1 p2 ft x y).2.2.1) (t := (f_X3_takeNumber bs n p0 p1 p2 ft x y).2.2.2.1) (g := (f_X3_takeNumber bs n p0 p1 p2 ft x y).2.2.2.2) rfl hn h'.1 h'.2
      generalize f_X3_takeNumber bs n p0 p1 p2 ft x y = q at h2 e
      obtain ⟨q0, q1, q2, q3, q4⟩ := q
      have h2' : TN q2 ∧ TN q3 := h2
      rw [pr5_mk] at e
      simp only [Prod.mk.injEq] at e
      obtain ⟨_, _, e3, e4, _⟩ := e
      exact ⟨e3 ▸ h2'.1, e4 ▸ h2'.2⟩
  · rw [if_neg c] at e
    simp only [Prod.mk.injEq] at e
    obtain ⟨_, _, e3, e4, _⟩ := e
    exact ⟨e3 ▸ hf, e4 ▸ ht⟩

-- X3_takeNamed
def f_X3_takeNamed__phase (bs : Nat → Int32) (tz : Int32) (so : Int32) (fr : Int32) (tt : Int32) (ft : Int32) (x2 : Int32) (x3 : Int32) (x4 : Int32) : Int32 × Int32 × Int32 × Int32 × Int32 := if (ft = (-1)) then (if ((f_X3_isName__n12 bs tz so fr tt) = 0) then (x4, so, fr, tt, ft) else (pr3 (f_X3_readSign bs tz tt) (fun so_4 fr_4 tt_4 => pr5 (f_X3_takeNumber bs tz so_4 fr_4 tt_4 ft x2 x3) (fun r5 so_5 fr_5 tt_5 ft_5 => (r5, so_5, fr_5, tt_5, ft_5))))) else (x4, so, fr, tt, ft)
theorem kX3_takeNamed__phase_f19 : Cond.fieldLink RX3 19 "TwoMinutes$Tape" "fault" "I" ∈ wsX3_takeNamed := by decide +kernel
theorem qd_X3_takeNamed__phase : yX3_takeNamed.cls = RX3 ∧ yX3_takeNamed.cls ≠ "java/lang/invoke/MethodHandle" ∧ yX3_takeNamed.cls ≠ "java/lang/invoke/VarHandle" ∧ (parseMethodDescriptor yX3_takeNamed.desc).map (fun d => d.parameters.length) = some 4 := by decide +kernel
abbrev rmX3_takeNamed__phase : Room := { frames := 5, cells := 0, slots := 0, locals := 107 }
set_option maxHeartbeats 4000000 in
set_option maxRecDepth 100000 in
theorem c_X3_takeNamed__phase (τ : SX) (a : Nat → Nat) (bs : Nat → Int32) (tz : Int32) (so : Int32) (fr : Int32) (tt : Int32) (ft : Int32) (x2 : Int32) (x3 : Int32) (x4 : Int32) (hn : TN tz) (hf : TN fr) (ht : TN tt) (sz : Nat) : McI τ yX3_takeNamed wsX3_takeNamed rmX3_takeNamed__phase .int [.ref (a 0), .ref (τ.2.2.2 (100 + 12)), .int x2, .int x3, .int x4] (wP τ a bs tz so fr tt ft) (fun u : Int32 × Int32 × Int32 × Int32 => (wP τ a bs tz u.1 u.2.1 u.2.2.1 u.2.2.2)) (f_X3_takeNamed__phase bs tz so fr tt ft x2 x3 x4) sz := by
  refine mc_I (cc := cX3_takeNamed) (own := RX3) [(0, .ref (a 0)), (1, .ref (τ.2.2.2 (100 + 12))), (2, .int x2), (3, .int x3), (4, .int x4)] rfl (by decide) rfl rfl (Nat.le_of_ble_eq_true rfl) (fun κ C hR => ?_)
  have hiX3 : ∀ w ∈ wsX30, w ∈ wsX3_takeNamed := fun w h => List.mem_cons_of_mem _ (List.mem_append_right _ h)
  unfold f_X3_takeNamed__phase at hR
  refine j_aload_n C dX3_takeNamed_0 1 rfl rfl 0 rfl ?_
  refine j_get C dX3_takeNamed_1 4 rfl hiX3 0 rfl rfl 5 (by decide) rfl kX3_takeNamed__phase_f19 rfl ?_
  refine j_iconst (v := (-1)) C dX3_takeNamed_4 5 rfl (by decide) ?_
  refine j_icmp_ne C dX3_takeNamed_5 16 rfl 8 rfl (fun c1 => ?_) (fun c1 => ?_)
  · rw [if_neg c1] at hR
    refine j_iload C dX3_takeNamed_16 18 rfl 4 rfl ?_
    exact Rt.ret (hR) rfl dX3_takeNamed_18
  · rw [if_pos c1] at hR
    refine j_aload_n C dX3_takeNamed_8 9 rfl rfl 0 rfl ?_
    refine j_aload_n C dX3_takeNamed_9 10 rfl rfl 1 rfl ?_
    refine j_cv0I (na := 1) C dX3_takeNamed_10 13 rfl (c_X3_isName__n12 τ a bs tz so fr tt ft (by assumption) (by assumption) (by assumption)) gX3_takeNamed_X3_isName rfl rfl rfl qd_X3_isName__n12 rfl ⟨by decide, by decide⟩ ⟨by decide, by decide⟩ rfl (Nat.le_of_ble_eq_true rfl) rfl 3 0 rfl rfl (fun r2 u2 hX2 hn2 => ?_)
    obtain rfl := (Prod.mk.inj hX2).1
    refine j_if_ne C dX3_takeNamed_13 19 rfl 16 rfl (fun c3 => ?_) (fun c3 => ?_)
    · rw [if_neg c3] at hR
      refine j_aload_n C dX3_takeNamed_19 20 rfl rfl 0 rfl ?_
      refine j_cv0V (na := 0) C dX3_takeNamed_20 23 rfl (c_X3_readSign τ a bs tz so fr tt ft (by assumption) (by assumption)) gX3_takeNamed_X3_readSign rfl rfl rfl qd_X3_readSign rfl ⟨by decide, by decide⟩ ⟨by decide, by decide⟩ rfl (Nat.le_of_ble_eq_true rfl) rfl 3 0 rfl rfl (fun u4 hX4 => ?_)
      obtain ⟨so_4, fr_4, tt_4⟩ := u4
      rw [hX4] at hR; rw [pr3_mk so_4 fr_4 tt_4] at hR
      obtain ⟨hf4, ht4⟩ := rs_TN hX4 (by assumption) (by assumption)
      refine j_aload_n C dX3_takeNamed_23 24 rfl rfl 0 rfl ?_
      refine j_iload_n C dX3_takeNamed_24 25 rfl rfl 2 rfl ?_
      refine j_iload_n C dX3_takeNamed_25 26 rfl rfl 3 rfl ?_
      refine j_cv0I (na := 2) C dX3_takeNamed_26 29 rfl (c_X3_takeNumber τ a bs tz so_4 fr_4 tt_4 ft x2 x3 (by assumption) (by assumption) (by assumption)) gX3_takeNamed_X3_takeNumber rfl rfl rfl qd_X3_takeNumber rfl ⟨by decide, by decide⟩ ⟨by decide, by decide⟩ rfl (Nat.le_of_ble_eq_true rfl) rfl 3 0 rfl rfl (fun r5 u5 hX5 hn5 => ?_)
      obtain ⟨so_5, fr_5, tt_5, ft_5⟩ := u5
      rw [hX5] at hR; rw [pr5_mk r5 so_5 fr_5 tt_5 ft_5] at hR
      obtain ⟨hf5, ht5⟩ := tn_TN hX5 (by assumption) (by assumption) (by assumption)
      exact Rt.ret (hR) rfl dX3_takeNamed_29
    · rw [if_pos c3] at hR
      refine j_iload C dX3_takeNamed_16 18 rfl 4 rfl ?_
      exact Rt.ret (hR) rfl dX3_takeNamed_18

theorem td_TN_phase {bs : Nat → Int32} {n so fr tt ft x y z r k f t g : Int32} (e : f_X3_takeNamed__phase bs n so fr tt ft x y z = (r, k, f, t, g)) (hn : TN n) (hf : TN fr) (ht : TN tt) : TN f ∧ TN t := by
  unfold f_X3_takeNamed__phase at e
  by_cases c : ft = -1
  · rw [if_pos c] at e
    split at e
    · simp only [Prod.mk.injEq] at e
      obtain ⟨_, _, e3, e4, _⟩ := e
      exact ⟨e3 ▸ hf, e4 ▸ ht⟩
    · have h := rs_TN (bs := bs) (n := n) (t := tt) (k := (f_X3_readSign bs n tt).1) (f := (f_X3_readSign bs n tt).2.1) (t2 := (f_X3_readSign bs n tt).2.2) rfl hn ht
      generalize f_X3_readSign bs n tt = p at h e
      obtain ⟨p0, p1, p2⟩ := p
      have h' : TN p1 ∧ TN p2 := h
      rw [pr3_mk] at e
      have h2 := tn_TN (bs := bs) (n := n) (so := p0) (fr := p1) (tt := p2) (ft := ft) (x := x) (y := y) (r := (f_X3_takeNumber bs n p0 p1 p2 ft x y).1) (k := (f_X3_takeNumber bs n p0 p1 p2 ft x y).2.1) (f := (f_X3_takeNumber bs n p0 p1 p2 ft x y).2.2.1) (t := (f_X3_takeNumber bs n p0 p1 p2 ft x y).2.2.2.1) (g := (f_X3_takeNumber bs n p0 p1 p2 ft x y).2.2.2.2) rfl hn h'.1 h'.2
      generalize f_X3_takeNumber bs n p0 p1 p2 ft x y = q at h2 e
      obtain ⟨q0, q1, q2, q3, q4⟩ := q
      have h2' : TN q2 ∧ TN q3 := h2
      rw [pr5_mk] at e
      simp only [Prod.mk.injEq] at e
      obtain ⟨_, _, e3, e4, _⟩ := e
      exact ⟨e3 ▸ h2'.1, e4 ▸ h2'.2⟩
  · rw [if_neg c] at e
    simp only [Prod.mk.injEq] at e
    obtain ⟨_, _, e3, e4, _⟩ := e
    exact ⟨e3 ▸ hf, e4 ▸ ht⟩

-- X3_readPerson
def f_X3_readPerson (bs : Nat → Int32) (tz : Int32) (so : Int32) (fr : Int32) (tt : Int32) (ft : Int32) (kd : Nat → Int32) (bt : Nat → Int32) (ph : Nat → Int32) (cn : Nat → Int32) (no : Nat → Int32) (ct : Int32) (x2 : Int32) : Int32 × Int32 × Int32 × Int32 × (Nat → Int32) × (Nat → Int32) × (Nat → Int32) × (Nat → Int32) × (Nat → Int32) × Int32 := pr4 (if ((f_X3_isName__n10 bs tz so fr tt) = 0) then (pr1 (f_X3_fail fr ft) (fun ft_3 => (so, fr, tt, ft_3))) else (pr3 (f_X3_readSign bs tz tt) (fun so_4 fr_4 tt_4 => (so_4, fr_4, tt_4, ft)))) (fun j6_0 j6_1 j6_2 j6_3 => pr5 (f_X3_takeNumber bs tz j6_0 j6_1 j6_2 j6_3 (0 : Int32) (11 : Int32)) (fun r5 so_5 fr_5 tt_5 ft_5 => pr5 (f_X3_takeNamed__beat bs tz so_5 fr_5 tt_5 ft_5 (1 : Int32) (9 : Int32) (5 : Int32)) (fun r6 so_6 fr_6 tt_6 ft_6 => pr5 (f_X3_takeNamed__phase bs tz so_6 fr_6 tt_6 ft_6 (0 : Int32) (8 : Int32) (0 : Int32)) (fun r7 so_7 fr_7 tt_7 ft_7 => pr4 (f_X3_takeSemicolon bs tz so_7 fr_7 tt_7 ft_7) (fun so_8 fr_8 tt_8 ft_8 => pr6 (f_X4_add kd bt ph cn no ct x2 r6 r7 r5) (fun kd_9 bt_9 ph_9 cn_9 no_9 ct_9 => (so_8, fr_8, tt_8, ft_8, kd_9, bt_9, ph_9, cn_9, no_9, ct_9)))))))
theorem qd_X3_readPerson : yX3_readPerson.cls = RX3 ∧ yX3_readPerson.cls ≠ "java/lang/invoke/MethodHandle" ∧ yX3_readPerson.cls ≠ "java/lang/invoke/VarHandle" ∧ (parseMethodDescriptor yX3_readPerson.desc).map (fun d => d.parameters.length) = some 2 := by decide +kernel
abbrev rmX3_readPerson : Room := { frames := 6, cells := 0, slots := 0, locals := 131 }
set_option maxHeartbeats 4000000 in
set_option maxRecDepth 100000 in
theorem c_X3_readPerson (τ : SX) (a b : Nat → Nat) (bs : Nat → Int32) (tz : Int32) (so : Int32) (fr : Int32) (tt : Int32) (ft : Int32) (lw : Nat → Int32) (kd : Nat → Int32) (bt : Nat → Int32) (ph : Nat → Int32) (cn : Nat → Int32) (no : Nat → Int32) (ct : Int32) (sc : Int32) (rn : Int32) (lg : Int32) (dn : Int32) (zz : Int32) (x2 : Int32) (hn : TN tz) (hf : TN fr) (ht : TN tt) (hc0 : 0 ≤ ct.toInt) (sz : Nat) : McV τ yX3_readPerson wsX3_readPerson rmX3_readPerson [.ref (a 0), .ref (b 0), .int x2] ((wP τ a bs tz so fr tt ft) ++ (wT τ b lw kd bt ph cn no ct sc rn lg dn zz)) (fun u : Int32 × Int32 × Int32 × Int32 × (Nat → Int32) × (Nat → Int32) × (Nat → Int32) × (Nat → Int32) × (Nat → Int32) × Int32 => ((wP τ a bs tz u.1 u.2.1 u.2.2.1 u.2.2.2.1) ++ (wT τ b lw u.2.2.2.2.1 u.2.2.2.2.2.1 u.2.2.2.2.2.2.1 u.2.2.2.2.2.2.2.1 u.2.2.2.2.2.2.2.2.1 u.2.2.2.2.2.2.2.2.2 sc rn lg dn zz))) (f_X3_readPerson bs tz so fr tt ft kd bt ph cn no ct x2) 0 0 sz := by
  refine mc_V (cc := cX3_readPerson) (own := RX3) [(0, .ref (a 0)), (1, .ref (b 0)), (2, .int x2)] rfl (by decide) rfl rfl (Nat.le_of_ble_eq_true rfl) (fun κ C _ hR => ?_)
  have hiX4 : ∀ w ∈ wsX40, w ∈ wsX3_readPerson := fun w h => List.mem_cons_of_mem _ (List.mem_append_right _ h)
  have hiX3 : ∀ w ∈ wsX30, w ∈ wsX3_readPerson := fun w h => List.mem_cons_of_mem _ (List.mem_append_left _ (List.mem_append_right _ h))
  unfold f_X3_readPerson at hR
  refine j_aload_n C dX3_readPerson_0 1 rfl rfl 0 rfl ?_
  refine j_ldcS (i := 10) C rfl dX3_readPerson_1 3 rfl ?_
  refine j_cvI (na := 1) C dX3_readPerson_3 6 rfl (c_X3_isName__n10 τ a bs tz so fr tt ft (by assumption) (by assumption) (by assumption)) gX3_readPerson_X3_isName rfl rfl rfl qd_X3_isName__n10 rfl ⟨by decide, by decide⟩ ⟨by decide, by decide⟩ rfl (Nat.le_of_ble_eq_true rfl) [0, 1] [2, 3, 4, 5, 6, 7, 8] [7, 8, 0, 1, 2, 3, 4, 5, 6] ((wT τ b lw kd bt ph cn no ct sc rn lg dn zz)) rfl (by decide) rfl (by decide) (by decide) 3 0 rfl rfl (fun u => ((wP τ a bs tz so fr tt ft) ++ (wT τ b lw kd bt ph cn no ct sc rn lg dn zz))) (fun _ => rfl) (by decide) (fun r1 u1 hX1 hn1 => ?_)
  obtain rfl := (Prod.mk.inj hX1).1
  have J6 : ∀ (j6_0 : Int32) (j6_1 : Int32) (j6_2 : Int32) (j6_3 : Int32), (TN j6_1) → (TN j6_2) → RtV τ κ cX3_readPerson 0 0 (fun u : Int32 × Int32 × Int32 × Int32 × (Nat → Int32) × (Nat → Int32) × (Nat → Int32) × (Nat → Int32) × (Nat → Int32) × Int32 => ((wP τ a bs tz u.1 u.2.1 u.2.2.1 u.2.2.2.1) ++ (wT τ b lw u.2.2.2.2.1 u.2.2.2.2.2.1 u.2.2.2.2.2.2.1 u.2.2.2.2.2.2.2.1 u.2.2.2.2.2.2.2.2.1 u.2.2.2.2.2.2.2.2.2 sc rn lg dn zz))) (pr5 (f_X3_takeNumber bs tz j6_0 j6_1 j6_2 j6_3 (0 : Int32) (11 : Int32)) (fun r5 so_5 fr_5 tt_5 ft_5 => pr5 (f_X3_takeNamed__beat bs tz so_5 fr_5 tt_5 ft_5 (1 : Int32) (9 : Int32) (5 : Int32)) (fun r6 so_6 fr_6 tt_6 ft_6 => pr5 (f_X3_takeNamed__phase bs tz so_6 fr_6 tt_6 ft_6 (0 : Int32) (8 : Int32) (0 : Int32)) (fun r7 so_7 fr_7 tt_7 ft_7 => pr4 (f_X3_takeSemicolon bs tz so_7 fr_7 tt_7 ft_7) (fun so_8 fr_8 tt_8 ft_8 => pr6 (f_X4_add kd bt ph cn no ct x2 r6 r7 r5) (fun kd_9 bt_9 ph_9 cn_9 no_9 ct_9 => (so_8, fr_8, tt_8, ft_8, kd_9, bt_9, ph_9, cn_9, no_9, ct_9))))))) → J τ κ 0 0 ((wP τ a bs tz j6_0 j6_1 j6_2 j6_3) ++ (wT τ b lw kd bt ph cn no ct sc rn lg dn zz)) [(0, .ref (a 0)), (1, .ref (b 0)), (2, .int x2)] 20 [] := by
    intro j6_0 j6_1 j6_2 j6_3 hjf hjt hR
    refine j_aload_n C dX3_readPerson_20 21 rfl rfl 0 rfl ?_
    refine j_iconst (v := 0) C dX3_readPerson_21 22 rfl (by decide) ?_
    refine j_bipush (v := 11) C dX3_readPerson_22 24 rfl (by decide) ?_
    refine j_cvI (na := 2) C dX3_readPerson_24 27 rfl (c_X3_takeNumber τ a bs tz j6_0 j6_1 j6_2 j6_3 (0 : Int32) (11 : Int32) (by assumption) (by assumption) (by assumption)) gX3_readPerson_X3_takeNumber rfl rfl rfl qd_X3_takeNumber rfl ⟨by decide, by decide⟩ ⟨by decide, by decide⟩ rfl (Nat.le_of_ble_eq_true rfl) [0, 1] [2, 3, 4, 5, 6, 7, 8] [7, 8, 0, 1, 2, 3, 4, 5, 6] ((wT τ b lw kd bt ph cn no ct sc rn lg dn zz)) rfl (by decide) rfl (by decide) (by decide) 3 0 rfl rfl (fun u => ((wP τ a bs tz u.1 u.2.1 u.2.2.1 u.2.2.2) ++ (wT τ b lw kd bt ph cn no ct sc rn lg dn zz))) (fun _ => rfl) (by decide) (fun r5 u5 hX5 hn5 => ?_)
    obtain ⟨so_5, fr_5, tt_5, ft_5⟩ := u5
    rw [hX5] at hR; rw [pr5_mk r5 so_5 fr_5 tt_5 ft_5] at hR
    obtain ⟨hf5, ht5⟩ := tn_TN hX5 (by assumption) (by assumption) (by assumption)
    refine j_istore_n C dX3_readPerson_27 28 rfl rfl (by decide) [(3, .int r5), (0, .ref (a 0)), (1, .ref (b 0)), (2, .int x2)] rfl ?_
    refine j_aload_n C dX3_readPerson_28 29 rfl rfl 1 rfl ?_
    refine j_ldcS (i := 11) C rfl dX3_readPerson_29 31 rfl ?_
    refine j_iconst (v := 1) C dX3_readPerson_31 32 rfl (by decide) ?_
    refine j_bipush (v := 9) C dX3_readPerson_32 34 rfl (by decide) ?_
    refine j_iconst (v := 5) C dX3_readPerson_34 35 rfl (by decide) ?_
    refine j_cvI (na := 4) C dX3_readPerson_35 38 rfl (c_X3_takeNamed__beat τ a bs tz so_5 fr_5 tt_5 ft_5 (1 : Int32) (9 : Int32) (5 : Int32) (by assumption) (by assumption) (by assumption)) gX3_readPerson_X3_takeNamed rfl rfl rfl qd_X3_takeNamed__beat rfl ⟨by decide, by decide⟩ ⟨by decide, by decide⟩ rfl (Nat.le_of_ble_eq_true rfl) [0, 1] [2, 3, 4, 5, 6, 7, 8] [7, 8, 0, 1, 2, 3, 4, 5, 6] ((wT τ b lw kd bt ph cn no ct sc rn lg dn zz)) rfl (by decide) rfl (by decide) (by decide) 3 0 rfl rfl (fun u => ((wP τ a bs tz u.1 u.2.1 u.2.2.1 u.2.2.2) ++ (wT τ b lw kd bt ph cn no ct sc rn lg dn zz))) (fun _ => rfl) (by decide) (fun r6 u6 hX6 hn6 => ?_)
    obtain ⟨so_6, fr_6, tt_6, ft_6⟩ := u6
    rw [hX6] at hR; rw [pr5_mk r6 so_6 fr_6 tt_6 ft_6] at hR
    obtain ⟨hf6, ht6⟩ := td_TN_beat hX6 (by assumption) (by assumption) (by assumption)
    refine j_istore C dX3_readPerson_38 40 rfl (by decide) [(4, .int r6), (3, .int r5), (0, .ref (a 0)), (1, .ref (b 0)), (2, .int x2)] rfl ?_
    refine j_aload_n C dX3_readPerson_40 41 rfl rfl 2 rfl ?_
    refine j_ldcS (i := 12) C rfl dX3_readPerson_41 43 rfl ?_
    refine j_iconst (v := 0) C dX3_readPerson_43 44 rfl (by decide) ?_
    refine j_bipush (v := 8) C dX3_readPerson_44 46 rfl (by decide) ?_
    refine j_iconst (v := 0) C dX3_readPerson_46 47 rfl (by decide) ?_
    refine j_cvI (na := 4) C dX3_readPerson_47 50 rfl (c_X3_takeNamed__phase τ a bs tz so_6 fr_6 tt_6 ft_6 (0 : Int32) (8 : Int32) (0 : Int32) (by assumption) (by assumption) (by assumption)) gX3_readPerson_X3_takeNamed rfl rfl rfl qd_X3_takeNamed__phase rfl ⟨by decide, by decide⟩ ⟨by decide, by decide⟩ rfl (Nat.le_of_ble_eq_true rfl) [0, 1] [2, 3, 4, 5, 6, 7, 8] [7, 8, 0, 1, 2, 3, 4, 5, 6] ((wT τ b lw kd bt ph cn no ct sc rn lg dn zz)) rfl (by decide) rfl (by decide) (by decide) 3 0 rfl rfl (fun u => ((wP τ a bs tz u.1 u.2.1 u.2.2.1 u.2.2.2) ++ (wT τ b lw kd bt ph cn no ct sc rn lg dn zz))) (fun _ => rfl) (by decide) (fun r7 u7 hX7 hn7 => ?_)
    obtain ⟨so_7, fr_7, tt_7, ft_7⟩ := u7
    rw [hX7] at hR; rw [pr5_mk r7 so_7 fr_7 tt_7 ft_7] at hR
    obtain ⟨hf7, ht7⟩ := td_TN_phase hX7 (by assumption) (by assumption) (by assumption)
    refine j_istore C dX3_readPerson_50 52 rfl (by decide) [(5, .int r7), (4, .int r6), (3, .int r5), (0, .ref (a 0)), (1, .ref (b 0)), (2, .int x2)] rfl ?_
    refine j_aload_n C dX3_readPerson_52 53 rfl rfl 3 rfl ?_
    refine j_cvV (na := 0) C dX3_readPerson_53 56 rfl (c_X3_takeSemicolon τ a bs tz so_7 fr_7 tt_7 ft_7 (by assumption) (by assumption) (by assumption)) gX3_readPerson_X3_takeSemicolon rfl rfl rfl qd_X3_takeSemicolon rfl ⟨by decide, by decide⟩ ⟨by decide, by decide⟩ rfl (Nat.le_of_ble_eq_true rfl) [0, 1] [2, 3, 4, 5, 6, 7, 8] [7, 8, 0, 1, 2, 3, 4, 5, 6] ((wT τ b lw kd bt ph cn no ct sc rn lg dn zz)) rfl (by decide) rfl (by decide) (by decide) 3 0 rfl rfl (fun u => ((wP τ a bs tz u.1 u.2.1 u.2.2.1 u.2.2.2) ++ (wT τ b lw kd bt ph cn no ct sc rn lg dn zz))) (fun _ => rfl) (by decide) (fun u8 hX8 => ?_)
    obtain ⟨so_8, fr_8, tt_8, ft_8⟩ := u8
    rw [hX8] at hR; rw [pr4_mk so_8 fr_8 tt_8 ft_8] at hR
    obtain ⟨hf8, ht8⟩ := sc_TN hX8 (by assumption) (by assumption) (by assumption)
    refine j_aload_n C dX3_readPerson_56 57 rfl rfl 4 rfl ?_
    refine j_iload_n C dX3_readPerson_57 58 rfl rfl 5 rfl ?_
    refine j_iload C dX3_readPerson_58 60 rfl 1 rfl ?_
    refine j_iload C dX3_readPerson_60 62 rfl 0 rfl ?_
    refine j_iload_n C dX3_readPerson_62 63 rfl rfl 2 rfl ?_
    refine j_cvV (na := 4) C dX3_readPerson_63 66 rfl (c_X4_add τ b lw kd bt ph cn no ct sc rn lg dn zz x2 r6 r7 r5 (by assumption)) gX3_readPerson_X4_add rfl rfl rfl qd_X4_add rfl ⟨by decide, by decide⟩ ⟨by decide, by decide⟩ rfl (Nat.le_of_ble_eq_true rfl) [2, 3, 4, 5, 6, 7, 8] [0, 1] [0, 1, 2, 3, 4, 5, 6, 7, 8] ((wP τ a bs tz so_8 fr_8 tt_8 ft_8)) rfl (by decide) rfl (by decide) (by decide) 4 0 rfl rfl (fun u => ((wP τ a bs tz so_8 fr_8 tt_8 ft_8) ++ (wT τ b lw u.1 u.2.1 u.2.2.1 u.2.2.2.1 u.2.2.2.2.1 u.2.2.2.2.2 sc rn lg dn zz))) (fun _ => rfl) (by decide) (fun u9 hX9 => ?_)
    obtain ⟨kd_9, bt_9, ph_9, cn_9, no_9, ct_9⟩ := u9
    rw [hX9] at hR; rw [pr6_mk kd_9 bt_9 ph_9 cn_9 no_9 ct_9] at hR
    exact hR _ _ dX3_readPerson_66
  refine j_if_eq C dX3_readPerson_6 16 rfl 9 rfl (fun c2 => ?_) (fun c2 => ?_)
  · rw [if_pos c2] at hR
    refine j_aload_n C dX3_readPerson_16 17 rfl rfl 0 rfl ?_
    refine j_cvV (na := 0) C dX3_readPerson_17 20 rfl (c_X3_fail τ a bs tz so fr tt ft ) gX3_readPerson_X3_fail rfl rfl rfl qd_X3_fail rfl ⟨by decide, by decide⟩ ⟨by decide, by decide⟩ rfl (Nat.le_of_ble_eq_true rfl) [0, 1] [2, 3, 4, 5, 6, 7, 8] [7, 8, 0, 1, 2, 3, 4, 5, 6] ((wT τ b lw kd bt ph cn no ct sc rn lg dn zz)) rfl (by decide) rfl (by decide) (by decide) 3 0 rfl rfl (fun u => ((wP τ a bs tz so fr tt u) ++ (wT τ b lw kd bt ph cn no ct sc rn lg dn zz))) (fun _ => rfl) (by decide) (fun u3 hX3 => ?_)
    obtain ⟨ft_3, rfl⟩ : ∃ z, z = u3 := ⟨_, rfl⟩
    rw [hX3] at hR; rw [pr1_mk ft_3] at hR
    rw [pr4_mk so fr tt ft_3] at hR
    exact j_lv [0, 1, 2] [(0, .ref (a 0)), (1, .ref (b 0)), (2, .int x2)] rfl (J6 _ _ _ _ (by assumption) (by assumption) hR)
  · rw [if_neg c2] at hR
    refine j_aload_n C dX3_readPerson_9 10 rfl rfl 0 rfl ?_
    refine j_cvV (na := 0) C dX3_readPerson_10 13 rfl (c_X3_readSign τ a bs tz so fr tt ft (by assumption) (by assumption)) gX3_readPerson_X3_readSign rfl rfl rfl qd_X3_readSign rfl ⟨by decide, by decide⟩ ⟨by decide, by decide⟩ rfl (Nat.le_of_ble_eq_true rfl) [0, 1] [2, 3, 4, 5, 6, 7, 8] [7, 8, 0, 1, 2, 3, 4, 5, 6] ((wT τ b lw kd bt ph cn no ct sc rn lg dn zz)) rfl (by decide) rfl (by decide) (by decide) 3 0 rfl rfl (fun u => ((wP τ a bs tz u.1 u.2.1 u.2.2 ft) ++ (wT τ b lw kd bt ph cn no ct sc rn lg dn zz))) (fun _ => rfl) (by decide) (fun u4 hX4 => ?_)
    obtain ⟨so_4, fr_4, tt_4⟩ := u4
    rw [hX4] at hR; rw [pr3_mk so_4 fr_4 tt_4] at hR
    obtain ⟨hf4, ht4⟩ := rs_TN hX4 (by assumption) (by assumption)
    refine j_goto C dX3_readPerson_13 20 rfl ?_
    rw [pr4_mk so_4 fr_4 tt_4 ft] at hR
    exact j_lv [0, 1, 2] [(0, .ref (a 0)), (1, .ref (b 0)), (2, .int x2)] rfl (J6 _ _ _ _ (by assumption) (by assumption) hR)

