theorem add_ct {kd bt ph cn no kd2 bt2 ph2 cn2 no2 : Nat → Int32} {ct x1 x2 x3 x4 ct2 : Int32} (e : f_X4_add kd bt ph cn no ct x1 x2 x3 x4 = (kd2, bt2, ph2, cn2, no2, ct2)) (h : 0 ≤ ct.toInt ∧ ct.toInt ≤ 8) : 0 ≤ ct2.toInt ∧ ct2.toInt ≤ 8 := by
  unfold f_X4_add at e
  by_cases c : ct < 8
  · rw [if_pos c] at e
    simp only [Prod.mk.injEq] at e
    rw [i32_lt, show (8 : Int32).toInt = 8 from rfl] at c
    rw [← e.2.2.2.2.2, i32_add1 (by omega)]
    omega
  · rw [if_neg c] at e
    simp only [Prod.mk.injEq] at e
    rw [← e.2.2.2.2.2]
    exact h
theorem tb_TN {bs : Nat → Int32} {n so fr tt ft x y d b r k f t g : Int32} (e : (if (b = 0) then (d, so, fr, tt, ft) else (pr5 (f_X3_takeNumber bs n so fr tt ft x y) (fun r7 so_7 fr_7 tt_7 ft_7 => (r7, so_7, fr_7, tt_7, ft_7)))) = (r, k, f, t, g)) (hn : TN n) (hf : TN fr) (ht : TN tt) : TN f ∧ TN t := by
  by_cases c : b = 0
  · rw [if_pos c] at e
    simp only [Prod.mk.injEq] at e
    obtain ⟨_, _, e3, e4, _⟩ := e
    exact ⟨e3 ▸ hf, e4 ▸ ht⟩
  · rw [if_neg c] at e
    have h1 := fun r k f t g e => tn_TN (r := r) (k := k) (f := f) (t := t) (g := g) (e : f_X3_takeNumber bs n so fr tt ft x y = (r, k, f, t, g)) hn hf ht
    generalize f_X3_takeNumber bs n so fr tt ft x y = q at h1 e
    obtain ⟨q0, q1, q2, q3, q4⟩ := q
    have h1' := h1 _ _ _ _ _ rfl
    rw [pr5_mk] at e
    simp only [Prod.mk.injEq] at e
    obtain ⟨_, _, e3, e4, _⟩ := e
    exact ⟨e3 ▸ h1'.1, e4 ▸ h1'.2⟩
theorem rp_TN {bs kd bt ph cn no kd2 bt2 ph2 cn2 no2 : Nat → Int32} {n so fr tt ft ct x k f t g ct2 : Int32} (e : f_X3_readPerson bs n so fr tt ft kd bt ph cn no ct x = (k, f, t, g, kd2, bt2, ph2, cn2, no2, ct2)) (hn : TN n) (hf : TN fr) (ht : TN tt) (hc : 0 ≤ ct.toInt ∧ ct.toInt ≤ 8) : TN f ∧ TN t ∧ 0 ≤ ct2.toInt ∧ ct2.toInt ≤ 8 := by
  unfold f_X3_readPerson at e
  have h0 := fun r k f t e => td_TN_at (r := r) (k := k) (f := f) (t := t) (e : f_X3_tookName__at bs n so fr tt ft = (r, k, f, t)) hn hf ht
  generalize f_X3_tookName__at bs n so fr tt ft = p at h0 e
  obtain ⟨p0, p1, p2, p3⟩ := p
  have h0' := h0 _ _ _ _ rfl
  rw [pr4_mk] at e
  generalize (if (p0 = 0) then (pr1 (f_X3_fail p2 ft) (fun ft_3 => ft_3)) else ft) = j at e
  rw [pr1_mk] at e
  have h1 := fun r k f t g e => tn_TN (r := r) (k := k) (f := f) (t := t) (g := g) (e : f_X3_takeNumber bs n p1 p2 p3 j 0 11 = (r, k, f, t, g)) hn h0'.1 h0'.2
  generalize f_X3_takeNumber bs n p1 p2 p3 j 0 11 = q at h1 e
  obtain ⟨q0, q1, q2, q3, q4⟩ := q
  have h1' := h1 _ _ _ _ _ rfl
  rw [pr5_mk] at e
  have h2 := fun r k f t e => td_TN_beat (r := r) (k := k) (f := f) (t := t) (e : f_X3_tookName__beat bs n q1 q2 q3 q4 = (r, k, f, t)) hn h1'.1 h1'.2
  generalize f_X3_tookName__beat bs n q1 q2 q3 q4 = u at h2 e
  obtain ⟨u0, u1, u2, u3⟩ := u
  have h2' := h2 _ _ _ _ rfl
  rw [pr4_mk] at e
  have h3 := fun r k f t g e => tb_TN (bs := bs) (n := n) (so := u1) (fr := u2) (tt := u3) (ft := q4) (x := 1) (y := 9) (d := 5) (b := u0) (r := r) (k := k) (f := f) (t := t) (g := g) e hn h2'.1 h2'.2
  generalize (if (u0 = 0) then ((5 : Int32), u1, u2, u3, q4) else (pr5 (f_X3_takeNumber bs n u1 u2 u3 q4 (1 : Int32) (9 : Int32)) (fun r7 so_7 fr_7 tt_7 ft_7 => (r7, so_7, fr_7, tt_7, ft_7)))) = v at h3 e
  obtain ⟨v0, v1, v2, v3, v4⟩ := v
  have h3' := h3 _ _ _ _ _ rfl
  rw [pr5_mk] at e
  have h6 := fun r k f t e => td_TN_phase (r := r) (k := k) (f := f) (t := t) (e : f_X3_tookName__phase bs n v1 v2 v3 v4 = (r, k, f, t)) hn h3'.1 h3'.2
  generalize f_X3_tookName__phase bs n v1 v2 v3 v4 = s at h6 e
  obtain ⟨s0, s1, s2, s3⟩ := s
  have h6' := h6 _ _ _ _ rfl
  rw [pr4_mk] at e
  have h7 := fun r k f t g e => tb_TN (bs := bs) (n := n) (so := s1) (fr := s2) (tt := s3) (ft := v4) (x := 0) (y := 8) (d := 0) (b := s0) (r := r) (k := k) (f := f) (t := t) (g := g) e hn h6'.1 h6'.2
  generalize (if (s0 = 0) then ((0 : Int32), s1, s2, s3, v4) else (pr5 (f_X3_takeNumber bs n s1 s2 s3 v4 (0 : Int32) (8 : Int32)) (fun r10 so_10 fr_10 tt_10 ft_10 => (r10, so_10, fr_10, tt_10, ft_10)))) = y at h7 e
  obtain ⟨y0, y1, y2, y3, y4⟩ := y
  have h7' := h7 _ _ _ _ _ rfl
  rw [pr5_mk] at e
  have h4 := fun k f t g e => sc_TN (k := k) (f := f) (t := t) (g := g) (e : f_X3_takeSemicolon bs n y1 y2 y3 y4 = (k, f, t, g)) hn h7'.1 h7'.2
  generalize f_X3_takeSemicolon bs n y1 y2 y3 y4 = w at h4 e
  obtain ⟨w0, w1, w2, w3⟩ := w
  have h4' := h4 _ _ _ _ rfl
  rw [pr4_mk] at e
  have h5 := fun a1 a2 a3 a4 a5 a6 e => add_ct (kd2 := a1) (bt2 := a2) (ph2 := a3) (cn2 := a4) (no2 := a5) (ct2 := a6) (e : f_X4_add kd bt ph cn no ct x v0 y0 q0 = (a1, a2, a3, a4, a5, a6)) hc
  generalize f_X4_add kd bt ph cn no ct x v0 y0 q0 = z at h5 e
  obtain ⟨z0, z1, z2, z3, z4, z5⟩ := z
  have h5' := h5 _ _ _ _ _ _ rfl
  rw [pr6_mk] at e
  simp only [Prod.mk.injEq] at e
  obtain ⟨_, e2, e3, _, _, _, _, _, _, e10⟩ := e
  exact ⟨e2 ▸ h4'.1, e3 ▸ h4'.2, e10 ▸ h5'⟩
theorem lawN {bs : Nat → Int32} {n so fr tt : Int32} : f_X3_lawNamed bs n so fr tt = 0 ∨ f_X3_lawNamed bs n so fr tt = 1 ∨ f_X3_lawNamed bs n so fr tt = 2 ∨ f_X3_lawNamed bs n so fr tt = 3 ∨ f_X3_lawNamed bs n so fr tt = -1 := by
  unfold f_X3_lawNamed
  repeat' split
  all_goals decide
theorem lawN_in {bs : Nat → Int32} {n so fr tt : Int32} (c : ¬ f_X3_lawNamed bs n so fr tt < 0) : vp_in (f_X3_lawNamed bs n so fr tt) 4 := by
  rcases lawN (bs := bs) (n := n) (so := so) (fr := fr) (tt := tt) with e | e | e | e | e
  · rw [e]; unfold vp_in; decide
  · rw [e]; unfold vp_in; decide
  · rw [e]; unfold vp_in; decide
  · rw [e]; unfold vp_in; decide
  · rw [e] at c; exact absurd (by decide) c

-- X3_readStatement
def f_X3_readStatement (bs : Nat → Int32) (tz : Int32) (so : Int32) (fr : Int32) (tt : Int32) (ft : Int32) (lw : Nat → Int32) (kd : Nat → Int32) (bt : Nat → Int32) (ph : Nat → Int32) (cn : Nat → Int32) (no : Nat → Int32) (ct : Int32) : Int32 × Int32 × Int32 × Int32 × (Nat → Int32) × (Nat → Int32) × (Nat → Int32) × (Nat → Int32) × (Nat → Int32) × (Nat → Int32) × Int32 := if ((f_X3_kindNamed bs tz so fr tt) < 0) then (if ((f_X3_lawNamed bs tz so fr tt) < 0) then (pr1 (f_X3_fail fr ft) (fun ft_5 => (so, fr, tt, ft_5, lw, kd, bt, ph, cn, no, ct))) else (pr3 (f_X3_readSign bs tz tt) (fun so_6 fr_6 tt_6 => pr5 (f_X3_takeNumber bs tz so_6 fr_6 tt_6 ft (saG 1 ((f_X3_lawNamed bs tz so fr tt)).toNatClampNeg) (saG 2 ((f_X3_lawNamed bs tz so fr tt)).toNatClampNeg)) (fun r7 so_7 fr_7 tt_7 ft_7 => pr4 (f_X3_takeSemicolon bs tz so_7 fr_7 tt_7 ft_7) (fun so_8 fr_8 tt_8 ft_8 => (so_8, fr_8, tt_8, ft_8, (upd lw ((f_X3_lawNamed bs tz so fr tt)).toNatClampNeg r7), kd, bt, ph, cn, no, ct)))))) else (if (8 ≤ ct) then (if ((f_X3_lawNamed bs tz so fr tt) < 0) then (pr1 (f_X3_fail fr ft) (fun ft_11 => (so, fr, tt, ft_11, lw, kd, bt, ph, cn, no, ct))) else (pr3 (f_X3_readSign bs tz tt) (fun so_12 fr_12 tt_12 => pr5 (f_X3_takeNumber bs tz so_12 fr_12 tt_12 ft (saG 1 ((f_X3_lawNamed bs tz so fr tt)).toNatClampNeg) (saG 2 ((f_X3_lawNamed bs tz so fr tt)).toNatClampNeg)) (fun r13 so_13 fr_13 tt_13 ft_13 => pr4 (f_X3_takeSemicolon bs tz so_13 fr_13 tt_13 ft_13) (fun so_14 fr_14 tt_14 ft_14 => (so_14, fr_14, tt_14, ft_14, (upd lw ((f_X3_lawNamed bs tz so fr tt)).toNatClampNeg r13), kd, bt, ph, cn, no, ct)))))) else (pr3 (f_X3_readSign bs tz tt) (fun so_15 fr_15 tt_15 => pr10 (f_X3_readPerson bs tz so_15 fr_15 tt_15 ft kd bt ph cn no ct (f_X3_kindNamed bs tz so fr tt)) (fun so_16 fr_16 tt_16 ft_16 kd_16 bt_16 ph_16 cn_16 no_16 ct_16 => (so_16, fr_16, tt_16, ft_16, lw, kd_16, bt_16, ph_16, cn_16, no_16, ct_16)))))
theorem kX3_readStatement_f64 : Cond.fieldLink RX3 64 "TwoMinutes$Town" "laws" "[I" ∈ wsX3_readStatement := by decide +kernel
theorem kX3_readStatement_f42 : Cond.fieldLink RX3 42 "TwoMinutes$Town" "count" "I" ∈ wsX3_readStatement := by decide +kernel
theorem qd_X3_readStatement : yX3_readStatement.cls = RX3 ∧ yX3_readStatement.cls ≠ "java/lang/invoke/MethodHandle" ∧ yX3_readStatement.cls ≠ "java/lang/invoke/VarHandle" ∧ (parseMethodDescriptor yX3_readStatement.desc).map (fun d => d.parameters.length) = some 1 := by decide +kernel
abbrev rmX3_readStatement : Room := { frames := 7, cells := 0, slots := 0, locals := 153 }
set_option maxHeartbeats 4000000 in
set_option maxRecDepth 100000 in
theorem c_X3_readStatement (τ : SX) (a b : Nat → Nat) (bs : Nat → Int32) (tz : Int32) (so : Int32) (fr : Int32) (tt : Int32) (ft : Int32) (lw : Nat → Int32) (kd : Nat → Int32) (bt : Nat → Int32) (ph : Nat → Int32) (cn : Nat → Int32) (no : Nat → Int32) (ct : Int32) (sc : Int32) (rn : Int32) (lg : Int32) (dn : Int32) (zz : Int32) (hn : TN tz) (hf : TN fr) (ht : TN tt) (hc0 : 0 ≤ ct.toInt) (hc8 : ct.toInt ≤ 8) (sz : Nat) : McV τ yX3_readStatement wsX3_readStatement rmX3_readStatement [.ref (a 0), .ref (b 0)] ((wP τ a bs tz so fr tt ft) ++ (wT τ b lw kd bt ph cn no ct sc rn lg dn zz)) (fun u : Int32 × Int32 × Int32 × Int32 × (Nat → Int32) × (Nat → Int32) × (Nat → Int32) × (Nat → Int32) × (Nat → Int32) × (Nat → Int32) × Int32 => ((wP τ a bs tz u.1 u.2.1 u.2.2.1 u.2.2.2.1) ++ (wT τ b u.2.2.2.2.1 u.2.2.2.2.2.1 u.2.2.2.2.2.2.1 u.2.2.2.2.2.2.2.1 u.2.2.2.2.2.2.2.2.1 u.2.2.2.2.2.2.2.2.2.1 u.2.2.2.2.2.2.2.2.2.2 sc rn lg dn zz))) (f_X3_readStatement bs tz so fr tt ft lw kd bt ph cn no ct) 0 0 sz := by
  refine mc_V (cc := cX3_readStatement) (own := RX3) [(0, .ref (a 0)), (1, .ref (b 0))] rfl (by decide) rfl rfl (Nat.le_of_ble_eq_true rfl) (fun κ C _ hR => ?_)
  have hiX3 : ∀ w ∈ wsX30, w ∈ wsX3_readStatement := fun w h => List.mem_cons_of_mem _ (List.mem_append_right _ h)
  have hiX4 : ∀ w ∈ wsX40, w ∈ wsX3_readStatement := fun w h => List.mem_cons_of_mem _ (List.mem_append_left _ (List.mem_append_right _ h))
  unfold f_X3_readStatement at hR
  refine j_aload_n C dX3_readStatement_0 1 rfl rfl 0 rfl ?_
  refine j_cvI (na := 0) C dX3_readStatement_1 4 rfl (c_X3_kindNamed τ a bs tz so fr tt ft (by assumption) (by assumption) (by assumption)) gX3_readStatement_X3_kindNamed rfl rfl rfl qd_X3_kindNamed rfl ⟨by decide, by decide⟩ ⟨by decide, by decide⟩ rfl (Nat.le_of_ble_eq_true rfl) [0, 1] [2, 3, 4, 5, 6, 7, 8] [7, 8, 0, 1, 2, 3, 4, 5, 6] ((wT τ b lw kd bt ph cn no ct sc rn lg dn zz)) rfl (by decide) rfl (by decide) (by decide) 3 0 rfl rfl (fun u => ((wP τ a bs tz so fr tt ft) ++ (wT τ b lw kd bt ph cn no ct sc rn lg dn zz))) (fun _ => rfl) (by decide) (fun r1 u1 hX1 hn1 => ?_)
  obtain rfl := (Prod.mk.inj hX1).1
  refine j_istore_n C dX3_readStatement_4 5 rfl rfl (by decide) [(2, .int (f_X3_kindNamed bs tz so fr tt)), (0, .ref (a 0)), (1, .ref (b 0))] rfl ?_
  refine j_aload_n C dX3_readStatement_5 6 rfl rfl 1 rfl ?_
  refine j_cvI (na := 0) C dX3_readStatement_6 9 rfl (c_X3_lawNamed τ a bs tz so fr tt ft (by assumption) (by assumption) (by assumption)) gX3_readStatement_X3_lawNamed rfl rfl rfl qd_X3_lawNamed rfl ⟨by decide, by decide⟩ ⟨by decide, by decide⟩ rfl (Nat.le_of_ble_eq_true rfl) [0, 1] [2, 3, 4, 5, 6, 7, 8] [7, 8, 0, 1, 2, 3, 4, 5, 6] ((wT τ b lw kd bt ph cn no ct sc rn lg dn zz)) rfl (by decide) rfl (by decide) (by decide) 3 0 rfl rfl (fun u => ((wP τ a bs tz so fr tt ft) ++ (wT τ b lw kd bt ph cn no ct sc rn lg dn zz))) (fun _ => rfl) (by decide) (fun r2 u2 hX2 hn2 => ?_)
  obtain rfl := (Prod.mk.inj hX2).1
  refine j_istore_n C dX3_readStatement_9 10 rfl rfl (by decide) [(3, .int (f_X3_lawNamed bs tz so fr tt)), (2, .int (f_X3_kindNamed bs tz so fr tt)), (0, .ref (a 0)), (1, .ref (b 0))] rfl ?_
  refine j_iload_n C dX3_readStatement_10 11 rfl rfl 1 rfl ?_
  refine j_if_lt C dX3_readStatement_11 36 rfl 14 rfl (fun c3 => ?_) (fun c3 => ?_)
  · rw [if_pos c3] at hR
    refine j_iload_n C dX3_readStatement_36 37 rfl rfl 0 rfl ?_
    refine j_if_lt C dX3_readStatement_37 75 rfl 40 rfl (fun c4 => ?_) (fun c4 => ?_)
    · rw [if_pos c4] at hR
      refine j_aload_n C dX3_readStatement_75 76 rfl rfl 2 rfl ?_
      refine j_cvV (na := 0) C dX3_readStatement_76 79 rfl (c_X3_fail τ a bs tz so fr tt ft ) gX3_readStatement_X3_fail rfl rfl rfl qd_X3_fail rfl ⟨by decide, by decide⟩ ⟨by decide, by decide⟩ rfl (Nat.le_of_ble_eq_true rfl) [0, 1] [2, 3, 4, 5, 6, 7, 8] [7, 8, 0, 1, 2, 3, 4, 5, 6] ((wT τ b lw kd bt ph cn no ct sc rn lg dn zz)) rfl (by decide) rfl (by decide) (by decide) 3 0 rfl rfl (fun u => ((wP τ a bs tz so fr tt u) ++ (wT τ b lw kd bt ph cn no ct sc rn lg dn zz))) (fun _ => rfl) (by decide) (fun u5 hX5 => ?_)
      obtain ⟨ft_5, rfl⟩ : ∃ z, z = u5 := ⟨_, rfl⟩
      rw [hX5] at hR; rw [pr1_mk ft_5] at hR
      exact hR _ _ dX3_readStatement_79
    · rw [if_neg c4] at hR
      refine j_aload_n C dX3_readStatement_40 41 rfl rfl 2 rfl ?_
      refine j_cvV (na := 0) C dX3_readStatement_41 44 rfl (c_X3_readSign τ a bs tz so fr tt ft (by assumption) (by assumption)) gX3_readStatement_X3_readSign rfl rfl rfl qd_X3_readSign rfl ⟨by decide, by decide⟩ ⟨by decide, by decide⟩ rfl (Nat.le_of_ble_eq_true rfl) [0, 1] [2, 3, 4, 5, 6, 7, 8] [7, 8, 0, 1, 2, 3, 4, 5, 6] ((wT τ b lw kd bt ph cn no ct sc rn lg dn zz)) rfl (by decide) rfl (by decide) (by decide) 3 0 rfl rfl (fun u => ((wP τ a bs tz u.1 u.2.1 u.2.2 ft) ++ (wT τ b lw kd bt ph cn no ct sc rn lg dn zz))) (fun _ => rfl) (by decide) (fun u6 hX6 => ?_)
      obtain ⟨so_6, fr_6, tt_6⟩ := u6
      rw [hX6] at hR; rw [pr3_mk so_6 fr_6 tt_6] at hR
      obtain ⟨hf6, ht6⟩ := rs_TN hX6 (by assumption) (by assumption)
      refine j_aload_n C dX3_readStatement_44 45 rfl rfl 2 rfl ?_
      refine j_getsN (host := RX5) C dX3_readStatement_45 48 rfl 1 rfl rfl rfl rfl (by decide +kernel) ?_
      refine j_iload_n C dX3_readStatement_48 49 rfl rfl 0 rfl ?_
      refine j_sald C dX3_readStatement_49 50 rfl 1 rfl (lawN_in c4) ((f_X3_lawNamed bs tz so fr tt)).toNatClampNeg rfl ?_
      refine j_getsN (host := RX5) C dX3_readStatement_50 53 rfl 2 rfl rfl rfl rfl (by decide +kernel) ?_
      refine j_iload_n C dX3_readStatement_53 54 rfl rfl 0 rfl ?_
      refine j_sald C dX3_readStatement_54 55 rfl 2 rfl (lawN_in c4) ((f_X3_lawNamed bs tz so fr tt)).toNatClampNeg rfl ?_
      refine j_cvI (na := 2) C dX3_readStatement_55 58 rfl (c_X3_takeNumber τ a bs tz so_6 fr_6 tt_6 ft (saG 1 ((f_X3_lawNamed bs tz so fr tt)).toNatClampNeg) (saG 2 ((f_X3_lawNamed bs tz so fr tt)).toNatClampNeg) (by assumption) (by assumption) (by assumption)) gX3_readStatement_X3_takeNumber rfl rfl rfl qd_X3_takeNumber rfl ⟨by decide, by decide⟩ ⟨by decide, by decide⟩ rfl (Nat.le_of_ble_eq_true rfl) [0, 1] [2, 3, 4, 5, 6, 7, 8] [7, 8, 0, 1, 2, 3, 4, 5, 6] ((wT τ b lw kd bt ph cn no ct sc rn lg dn zz)) rfl (by decide) rfl (by decide) (by decide) 3 0 rfl rfl (fun u => ((wP τ a bs tz u.1 u.2.1 u.2.2.1 u.2.2.2) ++ (wT τ b lw kd bt ph cn no ct sc rn lg dn zz))) (fun _ => rfl) (by decide) (fun r7 u7 hX7 hn7 => ?_)
      obtain ⟨so_7, fr_7, tt_7, ft_7⟩ := u7
      rw [hX7] at hR; rw [pr5_mk r7 so_7 fr_7 tt_7 ft_7] at hR
      obtain ⟨hf7, ht7⟩ := tn_TN hX7 (by assumption) (by assumption) (by assumption)
      refine j_istore C dX3_readStatement_58 60 rfl (by decide) [(4, .int r7), (3, .int (f_X3_lawNamed bs tz so fr tt)), (2, .int (f_X3_kindNamed bs tz so fr tt)), (0, .ref (a 0)), (1, .ref (b 0))] rfl ?_
      refine j_aload_n C dX3_readStatement_60 61 rfl rfl 3 rfl ?_
      refine j_cvV (na := 0) C dX3_readStatement_61 64 rfl (c_X3_takeSemicolon τ a bs tz so_7 fr_7 tt_7 ft_7 (by assumption) (by assumption) (by assumption)) gX3_readStatement_X3_takeSemicolon rfl rfl rfl qd_X3_takeSemicolon rfl ⟨by decide, by decide⟩ ⟨by decide, by decide⟩ rfl (Nat.le_of_ble_eq_true rfl) [0, 1] [2, 3, 4, 5, 6, 7, 8] [7, 8, 0, 1, 2, 3, 4, 5, 6] ((wT τ b lw kd bt ph cn no ct sc rn lg dn zz)) rfl (by decide) rfl (by decide) (by decide) 3 0 rfl rfl (fun u => ((wP τ a bs tz u.1 u.2.1 u.2.2.1 u.2.2.2) ++ (wT τ b lw kd bt ph cn no ct sc rn lg dn zz))) (fun _ => rfl) (by decide) (fun u8 hX8 => ?_)
      obtain ⟨so_8, fr_8, tt_8, ft_8⟩ := u8
      rw [hX8] at hR; rw [pr4_mk so_8 fr_8 tt_8 ft_8] at hR
      obtain ⟨hf8, ht8⟩ := sc_TN hX8 (by assumption) (by assumption) (by assumption)
      refine j_aload_n C dX3_readStatement_64 65 rfl rfl 4 rfl ?_
      refine j_get C dX3_readStatement_65 68 rfl hiX4 2 rfl rfl 0 (by decide) rfl kX3_readStatement_f64 rfl ?_
      refine j_iload_n C dX3_readStatement_68 69 rfl rfl 1 rfl ?_
      refine j_iload C dX3_readStatement_69 71 rfl 0 rfl ?_
      refine j_iast C dX3_readStatement_71 72 rfl 3 rfl (lawN_in c4) ((f_X3_lawNamed bs tz so fr tt)).toNatClampNeg rfl ((wP τ a bs tz so_8 fr_8 tt_8 ft_8) ++ (wT τ b (upd lw ((f_X3_lawNamed bs tz so fr tt)).toNatClampNeg r7) kd bt ph cn no ct sc rn lg dn zz)) rfl ?_
      refine j_goto C dX3_readStatement_72 79 rfl ?_
      exact hR _ _ dX3_readStatement_79
  · rw [if_neg c3] at hR
    refine j_aload_n C dX3_readStatement_14 15 rfl rfl 3 rfl ?_
    refine j_get C dX3_readStatement_15 18 rfl hiX4 2 rfl rfl 6 (by decide) rfl kX3_readStatement_f42 rfl ?_
    refine j_bipush (v := 8) C dX3_readStatement_18 20 rfl (by decide) ?_
    refine j_icmp_ge C dX3_readStatement_20 36 rfl 23 rfl (fun c9 => ?_) (fun c9 => ?_)
    · rw [if_pos c9] at hR
      refine j_iload_n C dX3_readStatement_36 37 rfl rfl 0 rfl ?_
      refine j_if_lt C dX3_readStatement_37 75 rfl 40 rfl (fun c10 => ?_) (fun c10 => ?_)
      · rw [if_pos c10] at hR
        refine j_aload_n C dX3_readStatement_75 76 rfl rfl 2 rfl ?_
        refine j_cvV (na := 0) C dX3_readStatement_76 79 rfl (c_X3_fail τ a bs tz so fr tt ft ) gX3_readStatement_X3_fail rfl rfl rfl qd_X3_fail rfl ⟨by decide, by decide⟩ ⟨by decide, by decide⟩ rfl (Nat.le_of_ble_eq_true rfl) [0, 1] [2, 3, 4, 5, 6, 7, 8] [7, 8, 0, 1, 2, 3, 4, 5, 6] ((wT τ b lw kd bt ph cn no ct sc rn lg dn zz)) rfl (by decide) rfl (by decide) (by decide) 3 0 rfl rfl (fun u => ((wP τ a bs tz so fr tt u) ++ (wT τ b lw kd bt ph cn no ct sc rn lg dn zz))) (fun _ => rfl) (by decide) (fun u11 hX11 => ?_)
        obtain ⟨ft_11, rfl⟩ : ∃ z, z = u11 := ⟨_, rfl⟩
        rw [hX11] at hR; rw [pr1_mk ft_11] at hR
        exact hR _ _ dX3_readStatement_79
      · rw [if_neg c10] at hR
        refine j_aload_n C dX3_readStatement_40 41 rfl rfl 2 rfl ?_
        refine j_cvV (na := 0) C dX3_readStatement_41 44 rfl (c_X3_readSign τ a bs tz so fr tt ft (by assumption) (by assumption)) gX3_readStatement_X3_readSign rfl rfl rfl qd_X3_readSign rfl ⟨by decide, by decide⟩ ⟨by decide, by decide⟩ rfl (Nat.le_of_ble_eq_true rfl) [0, 1] [2, 3, 4, 5, 6, 7, 8] [7, 8, 0, 1, 2, 3, 4, 5, 6] ((wT τ b lw kd bt ph cn no ct sc rn lg dn zz)) rfl (by decide) rfl (by decide) (by decide) 3 0 rfl rfl (fun u => ((wP τ a bs tz u.1 u.2.1 u.2.2 ft) ++ (wT τ b lw kd bt ph cn no ct sc rn lg dn zz))) (fun _ => rfl) (by decide) (fun u12 hX12 => ?_)
        obtain ⟨so_12, fr_12, tt_12⟩ := u12
        rw [hX12] at hR; rw [pr3_mk so_12 fr_12 tt_12] at hR
        obtain ⟨hf12, ht12⟩ := rs_TN hX12 (by assumption) (by assumption)
        refine j_aload_n C dX3_readStatement_44 45 rfl rfl 2 rfl ?_
        refine j_getsN (host := RX5) C dX3_readStatement_45 48 rfl 1 rfl rfl rfl rfl (by decide +kernel) ?_
        refine j_iload_n C dX3_readStatement_48 49 rfl rfl 0 rfl ?_
        refine j_sald C dX3_readStatement_49 50 rfl 1 rfl (lawN_in c10) ((f_X3_lawNamed bs tz so fr tt)).toNatClampNeg rfl ?_
        refine j_getsN (host := RX5) C dX3_readStatement_50 53 rfl 2 rfl rfl rfl rfl (by decide +kernel) ?_
        refine j_iload_n C dX3_readStatement_53 54 rfl rfl 0 rfl ?_
        refine j_sald C dX3_readStatement_54 55 rfl 2 rfl (lawN_in c10) ((f_X3_lawNamed bs tz so fr tt)).toNatClampNeg rfl ?_
        refine j_cvI (na := 2) C dX3_readStatement_55 58 rfl (c_X3_takeNumber τ a bs tz so_12 fr_12 tt_12 ft (saG 1 ((f_X3_lawNamed bs tz so fr tt)).toNatClampNeg) (saG 2 ((f_X3_lawNamed bs tz so fr tt)).toNatClampNeg) (by assumption) (by assumption) (by assumption)) gX3_readStatement_X3_takeNumber rfl rfl rfl qd_X3_takeNumber rfl ⟨by decide, by decide⟩ ⟨by decide, by decide⟩ rfl (Nat.le_of_ble_eq_true rfl) [0, 1] [2, 3, 4, 5, 6, 7, 8] [7, 8, 0, 1, 2, 3, 4, 5, 6] ((wT τ b lw kd bt ph cn no ct sc rn lg dn zz)) rfl (by decide) rfl (by decide) (by decide) 3 0 rfl rfl (fun u => ((wP τ a bs tz u.1 u.2.1 u.2.2.1 u.2.2.2) ++ (wT τ b lw kd bt ph cn no ct sc rn lg dn zz))) (fun _ => rfl) (by decide) (fun r13 u13 hX13 hn13 => ?_)
        obtain ⟨so_13, fr_13, tt_13, ft_13⟩ := u13
        rw [hX13] at hR; rw [pr5_mk r13 so_13 fr_13 tt_13 ft_13] at hR
        obtain ⟨hf13, ht13⟩ := tn_TN hX13 (by assumption) (by assumption) (by assumption)
        refine j_istore C dX3_readStatement_58 60 rfl (by decide) [(4, .int r13), (3, .int (f_X3_lawNamed bs tz so fr tt)), (2, .int (f_X3_kindNamed bs tz so fr tt)), (0, .ref (a 0)), (1, .ref (b 0))] rfl ?_
        refine j_aload_n C dX3_readStatement_60 61 rfl rfl 3 rfl ?_
        refine j_cvV (na := 0) C dX3_readStatement_61 64 rfl (c_X3_takeSemicolon τ a bs tz so_13 fr_13 tt_13 ft_13 (by assumption) (by assumption) (by assumption)) gX3_readStatement_X3_takeSemicolon rfl rfl rfl qd_X3_takeSemicolon rfl ⟨by decide, by decide⟩ ⟨by decide, by decide⟩ rfl (Nat.le_of_ble_eq_true rfl) [0, 1] [2, 3, 4, 5, 6, 7, 8] [7, 8, 0, 1, 2, 3, 4, 5, 6] ((wT τ b lw kd bt ph cn no ct sc rn lg dn zz)) rfl (by decide) rfl (by decide) (by decide) 3 0 rfl rfl (fun u => ((wP τ a bs tz u.1 u.2.1 u.2.2.1 u.2.2.2) ++ (wT τ b lw kd bt ph cn no ct sc rn lg dn zz))) (fun _ => rfl) (by decide) (fun u14 hX14 => ?_)
        obtain ⟨so_14, fr_14, tt_14, ft_14⟩ := u14
        rw [hX14] at hR; rw [pr4_mk so_14 fr_14 tt_14 ft_14] at hR
        obtain ⟨hf14, ht14⟩ := sc_TN hX14 (by assumption) (by assumption) (by assumption)
        refine j_aload_n C dX3_readStatement_64 65 rfl rfl 4 rfl ?_
        refine j_get C dX3_readStatement_65 68 rfl hiX4 2 rfl rfl 0 (by decide) rfl kX3_readStatement_f64 rfl ?_
        refine j_iload_n C dX3_readStatement_68 69 rfl rfl 1 rfl ?_
        refine j_iload C dX3_readStatement_69 71 rfl 0 rfl ?_
        refine j_iast C dX3_readStatement_71 72 rfl 3 rfl (lawN_in c10) ((f_X3_lawNamed bs tz so fr tt)).toNatClampNeg rfl ((wP τ a bs tz so_14 fr_14 tt_14 ft_14) ++ (wT τ b (upd lw ((f_X3_lawNamed bs tz so fr tt)).toNatClampNeg r13) kd bt ph cn no ct sc rn lg dn zz)) rfl ?_
        refine j_goto C dX3_readStatement_72 79 rfl ?_
        exact hR _ _ dX3_readStatement_79
    · rw [if_neg c9] at hR
      refine j_aload_n C dX3_readStatement_23 24 rfl rfl 2 rfl ?_
      refine j_cvV (na := 0) C dX3_readStatement_24 27 rfl (c_X3_readSign τ a bs tz so fr tt ft (by assumption) (by assumption)) gX3_readStatement_X3_readSign rfl rfl rfl qd_X3_readSign rfl ⟨by decide, by decide⟩ ⟨by decide, by decide⟩ rfl (Nat.le_of_ble_eq_true rfl) [0, 1] [2, 3, 4, 5, 6, 7, 8] [7, 8, 0, 1, 2, 3, 4, 5, 6] ((wT τ b lw kd bt ph cn no ct sc rn lg dn zz)) rfl (by decide) rfl (by decide) (by decide) 3 0 rfl rfl (fun u => ((wP τ a bs tz u.1 u.2.1 u.2.2 ft) ++ (wT τ b lw kd bt ph cn no ct sc rn lg dn zz))) (fun _ => rfl) (by decide) (fun u15 hX15 => ?_)
      obtain ⟨so_15, fr_15, tt_15⟩ := u15
      rw [hX15] at hR; rw [pr3_mk so_15 fr_15 tt_15] at hR
      obtain ⟨hf15, ht15⟩ := rs_TN hX15 (by assumption) (by assumption)
      refine j_aload_n C dX3_readStatement_27 28 rfl rfl 2 rfl ?_
      refine j_aload_n C dX3_readStatement_28 29 rfl rfl 3 rfl ?_
      refine j_iload_n C dX3_readStatement_29 30 rfl rfl 1 rfl ?_
      refine j_cv0V (na := 2) C dX3_readStatement_30 33 rfl (c_X3_readPerson τ a b bs tz so_15 fr_15 tt_15 ft lw kd bt ph cn no ct sc rn lg dn zz (f_X3_kindNamed bs tz so fr tt) (by assumption) (by assumption) (by assumption) (by assumption)) gX3_readStatement_X3_readPerson rfl rfl rfl qd_X3_readPerson rfl ⟨by decide, by decide⟩ ⟨by decide, by decide⟩ rfl (Nat.le_of_ble_eq_true rfl) rfl 3 0 rfl rfl (fun u16 hX16 => ?_)
      obtain ⟨so_16, fr_16, tt_16, ft_16, kd_16, bt_16, ph_16, cn_16, no_16, ct_16⟩ := u16
      rw [hX16] at hR; rw [pr10_mk so_16 fr_16 tt_16 ft_16 kd_16 bt_16 ph_16 cn_16 no_16 ct_16] at hR
      refine j_goto C dX3_readStatement_33 79 rfl ?_
      exact hR _ _ dX3_readStatement_79

theorem st_TN {bs lw kd bt ph cn no lw2 kd2 bt2 ph2 cn2 no2 : Nat → Int32} {n so fr tt ft ct k f t g ct2 : Int32} (e : f_X3_readStatement bs n so fr tt ft lw kd bt ph cn no ct = (k, f, t, g, lw2, kd2, bt2, ph2, cn2, no2, ct2)) (hn : TN n) (hf : TN fr) (ht : TN tt) (hc0 : 0 ≤ ct.toInt) (hc8 : ct.toInt ≤ 8) : TN f ∧ TN t ∧ 0 ≤ ct2.toInt ∧ ct2.toInt ≤ 8 := by
  unfold f_X3_readStatement at e
  have hr := fun k f t e => rs_TN (k := k) (f := f) (t2 := t) (e : f_X3_readSign bs n tt = (k, f, t)) hn ht
  generalize f_X3_readSign bs n tt = p at hr e
  obtain ⟨p0, p1, p2⟩ := p
  have hr' := hr _ _ _ rfl
  have h1 := fun a0 a1 a2 a3 a4 a5 a6 a7 a8 a9 e => rp_TN (k := a0) (f := a1) (t := a2) (g := a3) (kd2 := a4) (bt2 := a5) (ph2 := a6) (cn2 := a7) (no2 := a8) (ct2 := a9) (e : f_X3_readPerson bs n p0 p1 p2 ft kd bt ph cn no ct (f_X3_kindNamed bs n so fr tt) = (a0, a1, a2, a3, a4, a5, a6, a7, a8, a9)) hn hr'.1 hr'.2 ⟨hc0, hc8⟩
  have h2 := fun x y r k f t g e => tn_TN (r := r) (k := k) (f := f) (t := t) (g := g) (e : f_X3_takeNumber bs n p0 p1 p2 ft x y = (r, k, f, t, g)) hn hr'.1 hr'.2
  have hl : ∀ (lv : Nat) (X Y : Int32), pr5 (f_X3_takeNumber bs n p0 p1 p2 ft X Y) (fun r7 so_7 fr_7 tt_7 ft_7 => pr4 (f_X3_takeSemicolon bs n so_7 fr_7 tt_7 ft_7) (fun so_8 fr_8 tt_8 ft_8 => (so_8, fr_8, tt_8, ft_8, (upd lw lv r7), kd, bt, ph, cn, no, ct))) = (k, f, t, g, lw2, kd2, bt2, ph2, cn2, no2, ct2) → TN f ∧ TN t ∧ 0 ≤ ct2.toInt ∧ ct2.toInt ≤ 8 := by
    intro lv X Y e
    have h2 := h2 X Y
    generalize f_X3_takeNumber bs n p0 p1 p2 ft X Y = q at h2 e
    obtain ⟨q0, q1, q2, q3, q4⟩ := q
    have h2' := h2 _ _ _ _ _ rfl
    rw [pr5_mk] at e
    have h4 := fun k f t g e => sc_TN (k := k) (f := f) (t := t) (g := g) (e : f_X3_takeSemicolon bs n q1 q2 q3 q4 = (k, f, t, g)) hn h2'.1 h2'.2
    generalize f_X3_takeSemicolon bs n q1 q2 q3 q4 = w at h4 e
    obtain ⟨w0, w1, w2, w3⟩ := w
    have h4' := h4 _ _ _ _ rfl
    rw [pr4_mk] at e
    simp only [Prod.mk.injEq] at e
    obtain ⟨_, e2, e3, _, _, _, _, _, _, _, e11⟩ := e
    exact ⟨e2 ▸ h4'.1, e3 ▸ h4'.2, e11 ▸ hc0, e11 ▸ hc8⟩
  have hfl : ∀ g0 : Int32, (so, fr, tt, g0, lw, kd, bt, ph, cn, no, ct) = (k, f, t, g, lw2, kd2, bt2, ph2, cn2, no2, ct2) → TN f ∧ TN t ∧ 0 ≤ ct2.toInt ∧ ct2.toInt ≤ 8 := by
    intro g0 e
    simp only [Prod.mk.injEq] at e
    obtain ⟨_, e2, e3, _, _, _, _, _, _, _, e11⟩ := e
    exact ⟨e2 ▸ hf, e3 ▸ ht, e11 ▸ hc0, e11 ▸ hc8⟩
  by_cases c1 : f_X3_kindNamed bs n so fr tt < 0
  · rw [if_pos c1] at e
    by_cases c2 : f_X3_lawNamed bs n so fr tt < 0
    · rw [if_pos c2, pr1_mk] at e; exact hfl _ e
    · rw [if_neg c2, pr3_mk] at e; exact hl _ _ _ e
  · rw [if_neg c1] at e
    by_cases c3 : (8 : Int32) ≤ ct
    · rw [if_pos c3] at e
      by_cases c2 : f_X3_lawNamed bs n so fr tt < 0
      · rw [if_pos c2, pr1_mk] at e; exact hfl _ e
      · rw [if_neg c2, pr3_mk] at e; exact hl _ _ _ e
    · rw [if_neg c3, pr3_mk] at e
      generalize f_X3_readPerson bs n p0 p1 p2 ft kd bt ph cn no ct (f_X3_kindNamed bs n so fr tt) = z at h1 e
      obtain ⟨z0, z1, z2, z3, z4, z5, z6, z7, z8, z9⟩ := z
      have h1' := h1 _ _ _ _ _ _ _ _ _ _ rfl
      rw [pr10_mk] at e
      simp only [Prod.mk.injEq] at e
      obtain ⟨_, e2, e3, _, _, _, _, _, _, _, e11⟩ := e
      exact ⟨e2 ▸ h1'.1, e3 ▸ h1'.2.1, e11 ▸ h1'.2.2.1, e11 ▸ h1'.2.2.2⟩

