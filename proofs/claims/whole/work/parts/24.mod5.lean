def bS (x : Int32) : Prop := x.toBitVec.toNat < 256
def mb (x k : Int32) : Prop := ¬ ((x >>> (k &&& 31)) &&& 1) = 0
theorem bS0 : bS 0 := by unfold bS; decide
theorem least_step {x i : Int32} (h0 : 0 ≤ i.toInt) (hj : ∃ j : Int32, i.toInt ≤ j.toInt ∧ j.toInt ≤ 7 ∧ mb x j) (c : ((x >>> (i &&& 31)) &&& 1) = 0) : 0 ≤ (i + 1).toInt ∧ (8 - (i + 1).toInt).toNat < (8 - i.toInt).toNat ∧ ∃ j : Int32, (i + 1).toInt ≤ j.toInt ∧ j.toInt ≤ 7 ∧ mb x j := by
  obtain ⟨j, h1, h2, h3⟩ := hj
  have hne : j ≠ i := fun e => h3 (by rw [e]; exact c)
  have hne2 : ¬ j.toInt = i.toInt := fun e => hne (i32_eq.mpr e)
  have e := i32_add1 (i := i) (by omega)
  exact ⟨by omega, by omega, j, by omega, h2, h3⟩
theorem mb_tab : ∀ n : Fin 256, n.val ≠ 0 → mb (Int32.ofNat n.val) 0 ∨ mb (Int32.ofNat n.val) 1 ∨ mb (Int32.ofNat n.val) 2 ∨ mb (Int32.ofNat n.val) 3 ∨ mb (Int32.ofNat n.val) 4 ∨ mb (Int32.ofNat n.val) 5 ∨ mb (Int32.ofNat n.val) 6 ∨ mb (Int32.ofNat n.val) 7 := by
  unfold mb
  decide +kernel
theorem bS_of {x : Int32} (h : bS x) : x = Int32.ofNat x.toBitVec.toNat := by
  apply Int32.toBitVec_inj.mp
  apply BitVec.eq_of_toNat_eq
  show x.toBitVec.toNat = (BitVec.ofNat 32 x.toBitVec.toNat).toNat
  rw [BitVec.toNat_ofNat]
  have := x.toBitVec.isLt
  omega
theorem mb_ex {x : Int32} (h : bS x) (hz : ¬ x = 0) : ∃ j : Int32, (0 : Int32).toInt ≤ j.toInt ∧ j.toInt ≤ 7 ∧ mb x j := by
  have e := bS_of h
  have hz2 : x.toBitVec.toNat ≠ 0 := fun q => hz (by rw [e, q]; rfl)
  have t := mb_tab ⟨x.toBitVec.toNat, h⟩ hz2
  rw [← e] at t
  rcases t with t | t | t | t | t | t | t | t
  · exact ⟨0, by decide, by decide, t⟩
  · exact ⟨1, by decide, by decide, t⟩
  · exact ⟨2, by decide, by decide, t⟩
  · exact ⟨3, by decide, by decide, t⟩
  · exact ⟨4, by decide, by decide, t⟩
  · exact ⟨5, by decide, by decide, t⟩
  · exact ⟨6, by decide, by decide, t⟩
  · exact ⟨7, by decide, by decide, t⟩
theorem eight_of {n : Int32} (h : vp_in n 8) : n = 0 ∨ n = 1 ∨ n = 2 ∨ n = 3 ∨ n = 4 ∨ n = 5 ∨ n = 6 ∨ n = 7 := by
  rw [vp_in_iff] at h
  simp only [i32_eq, show (0 : Int32).toInt = 0 from rfl, show (1 : Int32).toInt = 1 from rfl, show (2 : Int32).toInt = 2 from rfl, show (3 : Int32).toInt = 3 from rfl, show (4 : Int32).toInt = 4 from rfl, show (5 : Int32).toInt = 5 from rfl, show (6 : Int32).toInt = 6 from rfl, show (7 : Int32).toInt = 7 from rfl]
  omega
theorem bS_shl {o : Int32} (h : vp_in o 8) : bS ((1 : Int32) <<< (o &&& 31)) := by
  unfold bS
  rcases eight_of h with rfl | rfl | rfl | rfl | rfl | rfl | rfl | rfl <;> decide
theorem bS_or {x y : Int32} (h : bS x) (h2 : bS y) : bS (x ||| y) := by
  unfold bS at *
  rw [Int32.toBitVec_or, BitVec.toNat_or]
  exact Nat.or_lt_two_pow (n := 8) h h2
theorem bS_soundL {ss : Nat → Int32} (hok : okS ss) : ∀ (N : Nat) (x1 x2 : Int32), bS x1 → 0 ≤ x2.toInt → bS (l_X6_sounding_4 ss N x1 x2).1 := by
  intro N
  induction N with
  | zero => intro x1 x2 h _; rw [l_X6_sounding_4]; exact h
  | succ N ih =>
    intro x1 x2 h h0
    rw [l_X6_sounding_4]
    by_cases c : ss 0 ≤ x2
    · rw [if_pos c]; exact h
    · rw [if_neg c]
      have hs := cnt_step (B := 8) h0 hok.2.1 (by decide) c
      have hv : vp_in x2 8 := vpI h0 hs.2.2.2
      by_cases c2 : f_X6_sounds ss x2 = 0
      · rw [if_pos c2, pr1_mk]; exact ih _ _ (bS_or h bS0) hs.1
      · rw [if_neg c2, pr1_mk]; exact ih _ _ (bS_or h (bS_shl hv)) hs.1
theorem bS_sounding {ss : Nat → Int32} (hok : okS ss) : bS (f_X6_sounding ss) := by
  unfold f_X6_sounding
  have h := bS_soundL hok 300 0 0 bS0 (by decide)
  generalize l_X6_sounding_4 ss 300 0 0 = p at h
  obtain ⟨x, y⟩ := p
  exact h
theorem goesBy_nL {x1 : Int32} : ∀ (N : Nat) (x2 : Int32) (ss : Nat → Int32), 0 ≤ x2.toInt → (ss 0).toInt ≤ 8 → (l_X6_goesBy_2 x1 N x2 ss).2 0 = ss 0 := by
  intro N
  induction N with
  | zero => intro x2 ss _ _; rw [l_X6_goesBy_2]
  | succ N ih =>
    intro x2 ss h0 h8
    rw [l_X6_goesBy_2]
    by_cases c : ss 0 ≤ x2
    · rw [if_pos c]
    · rw [if_neg c]
      have hs := cnt_step (B := 8) h0 h8 (by decide) c
      have e : ∀ v, upd ss (((10 : Int32) + ((5 : Int32) * x2)) + 4).toNatClampNeg v 0 = ss 0 := fun v => by
        rw [its_ix h0 (by omega) (by decide) (by decide)]
        exact pk_un (by omega)
      rw [pr1_mk]
      exact (ih _ _ hs.1 (by rw [e]; exact h8)).trans (e _)
theorem goesBy_n {x1 : Int32} {ss : Nat → Int32} (h : okS ss) : f_X6_goesBy ss x1 0 = ss 0 := by
  unfold f_X6_goesBy
  have h1 := goesBy_nL (x1 := x1) 300 0 ss (by decide) h.2.1
  generalize l_X6_goesBy_2 x1 300 0 ss = p at h1
  obtain ⟨x, s1⟩ := p
  simp only [pr1, pr2, pr3, pr4]
  rw [pk_un (by decide), pk_un (by decide), pk_un (by decide), pk_un (by decide)]
  exact h1
theorem goes_nL {x1 x2 : Int32} : ∀ (N : Nat) (x3 : Int32) (ss : Nat → Int32), okS ss → (l_X6_goes_2 x1 x2 N x3 ss).2 0 = ss 0 := by
  intro N
  induction N with
  | zero => intro x3 ss _; rw [l_X6_goes_2]
  | succ N ih =>
    intro x3 ss h
    rw [l_X6_goes_2]
    by_cases c : x1 ≤ x3
    · rw [if_pos c]
    · rw [if_neg c, pr1_mk, ih _ _ (ok_goesBy h), goesBy_n h]
theorem goes_n {x1 x2 : Int32} {ss : Nat → Int32} (h : okS ss) : f_X6_goes ss x1 x2 0 = ss 0 := by
  unfold f_X6_goes
  exact goes_nL 300 0 ss h

-- X6_leastOf
def l_X6_leastOf_2 (x0 : Int32) : Nat → Int32 → Int32
  | 0, x1 => x1
  | N + 1, x1 => if (((x0 >>> (x1 &&& 31)) &&& 1) = 0) then (l_X6_leastOf_2 x0 N (x1 + 1)) else x1
def f_X6_leastOf (x0 : Int32) : Int32 := pr1 (l_X6_leastOf_2 x0 300 (0 : Int32)) (fun x1_1 => x1_1)
theorem qd_X6_leastOf : yX6_leastOf.cls ≠ "java/lang/invoke/MethodHandle" ∧ yX6_leastOf.cls ≠ "java/lang/invoke/VarHandle" ∧ (parseMethodDescriptor yX6_leastOf.desc).map (fun d => d.parameters.length) = some 1 := by decide +kernel
abbrev rmX6_leastOf : Room := { frames := 0, cells := 0, slots := 0, locals := 0 }
set_option maxHeartbeats 4000000 in
set_option maxRecDepth 100000 in
theorem L_X6_leastOf_2 {τ : SX} {κ : KX} (C : Cx τ κ cX6_leastOf RX6 wsX6_leastOf rmX6_leastOf 2) (x0 : Int32) (hb : bS x0) (hz : ¬ x0 = 0) (Φ : Int32 → Prop) (hE : ∀ (x1 : Int32), Φ x1 → J τ κ 0 0 [] [(0, .int x0), (1, .int x1)] 16 []) : ∀ (N : Nat) (x1 : Int32), ((8 : Int) - x1.toInt).toNat < N → (0 ≤ x1.toInt) → (∃ j : Int32, x1.toInt ≤ j.toInt ∧ j.toInt ≤ 7 ∧ mb x0 j) → Φ (l_X6_leastOf_2 x0 N x1) → J τ κ 0 0 [] [(0, .int x0), (1, .int x1)] 2 [] := by
  intro N
  induction N with
  | zero => intro x1 hm; exact absurd hm (Nat.not_lt_zero _)
  | succ N ih =>
    intro x1 hm h0 hj hR
    rw [l_X6_leastOf_2] at hR
    refine j_iload_n C dX6_leastOf_2 3 rfl rfl 0 rfl ?_
    refine j_iload_n C dX6_leastOf_3 4 rfl rfl 1 rfl ?_
    refine j_ishr C dX6_leastOf_4 5 rfl ?_
    refine j_iconst (v := 1) C dX6_leastOf_5 6 rfl (by decide) ?_
    refine j_iand C dX6_leastOf_6 7 rfl ?_
    refine j_if_ne C dX6_leastOf_7 16 rfl 10 rfl (fun c2 => ?_) (fun c2 => ?_)
    · rw [if_neg c2] at hR
      exact j_lv [0, 1] [(0, .int x0), (1, .int x1)] rfl (hE _  hR)
    · rw [if_pos c2] at hR
      have hs := least_step h0 hj c2
      refine j_iinc (v := (x1 + 1)) C dX6_leastOf_10 13 rfl 1 rfl rfl (by decide) [(1, .int (x1 + 1)), (0, .int x0)] rfl ?_
      refine j_goto C dX6_leastOf_13 2 rfl ?_
      exact j_lv [1, 0] [(0, .int x0), (1, .int (x1 + 1))] rfl (ih _ (by have := hs.2.1; omega) hs.1 hs.2.2 hR)
set_option maxHeartbeats 4000000 in
set_option maxRecDepth 100000 in
theorem c_X6_leastOf (τ : SX) (x0 : Int32) (hb : bS x0) (hz : ¬ x0 = 0) (sz : Nat) : McI τ yX6_leastOf wsX6_leastOf rmX6_leastOf .int [.int x0] [] (fun _ : Unit => []) (f_X6_leastOf x0, ()) sz := by
  refine mc_I (cc := cX6_leastOf) (own := RX6) [(0, .int x0)] rfl (by decide) rfl rfl (Nat.le_of_ble_eq_true rfl) (fun κ C hR => ?_)
  unfold f_X6_leastOf at hR
  refine j_iconst (v := 0) C dX6_leastOf_0 1 rfl (by decide) ?_
  refine j_istore_n C dX6_leastOf_1 2 rfl rfl (by decide) [(1, .int 0), (0, .int x0)] rfl ?_
  refine j_lv [1, 0] [(0, .int x0), (1, .int 0)] rfl (L_X6_leastOf_2 C   x0 hb hz (fun (o : Int32) => Rt τ κ cX6_leastOf .int (fun _ : Unit => []) ((pr1 o (fun x1_1 => x1_1), ()))) (fun x1_1  hR => ?_) 300 (0 : Int32) (by decide) (by decide) (mb_ex hb hz) hR)
  rw [pr1_mk x1_1] at hR
  refine j_iload_n C dX6_leastOf_16 17 rfl rfl 1 rfl ?_
  exact Rt.ret (hR) rfl dX6_leastOf_17

-- X6_broken
def l_X6_broken_27  : Nat → Int32 → Int32 → (Nat → Int32) → Int32 × Int32 × (Nat → Int32)
  | 0, x2, x3, ss => (x2, x3, ss)
  | N + 1, x2, x3, ss => if (60 ≤ x2) then (x2, x3, ss) else (if (x3 = 0) then (pr1 (f_X6_goesBy ss (f_X6_sounding ss)) (fun ss_8 => l_X6_broken_27 N (x2 + 1) (f_X6_sounding ss) ss_8)) else (x2, x3, ss))
def f_X6_broken (ss : Nat → Int32) (mas : Nat → Int32) (x1 : Int32) : Int32 × (Nat → Int32) × (Nat → Int32) := if ((f_X6_isIn ((x1 : Int32).toInt64) (0 : Int64) (1 : Int64)) = 0) then (((-1) : Int32), ss, mas) else (pr1 (f_X6_copyRow__sa ss mas) (fun mas_3 => pr3 (l_X6_broken_27 300 (0 : Int32) (0 : Int32) ss) (fun x2_4 x3_4 ss_4 => pr1 (f_X6_copyRow__as ss_4 mas_3) (fun ss_9 => if (x3_4 = 0) then (((-3) : Int32), ss_9, mas_3) else (if (x1 = 0) then (x2_4, ss_9, mas_3) else ((f_X6_leastOf x3_4), ss_9, mas_3))))))
theorem kX6_broken_iRX6 : Cond.initialized yX6_leastOf.cls ∈ wsX6_broken := by decide +kernel
theorem kX6_broken_sX6_isIn : Cond.static yX6_isIn ∈ wsX6_broken := by decide +kernel
theorem kX6_broken_m57 : Cond.methodLink RX6 57 yX6_isIn ∈ wsX6_broken := by decide +kernel
theorem kX6_broken_f7 : Cond.fieldLink RX6 7 "TwoMinutesModel" "s" "[I" ∈ wsX6_broken := by decide +kernel
theorem kX6_broken_f16 : Cond.fieldLink RX6 16 "TwoMinutesModel" "aside" "[I" ∈ wsX6_broken := by decide +kernel
theorem kX6_broken_sX6_copyRow : Cond.static yX6_copyRow ∈ wsX6_broken := by decide +kernel
theorem kX6_broken_m138 : Cond.methodLink RX6 138 yX6_copyRow ∈ wsX6_broken := by decide +kernel
theorem kX6_broken_sX6_leastOf : Cond.static yX6_leastOf ∈ wsX6_broken := by decide +kernel
theorem kX6_broken_m225 : Cond.methodLink RX6 225 yX6_leastOf ∈ wsX6_broken := by decide +kernel
theorem qd_X6_broken : yX6_broken.cls = RX6 ∧ yX6_broken.cls ≠ "java/lang/invoke/MethodHandle" ∧ yX6_broken.cls ≠ "java/lang/invoke/VarHandle" ∧ (parseMethodDescriptor yX6_broken.desc).map (fun d => d.parameters.length) = some 1 := by decide +kernel
abbrev rmX6_broken : Room := { frames := 4, cells := 0, slots := 0, locals := 90 }
set_option maxHeartbeats 4000000 in
set_option maxRecDepth 100000 in
theorem L_X6_broken_27 {τ : SX} {κ : KX} (C : Cx τ κ cX6_broken RX6 wsX6_broken rmX6_broken 4) (a : Nat → Nat) (mhd : Nat → Int32) (mas : Nat → Int32) (mbf : Nat → Int32) (mih : Int32) (mtp : Nat → Int32) (mtn : Int32) (mtk : Int32) (mfr : Int32) (mtt : Int32) (mvl : Int32) (miw : Int32) (mld : Nat → Int32) (mrw : Nat → Int32) (mrn : Int32) (mso : Nat → Int32) (msz : Nat → Int32) (mnu : Nat → Int32) (mhw : Nat → Int32) (mhh : Nat → Int32) (mhm : Nat → Int32) (mbo : Nat → Int32) (mrr : Int32) (mak : Int32) (man : Int32) (maa : Int32) (mip : Int32) (x1 : Int32) (Φ : Int32 × Int32 × (Nat → Int32) → Prop) (hE : ∀ (x2 : Int32) (x3 : Int32) (ss : Nat → Int32), (bS x3) → Φ (x2, x3, ss) → J τ κ 0 0 (wM τ a ss mhd mas mbf mih mtp mtn mtk mfr mtt mvl miw mld mrw mrn mso msz mnu mhw mhh mhm mbo mrr mak man maa mip) [(0, .ref (a 0)), (1, .int x1), (2, .int x2), (3, .int x3)] 53 []) : ∀ (N : Nat) (x2 : Int32) (x3 : Int32) (ss : Nat → Int32), ((60 : Int) - x2.toInt).toNat < N → (0 ≤ x2.toInt) → (x2.toInt ≤ 60) → (okS ss) → (bS x3) → Φ (l_X6_broken_27 N x2 x3 ss) → J τ κ 0 0 (wM τ a ss mhd mas mbf mih mtp mtn mtk mfr mtt mvl miw mld mrw mrn mso msz mnu mhw mhh mhm mbo mrr mak man maa mip) [(0, .ref (a 0)), (1, .int x1), (2, .int x2), (3, .int x3)] 27 [] := by
  have hiX6 : ∀ w ∈ wsX60, w ∈ wsX6_broken := fun w h => List.mem_cons_of_mem _ (List.mem_append_right _ h)
  intro N
  induction N with
  | zero => intro x2 x3 ss hm; exact absurd hm (Nat.not_lt_zero _)
  | succ N ih =>
    intro x2 x3 ss hm h0 h1 hok hb hR
    rw [l_X6_broken_27] at hR
    refine j_iload_n C dX6_broken_27 28 rfl rfl 2 rfl ?_
    refine j_bipush (v := 60) C dX6_broken_28 30 rfl (by decide) ?_
    refine j_icmp_ge C dX6_broken_30 53 rfl 33 rfl (fun c5 => ?_) (fun c5 => ?_)
    · rw [if_pos c5] at hR
      exact j_lv [0, 1, 2, 3] [(0, .ref (a 0)), (1, .int x1), (2, .int x2), (3, .int x3)] rfl (hE _ _ _ hb hR)
    · rw [if_neg c5] at hR
      have hs := cnt_step (B := 60) h0 (by decide) (by decide) c5
      refine j_iload_n C dX6_broken_33 34 rfl rfl 3 rfl ?_
      refine j_if_ne C dX6_broken_34 53 rfl 37 rfl (fun c6 => ?_) (fun c6 => ?_)
      · rw [if_neg c6] at hR
        exact j_lv [0, 1, 2, 3] [(0, .ref (a 0)), (1, .int x1), (2, .int x2), (3, .int x3)] rfl (hE _ _ _ hb hR)
      · rw [if_pos c6] at hR
        refine j_aload_n C dX6_broken_37 38 rfl rfl 0 rfl ?_
        refine j_cv0I (na := 0) C dX6_broken_38 41 rfl (c_X6_sounding τ a ss mhd mas mbf mih mtp mtn mtk mfr mtt mvl miw mld mrw mrn mso msz mnu mhw mhh mhm mbo mrr mak man maa mip (by first | assumption | (unfold vp_in; decide) | decide)) gX6_broken_X6_sounding rfl rfl rfl qd_X6_sounding rfl ⟨by decide, by decide⟩ ⟨by decide, by decide⟩ rfl (Nat.le_of_ble_eq_true rfl) rfl 6 0 rfl rfl (fun r7 u7 hX7 hn7 => ?_)
        obtain rfl := (Prod.mk.inj hX7).1
        refine j_istore_n C dX6_broken_41 42 rfl rfl (by decide) [(3, .int (f_X6_sounding ss)), (0, .ref (a 0)), (1, .int x1), (2, .int x2)] rfl ?_
        refine j_aload_n C dX6_broken_42 43 rfl rfl 1 rfl ?_
        refine j_iload_n C dX6_broken_43 44 rfl rfl 0 rfl ?_
        refine j_cv0V (na := 1) C dX6_broken_44 47 rfl (c_X6_goesBy τ a ss mhd mas mbf mih mtp mtn mtk mfr mtt mvl miw mld mrw mrn mso msz mnu mhw mhh mhm mbo mrr mak man maa mip (f_X6_sounding ss) (by first | assumption | (unfold vp_in; decide) | decide)) gX6_broken_X6_goesBy rfl rfl rfl qd_X6_goesBy rfl ⟨by decide, by decide⟩ ⟨by decide, by decide⟩ rfl (Nat.le_of_ble_eq_true rfl) rfl 6 0 rfl rfl (fun u8 hX8 => ?_)
        obtain ⟨ss_8, rfl⟩ : ∃ z, z = u8 := ⟨_, rfl⟩
        rw [hX8] at hR; rw [pr1_mk ss_8] at hR
        have hok8 : okS ss_8 := by rw [← hX8]; exact ok_goesBy (by assumption)
        refine j_iinc (v := (x2 + 1)) C dX6_broken_47 50 rfl 3 rfl rfl (by decide) [(2, .int (x2 + 1)), (3, .int (f_X6_sounding ss)), (0, .ref (a 0)), (1, .int x1)] rfl ?_
        refine j_goto C dX6_broken_50 27 rfl ?_
        exact j_lv [2, 3, 0, 1] [(0, .ref (a 0)), (1, .int x1), (2, .int (x2 + 1)), (3, .int (f_X6_sounding ss))] rfl (ih _ _ _ (by have := hs.2.2.1; omega) hs.1 hs.2.1 (by assumption) (bS_sounding hok) hR)
set_option maxHeartbeats 4000000 in
set_option maxRecDepth 100000 in
theorem c_X6_broken (τ : SX) (a : Nat → Nat) (ss : Nat → Int32) (mhd : Nat → Int32) (mas : Nat → Int32) (mbf : Nat → Int32) (mih : Int32) (mtp : Nat → Int32) (mtn : Int32) (mtk : Int32) (mfr : Int32) (mtt : Int32) (mvl : Int32) (miw : Int32) (mld : Nat → Int32) (mrw : Nat → Int32) (mrn : Int32) (mso : Nat → Int32) (msz : Nat → Int32) (mnu : Nat → Int32) (mhw : Nat → Int32) (mhh : Nat → Int32) (mhm : Nat → Int32) (mbo : Nat → Int32) (mrr : Int32) (mak : Int32) (man : Int32) (maa : Int32) (mip : Int32) (x1 : Int32) (hok : okS ss) (sz : Nat) : McI τ yX6_broken wsX6_broken rmX6_broken .int [.ref (a 0), .int x1] (wM τ a ss mhd mas mbf mih mtp mtn mtk mfr mtt mvl miw mld mrw mrn mso msz mnu mhw mhh mhm mbo mrr mak man maa mip) (fun u : (Nat → Int32) × (Nat → Int32) => (wM τ a u.1 mhd u.2 mbf mih mtp mtn mtk mfr mtt mvl miw mld mrw mrn mso msz mnu mhw mhh mhm mbo mrr mak man maa mip)) (f_X6_broken ss mas x1) sz := by
  refine mc_I (cc := cX6_broken) (own := RX6) [(0, .ref (a 0)), (1, .int x1)] rfl (by decide) rfl rfl (Nat.le_of_ble_eq_true rfl) (fun κ C hR => ?_)
  have hiX6 : ∀ w ∈ wsX60, w ∈ wsX6_broken := fun w h => List.mem_cons_of_mem _ (List.mem_append_right _ h)
  unfold f_X6_broken at hR
  refine j_iload_n C dX6_broken_0 1 rfl rfl 1 rfl ?_
  refine j_i2l C dX6_broken_1 2 rfl ?_
  refine j_lconst (v := 0) C dX6_broken_2 3 rfl (by decide) ?_
  refine j_lconst (v := 1) C dX6_broken_3 4 rfl (by decide) ?_
  refine j_cs0I (na := 3) C dX6_broken_4 7 rfl (c_X6_isIn τ  ((x1 : Int32).toInt64) (0 : Int64) (1 : Int64) ) rfl ggX6_broken_X6_isIn rfl rfl rfl kX6_broken_iRX6 kX6_broken_m57 kX6_broken_sX6_isIn qd_X6_isIn rfl ⟨by decide, by decide⟩ ⟨by decide, by decide⟩ rfl (Nat.le_of_ble_eq_true rfl) (fun r1 u1 hX1 hn1 => ?_)
  obtain rfl := (Prod.mk.inj hX1).1
  refine j_if_ne C dX6_broken_7 12 rfl 10 rfl (fun c2 => ?_) (fun c2 => ?_)
  · rw [if_neg c2] at hR
    refine j_aload_n C dX6_broken_12 13 rfl rfl 0 rfl ?_
    refine j_get C dX6_broken_13 16 rfl hiX6 0 rfl rfl 0 (by decide) rfl kX6_broken_f7 rfl ?_
    refine j_aload_n C dX6_broken_16 17 rfl rfl 0 rfl ?_
    refine j_get C dX6_broken_17 20 rfl hiX6 0 rfl rfl 2 (by decide) rfl kX6_broken_f16 rfl ?_
    refine j_csWV (na := 2) C dX6_broken_20 23 rfl (c_X6_copyRow__sa τ a ss mhd mas mbf mih mtp mtn mtk mfr mtt mvl miw mld mrw mrn mso msz mnu mhw mhh mhm mbo mrr mak man maa mip ) ggX6_broken_X6_copyRow rfl rfl rfl kX6_broken_iRX6 kX6_broken_m138 kX6_broken_sX6_copyRow qd_X6_copyRow__sa rfl ⟨by decide, by decide⟩ ⟨by decide, by decide⟩ rfl (Nat.le_of_ble_eq_true rfl) rfl (fun u3 hX3 => ?_)
    obtain ⟨mas_3, rfl⟩ : ∃ z, z = u3 := ⟨_, rfl⟩
    rw [hX3] at hR; rw [pr1_mk mas_3] at hR
    have hoka3 : okS mas_3 := by rw [← hX3]; exact ok_cp_sa (by assumption)
    refine j_iconst (v := 0) C dX6_broken_23 24 rfl (by decide) ?_
    refine j_istore_n C dX6_broken_24 25 rfl rfl (by decide) [(2, .int 0), (0, .ref (a 0)), (1, .int x1)] rfl ?_
    refine j_iconst (v := 0) C dX6_broken_25 26 rfl (by decide) ?_
    refine j_istore_n C dX6_broken_26 27 rfl rfl (by decide) [(3, .int 0), (2, .int 0), (0, .ref (a 0)), (1, .int x1)] rfl ?_
    refine j_lv [2, 3, 1, 0] [(0, .ref (a 0)), (1, .int x1), (2, .int 0), (3, .int 0)] rfl (L_X6_broken_27 C a mhd mas_3 mbf mih mtp mtn mtk mfr mtt mvl miw mld mrw mrn mso msz mnu mhw mhh mhm mbo mrr mak man maa mip x1  (fun (o : Int32 × Int32 × (Nat → Int32)) => Rt τ κ cX6_broken .int (fun u : (Nat → Int32) × (Nat → Int32) => (wM τ a u.1 mhd u.2 mbf mih mtp mtn mtk mfr mtt mvl miw mld mrw mrn mso msz mnu mhw mhh mhm mbo mrr mak man maa mip)) (pr3 o (fun x2_4 x3_4 ss_4 => pr1 (f_X6_copyRow__as ss_4 mas_3) (fun ss_9 => if (x3_4 = 0) then (((-3) : Int32), ss_9, mas_3) else (if (x1 = 0) then (x2_4, ss_9, mas_3) else ((f_X6_leastOf x3_4), ss_9, mas_3)))))) (fun x2_4 x3_4 ss_4 ho hR => ?_) 300 (0 : Int32) (0 : Int32) ss (by decide) (by decide) (by decide) (by assumption) bS0 hR)
    rw [pr3_mk x2_4 x3_4 ss_4] at hR
    refine j_aload_n C dX6_broken_53 54 rfl rfl 0 rfl ?_
    refine j_get C dX6_broken_54 57 rfl hiX6 0 rfl rfl 2 (by decide) rfl kX6_broken_f16 rfl ?_
    refine j_aload_n C dX6_broken_57 58 rfl rfl 0 rfl ?_
    refine j_get C dX6_broken_58 61 rfl hiX6 0 rfl rfl 0 (by decide) rfl kX6_broken_f7 rfl ?_
    refine j_csWV (na := 2) C dX6_broken_61 64 rfl (c_X6_copyRow__as τ a ss_4 mhd mas_3 mbf mih mtp mtn mtk mfr mtt mvl miw mld mrw mrn mso msz mnu mhw mhh mhm mbo mrr mak man maa mip ) ggX6_broken_X6_copyRow rfl rfl rfl kX6_broken_iRX6 kX6_broken_m138 kX6_broken_sX6_copyRow qd_X6_copyRow__as rfl ⟨by decide, by decide⟩ ⟨by decide, by decide⟩ rfl (Nat.le_of_ble_eq_true rfl) rfl (fun u9 hX9 => ?_)
    obtain ⟨ss_9, rfl⟩ : ∃ z, z = u9 := ⟨_, rfl⟩
    rw [hX9] at hR; rw [pr1_mk ss_9] at hR
    have hok9 : okS ss_9 := by rw [← hX9]; exact ok_cp_as (by assumption)
    refine j_iload_n C dX6_broken_64 65 rfl rfl 3 rfl ?_
    refine j_if_ne C dX6_broken_65 73 rfl 68 rfl (fun c10 => ?_) (fun c10 => ?_)
    · rw [if_neg c10] at hR
      refine j_iload_n C dX6_broken_73 74 rfl rfl 1 rfl ?_
      refine j_if_ne C dX6_broken_74 81 rfl 77 rfl (fun c11 => ?_) (fun c11 => ?_)
      · rw [if_neg c11] at hR
        refine j_iload_n C dX6_broken_81 82 rfl rfl 3 rfl ?_
        refine j_cs0I (na := 1) C dX6_broken_82 85 rfl (c_X6_leastOf τ  x3_4 ho (by assumption)) rfl ggX6_broken_X6_leastOf rfl rfl rfl kX6_broken_iRX6 kX6_broken_m225 kX6_broken_sX6_leastOf qd_X6_leastOf rfl ⟨by decide, by decide⟩ ⟨by decide, by decide⟩ rfl (Nat.le_of_ble_eq_true rfl) (fun r12 u12 hX12 hn12 => ?_)
        obtain rfl := (Prod.mk.inj hX12).1
        exact Rt.ret (hR) rfl dX6_broken_85
      · rw [if_pos c11] at hR
        refine j_iload_n C dX6_broken_77 78 rfl rfl 2 rfl ?_
        refine j_goto C dX6_broken_78 85 rfl ?_
        exact Rt.ret (hR) rfl dX6_broken_85
    · rw [if_pos c10] at hR
      refine j_bipush (v := (-3)) C dX6_broken_68 70 rfl (by decide) ?_
      refine j_goto C dX6_broken_70 85 rfl ?_
      exact Rt.ret (hR) rfl dX6_broken_85
  · rw [if_pos c2] at hR
    refine j_iconst (v := (-1)) C dX6_broken_10 11 rfl (by decide) ?_
    exact Rt.ret (hR) rfl dX6_broken_11

-- X6_pairFor
def l_X6_pairFor_77 (x3 : Int32) (x4 : Int32) (x5 : Int32) : Nat → Int32 → Int32 → Int32 → (Nat → Int32) → (Nat → Int32) → Int32 × Int32 × Int32 × (Nat → Int32) × (Nat → Int32)
  | 0, x8, x9, x10, ss, mas => (x8, x9, x10, ss, mas)
  | N + 1, x8, x9, x10, ss, mas => if (81 ≤ x10) then (x8, x9, x10, ss, mas) else (pr3 (f_X6_lengthBy (upd (upd ss (x4).toNatClampNeg (x10 / 9)) (x5).toNatClampNeg (x10 - x10 / 9 * 9)) mas x3 (0 : Int32)) (fun r10 ss_10 mas_10 => pr1 (if (r10 ≤ x9) then x8 else (((x10 / 9) * 10) + (x10 - x10 / 9 * 9))) (fun j120_0 => l_X6_pairFor_77 x3 x4 x5 N j120_0 (f_X6_greatest x9 r10) (x10 + 1) ss_10 mas_10)))
def f_X6_pairFor (ss : Nat → Int32) (mas : Nat → Int32) (x1 : Int32) (x2 : Int32) (x3 : Int32) : Int32 × (Nat → Int32) × (Nat → Int32) := if ((f_X6_isOne ss x1) = 0) then (((-1) : Int32), ss, mas) else (if ((f_X6_isOne ss x2) = 0) then (((-1) : Int32), ss, mas) else (if (x1 = x2) then (((-1) : Int32), ss, mas) else (if ((f_X6_isShort x3) = 0) then (((-1) : Int32), ss, mas) else (pr5 (l_X6_pairFor_77 x3 (((10 : Int32) + ((5 : Int32) * x1)) + 2) (((10 : Int32) + ((5 : Int32) * x2)) + 2) 300 (0 : Int32) ((-1) : Int32) (0 : Int32) ss mas) (fun x8_8 x9_8 x10_8 ss_8 mas_8 => (x8_8, (upd (upd ss_8 ((((10 : Int32) + ((5 : Int32) * x1)) + 2)).toNatClampNeg (ss ((((10 : Int32) + ((5 : Int32) * x1)) + 2)).toNatClampNeg)) ((((10 : Int32) + ((5 : Int32) * x2)) + 2)).toNatClampNeg (ss ((((10 : Int32) + ((5 : Int32) * x2)) + 2)).toNatClampNeg)), mas_8))))))
theorem kX6_pairFor_iRX6 : Cond.initialized yX6_greatest.cls ∈ wsX6_pairFor := by decide +kernel
theorem kX6_pairFor_sX6_isShort : Cond.static yX6_isShort ∈ wsX6_pairFor := by decide +kernel
theorem kX6_pairFor_m232 : Cond.methodLink RX6 232 yX6_isShort ∈ wsX6_pairFor := by decide +kernel
theorem kX6_pairFor_f7 : Cond.fieldLink RX6 7 "TwoMinutesModel" "s" "[I" ∈ wsX6_pairFor := by decide +kernel
theorem kX6_pairFor_sX6_greatest : Cond.static yX6_greatest ∈ wsX6_pairFor := by decide +kernel
theorem kX6_pairFor_m195 : Cond.methodLink RX6 195 yX6_greatest ∈ wsX6_pairFor := by decide +kernel
theorem qd_X6_pairFor : yX6_pairFor.cls = RX6 ∧ yX6_pairFor.cls ≠ "java/lang/invoke/MethodHandle" ∧ yX6_pairFor.cls ≠ "java/lang/invoke/VarHandle" ∧ (parseMethodDescriptor yX6_pairFor.desc).map (fun d => d.parameters.length) = some 3 := by decide +kernel
abbrev rmX6_pairFor : Room := { frames := 6, cells := 0, slots := 0, locals := 137 }
set_option maxHeartbeats 4000000 in
set_option maxRecDepth 100000 in
theorem L_X6_pairFor_77 {τ : SX} {κ : KX} (C : Cx τ κ cX6_pairFor RX6 wsX6_pairFor rmX6_pairFor 12) (a : Nat → Nat) (mhd : Nat → Int32) (mbf : Nat → Int32) (mih : Int32) (mtp : Nat → Int32) (mtn : Int32) (mtk : Int32) (mfr : Int32) (mtt : Int32) (mvl : Int32) (miw : Int32) (mld : Nat → Int32) (mrw : Nat → Int32) (mrn : Int32) (mso : Nat → Int32) (msz : Nat → Int32) (mnu : Nat → Int32) (mhw : Nat → Int32) (mhh : Nat → Int32) (mhm : Nat → Int32) (mbo : Nat → Int32) (mrr : Int32) (mak : Int32) (man : Int32) (maa : Int32) (mip : Int32) (x1 : Int32) (x2 : Int32) (x3 : Int32) (x4 : Int32) (x5 : Int32) (x6 : Int32) (x7 : Int32) (hx : x3.toInt ≤ 60) (ha : vp_in x4 50) (hb : vp_in x5 50) (hq : ∀ (s : Nat → Int32) (v : Int32), okS s → okS (upd s (x4).toNatClampNeg v)) (hq2 : ∀ (s : Nat → Int32) (v : Int32), okS s → okS (upd s (x5).toNatClampNeg v)) (Φ : Int32 × Int32 × Int32 × (Nat → Int32) × (Nat → Int32) → Prop) (hE : ∀ (x8 : Int32) (x9 : Int32) (x10 : Int32) (ss : Nat → Int32) (mas : Nat → Int32), Φ (x8, x9, x10, ss, mas) → J τ κ 0 0 (wM τ a ss mhd mas mbf mih mtp mtn mtk mfr mtt mvl miw mld mrw mrn mso msz mnu mhw mhh mhm mbo mrr mak man maa mip) [(0, .ref (a 0)), (1, .int x1), (2, .int x2), (3, .int x3), (4, .int x4), (5, .int x5), (6, .int x6), (7, .int x7), (8, .int x8), (9, .int x9), (10, .int x10)] 159 []) : ∀ (N : Nat) (x8 : Int32) (x9 : Int32) (x10 : Int32) (ss : Nat → Int32) (mas : Nat → Int32), ((81 : Int) - x10.toInt).toNat < N → (0 ≤ x10.toInt) → (x10.toInt ≤ 81) → (okS ss) → Φ (l_X6_pairFor_77 x3 x4 x5 N x8 x9 x10 ss mas) → J τ κ 0 0 (wM τ a ss mhd mas mbf mih mtp mtn mtk mfr mtt mvl miw mld mrw mrn mso msz mnu mhw mhh mhm mbo mrr mak man maa mip) [(0, .ref (a 0)), (1, .int x1), (2, .int x2), (3, .int x3), (4, .int x4), (5, .int x5), (6, .int x6), (7, .int x7), (8, .int x8), (9, .int x9), (10, .int x10)] 77 [] := by
  have hiX6 : ∀ w ∈ wsX60, w ∈ wsX6_pairFor := fun w h => List.mem_cons_of_mem _ (List.mem_append_right _ h)
  intro N
  induction N with
  | zero => intro x8 x9 x10 ss mas hm; exact absurd hm (Nat.not_lt_zero _)
  | succ N ih =>
    intro x8 x9 x10 ss mas hm h0 h1 hok hR
    rw [l_X6_pairFor_77] at hR
    refine j_iload C dX6_pairFor_77 79 rfl 10 rfl ?_
    refine j_bipush (v := 81) C dX6_pairFor_79 81 rfl (by decide) ?_
    refine j_icmp_ge C dX6_pairFor_81 159 rfl 84 rfl (fun c9 => ?_) (fun c9 => ?_)
    · rw [if_pos c9] at hR
      exact j_lv [0, 1, 2, 3, 4, 5, 6, 7, 8, 9, 10] [(0, .ref (a 0)), (1, .int x1), (2, .int x2), (3, .int x3), (4, .int x4), (5, .int x5), (6, .int x6), (7, .int x7), (8, .int x8), (9, .int x9), (10, .int x10)] rfl (hE _ _ _ _ _  hR)
    · rw [if_neg c9] at hR
      have hs := cnt_step (B := 81) h0 (by decide) (by decide) c9
      refine j_aload_n C dX6_pairFor_84 85 rfl rfl 0 rfl ?_
      refine j_get C dX6_pairFor_85 88 rfl hiX6 0 rfl rfl 0 (by decide) rfl kX6_pairFor_f7 rfl ?_
      refine j_iload C dX6_pairFor_88 90 rfl 4 rfl ?_
      refine j_iload C dX6_pairFor_90 92 rfl 10 rfl ?_
      refine j_bipush (v := 9) C dX6_pairFor_92 94 rfl (by decide) ?_
      refine j_idiv C dX6_pairFor_94 95 rfl (by decide) ?_
      refine j_iast C dX6_pairFor_95 96 rfl 1 rfl (ha) (x4).toNatClampNeg rfl (wM τ a (upd ss (x4).toNatClampNeg (x10 / 9)) mhd mas mbf mih mtp mtn mtk mfr mtt mvl miw mld mrw mrn mso msz mnu mhw mhh mhm mbo mrr mak man maa mip) rfl ?_
      refine j_aload_n C dX6_pairFor_96 97 rfl rfl 0 rfl ?_
      refine j_get C dX6_pairFor_97 100 rfl hiX6 0 rfl rfl 0 (by decide) rfl kX6_pairFor_f7 rfl ?_
      refine j_iload C dX6_pairFor_100 102 rfl 5 rfl ?_
      refine j_iload C dX6_pairFor_102 104 rfl 10 rfl ?_
      refine j_bipush (v := 9) C dX6_pairFor_104 106 rfl (by decide) ?_
      refine j_irem C dX6_pairFor_106 107 rfl (by decide) ?_
      refine j_iast C dX6_pairFor_107 108 rfl 1 rfl (hb) (x5).toNatClampNeg rfl (wM τ a (upd (upd ss (x4).toNatClampNeg (x10 / 9)) (x5).toNatClampNeg (x10 - x10 / 9 * 9)) mhd mas mbf mih mtp mtn mtk mfr mtt mvl miw mld mrw mrn mso msz mnu mhw mhh mhm mbo mrr mak man maa mip) rfl ?_
      refine j_aload_n C dX6_pairFor_108 109 rfl rfl 0 rfl ?_
      refine j_iload_n C dX6_pairFor_109 110 rfl rfl 3 rfl ?_
      refine j_iconst (v := 0) C dX6_pairFor_110 111 rfl (by decide) ?_
      refine j_cv0I (na := 2) C dX6_pairFor_111 114 rfl (c_X6_lengthBy τ a (upd (upd ss (x4).toNatClampNeg (x10 / 9)) (x5).toNatClampNeg (x10 - x10 / 9 * 9)) mhd mas mbf mih mtp mtn mtk mfr mtt mvl miw mld mrw mrn mso msz mnu mhw mhh mhm mbo mrr mak man maa mip x3 (0 : Int32) (hq2 _ _ (hq _ _ hok)) hx) gX6_pairFor_X6_lengthBy rfl rfl rfl qd_X6_lengthBy rfl ⟨by decide, by decide⟩ ⟨by decide, by decide⟩ rfl (Nat.le_of_ble_eq_true rfl) rfl 6 0 rfl rfl (fun r10 u10 hX10 hn10 => ?_)
      obtain ⟨ss_10, mas_10⟩ := u10
      rw [hX10] at hR; rw [pr3_mk r10 ss_10 mas_10] at hR
      have hok10 : okS ss_10 := ok_lengthBy (hq2 _ _ (hq _ _ hok)) hX10
      refine j_istore C dX6_pairFor_114 116 rfl (by decide) [(11, .int r10), (0, .ref (a 0)), (1, .int x1), (2, .int x2), (3, .int x3), (4, .int x4), (5, .int x5), (6, .int x6), (7, .int x7), (8, .int x8), (9, .int x9), (10, .int x10)] rfl ?_
      refine j_iload C dX6_pairFor_116 118 rfl 0 rfl ?_
      refine j_iload C dX6_pairFor_118 120 rfl 10 rfl ?_
      have J120 : ∀ (j120_0 : Int32), Φ (l_X6_pairFor_77 x3 x4 x5 N j120_0 (f_X6_greatest x9 r10) (x10 + 1) ss_10 mas_10) → J τ κ 0 0 (wM τ a ss_10 mhd mas_10 mbf mih mtp mtn mtk mfr mtt mvl miw mld mrw mrn mso msz mnu mhw mhh mhm mbo mrr mak man maa mip) [(0, .ref (a 0)), (1, .int x1), (2, .int x2), (3, .int x3), (4, .int x4), (5, .int x5), (6, .int x6), (7, .int x7), (8, .int x8), (9, .int x9), (10, .int x10), (11, .int r10)] 142 [.int j120_0] := by
        intro j120_0  hR
        refine j_istore C dX6_pairFor_142 144 rfl (by decide) [(8, .int j120_0), (0, .ref (a 0)), (1, .int x1), (2, .int x2), (3, .int x3), (4, .int x4), (5, .int x5), (6, .int x6), (7, .int x7), (9, .int x9), (10, .int x10), (11, .int r10)] rfl ?_
        refine j_iload C dX6_pairFor_144 146 rfl 9 rfl ?_
        refine j_iload C dX6_pairFor_146 148 rfl 11 rfl ?_
        refine j_cs0I (na := 2) C dX6_pairFor_148 151 rfl (c_X6_greatest τ  x9 r10 ) rfl ggX6_pairFor_X6_greatest rfl rfl rfl kX6_pairFor_iRX6 kX6_pairFor_m195 kX6_pairFor_sX6_greatest qd_X6_greatest rfl ⟨by decide, by decide⟩ ⟨by decide, by decide⟩ rfl (Nat.le_of_ble_eq_true rfl) (fun r12 u12 hX12 hn12 => ?_)
        obtain rfl := (Prod.mk.inj hX12).1
        refine j_istore C dX6_pairFor_151 153 rfl (by decide) [(9, .int (f_X6_greatest x9 r10)), (8, .int j120_0), (0, .ref (a 0)), (1, .int x1), (2, .int x2), (3, .int x3), (4, .int x4), (5, .int x5), (6, .int x6), (7, .int x7), (10, .int x10), (11, .int r10)] rfl ?_
        refine j_iinc (v := (x10 + 1)) C dX6_pairFor_153 156 rfl 10 rfl rfl (by decide) [(10, .int (x10 + 1)), (9, .int (f_X6_greatest x9 r10)), (8, .int j120_0), (0, .ref (a 0)), (1, .int x1), (2, .int x2), (3, .int x3), (4, .int x4), (5, .int x5), (6, .int x6), (7, .int x7), (11, .int r10)] rfl ?_
        refine j_goto C dX6_pairFor_156 77 rfl ?_
        exact j_lv [3, 4, 5, 6, 7, 8, 9, 10, 2, 1, 0] [(0, .ref (a 0)), (1, .int x1), (2, .int x2), (3, .int x3), (4, .int x4), (5, .int x5), (6, .int x6), (7, .int x7), (8, .int j120_0), (9, .int (f_X6_greatest x9 r10)), (10, .int (x10 + 1))] rfl (ih _ _ _ _ _ (by have := hs.2.2.1; omega) hs.1 hs.2.1 (by assumption) hR)
      refine j_icmp_le C dX6_pairFor_120 140 rfl 123 rfl (fun c11 => ?_) (fun c11 => ?_)
      · rw [if_pos c11] at hR
        refine j_iload C dX6_pairFor_140 142 rfl 9 rfl ?_
        rw [pr1_mk x8] at hR
        exact j_lv [1, 2, 3, 4, 5, 6, 7, 8, 9, 10, 11, 0] [(0, .ref (a 0)), (1, .int x1), (2, .int x2), (3, .int x3), (4, .int x4), (5, .int x5), (6, .int x6), (7, .int x7), (8, .int x8), (9, .int x9), (10, .int x10), (11, .int r10)] rfl (J120 _  hR)
      · rw [if_neg c11] at hR
        refine j_iload C dX6_pairFor_123 125 rfl 11 rfl ?_
        refine j_bipush (v := 9) C dX6_pairFor_125 127 rfl (by decide) ?_
        refine j_idiv C dX6_pairFor_127 128 rfl (by decide) ?_
        refine j_bipush (v := 10) C dX6_pairFor_128 130 rfl (by decide) ?_
        refine j_imul C dX6_pairFor_130 131 rfl ?_
        refine j_iload C dX6_pairFor_131 133 rfl 11 rfl ?_
        refine j_bipush (v := 9) C dX6_pairFor_133 135 rfl (by decide) ?_
        refine j_irem C dX6_pairFor_135 136 rfl (by decide) ?_
        refine j_iadd C dX6_pairFor_136 137 rfl ?_
        refine j_goto C dX6_pairFor_137 142 rfl ?_
        rw [pr1_mk (((x10 / 9) * 10) + (x10 - x10 / 9 * 9))] at hR
        exact j_lv [1, 2, 3, 4, 5, 6, 7, 8, 9, 10, 11, 0] [(0, .ref (a 0)), (1, .int x1), (2, .int x2), (3, .int x3), (4, .int x4), (5, .int x5), (6, .int x6), (7, .int x7), (8, .int x8), (9, .int x9), (10, .int x10), (11, .int r10)] rfl (J120 _  hR)
set_option maxHeartbeats 4000000 in
set_option maxRecDepth 100000 in
theorem c_X6_pairFor (τ : SX) (a : Nat → Nat) (ss : Nat → Int32) (mhd : Nat → Int32) (mas : Nat → Int32) (mbf : Nat → Int32) (mih : Int32) (mtp : Nat → Int32) (mtn : Int32) (mtk : Int32) (mfr : Int32) (mtt : Int32) (mvl : Int32) (miw : Int32) (mld : Nat → Int32) (mrw : Nat → Int32) (mrn : Int32) (mso : Nat → Int32) (msz : Nat → Int32) (mnu : Nat → Int32) (mhw : Nat → Int32) (mhh : Nat → Int32) (mhm : Nat → Int32) (mbo : Nat → Int32) (mrr : Int32) (mak : Int32) (man : Int32) (maa : Int32) (mip : Int32) (x1 : Int32) (x2 : Int32) (x3 : Int32) (hok : okS ss) (sz : Nat) : McI τ yX6_pairFor wsX6_pairFor rmX6_pairFor .int [.ref (a 0), .int x1, .int x2, .int x3] (wM τ a ss mhd mas mbf mih mtp mtn mtk mfr mtt mvl miw mld mrw mrn mso msz mnu mhw mhh mhm mbo mrr mak man maa mip) (fun u : (Nat → Int32) × (Nat → Int32) => (wM τ a u.1 mhd u.2 mbf mih mtp mtn mtk mfr mtt mvl miw mld mrw mrn mso msz mnu mhw mhh mhm mbo mrr mak man maa mip)) (f_X6_pairFor ss mas x1 x2 x3) sz := by
  refine mc_I (cc := cX6_pairFor) (own := RX6) [(0, .ref (a 0)), (1, .int x1), (2, .int x2), (3, .int x3)] rfl (by decide) rfl rfl (Nat.le_of_ble_eq_true rfl) (fun κ C hR => ?_)
  have hiX6 : ∀ w ∈ wsX60, w ∈ wsX6_pairFor := fun w h => List.mem_cons_of_mem _ (List.mem_append_right _ h)
  unfold f_X6_pairFor at hR
  refine j_aload_n C dX6_pairFor_0 1 rfl rfl 0 rfl ?_
  refine j_iload_n C dX6_pairFor_1 2 rfl rfl 1 rfl ?_
  refine j_cv0I (na := 1) C dX6_pairFor_2 5 rfl (c_X6_isOne τ a ss mhd mas mbf mih mtp mtn mtk mfr mtt mvl miw mld mrw mrn mso msz mnu mhw mhh mhm mbo mrr mak man maa mip x1 (by first | assumption | (unfold vp_in; decide) | decide)) gX6_pairFor_X6_isOne rfl rfl rfl qd_X6_isOne rfl ⟨by decide, by decide⟩ ⟨by decide, by decide⟩ rfl (Nat.le_of_ble_eq_true rfl) rfl 6 0 rfl rfl (fun r1 u1 hX1 hn1 => ?_)
  obtain rfl := (Prod.mk.inj hX1).1
  refine j_if_eq C dX6_pairFor_5 28 rfl 8 rfl (fun c2 => ?_) (fun c2 => ?_)
  · rw [if_pos c2] at hR
    refine j_iconst (v := (-1)) C dX6_pairFor_28 29 rfl (by decide) ?_
    exact Rt.ret (hR) rfl dX6_pairFor_29
  · rw [if_neg c2] at hR
    refine j_aload_n C dX6_pairFor_8 9 rfl rfl 0 rfl ?_
    refine j_iload_n C dX6_pairFor_9 10 rfl rfl 2 rfl ?_
    refine j_cv0I (na := 1) C dX6_pairFor_10 13 rfl (c_X6_isOne τ a ss mhd mas mbf mih mtp mtn mtk mfr mtt mvl miw mld mrw mrn mso msz mnu mhw mhh mhm mbo mrr mak man maa mip x2 (by first | assumption | (unfold vp_in; decide) | decide)) gX6_pairFor_X6_isOne rfl rfl rfl qd_X6_isOne rfl ⟨by decide, by decide⟩ ⟨by decide, by decide⟩ rfl (Nat.le_of_ble_eq_true rfl) rfl 6 0 rfl rfl (fun r3 u3 hX3 hn3 => ?_)
    obtain rfl := (Prod.mk.inj hX3).1
    refine j_if_eq C dX6_pairFor_13 28 rfl 16 rfl (fun c4 => ?_) (fun c4 => ?_)
    · rw [if_pos c4] at hR
      refine j_iconst (v := (-1)) C dX6_pairFor_28 29 rfl (by decide) ?_
      exact Rt.ret (hR) rfl dX6_pairFor_29
    · rw [if_neg c4] at hR
      refine j_iload_n C dX6_pairFor_16 17 rfl rfl 1 rfl ?_
      refine j_iload_n C dX6_pairFor_17 18 rfl rfl 2 rfl ?_
      refine j_icmp_eq C dX6_pairFor_18 28 rfl 21 rfl (fun c5 => ?_) (fun c5 => ?_)
      · rw [if_pos c5] at hR
        refine j_iconst (v := (-1)) C dX6_pairFor_28 29 rfl (by decide) ?_
        exact Rt.ret (hR) rfl dX6_pairFor_29
      · rw [if_neg c5] at hR
        refine j_iload_n C dX6_pairFor_21 22 rfl rfl 3 rfl ?_
        refine j_cs0I (na := 1) C dX6_pairFor_22 25 rfl (c_X6_isShort τ  x3 ) rfl ggX6_pairFor_X6_isShort rfl rfl rfl kX6_pairFor_iRX6 kX6_pairFor_m232 kX6_pairFor_sX6_isShort qd_X6_isShort rfl ⟨by decide, by decide⟩ ⟨by decide, by decide⟩ rfl (Nat.le_of_ble_eq_true rfl) (fun r6 u6 hX6 hn6 => ?_)
        obtain rfl := (Prod.mk.inj hX6).1
        refine j_if_ne C dX6_pairFor_25 30 rfl 28 rfl (fun c7 => ?_) (fun c7 => ?_)
        · rw [if_neg c7] at hR
          refine j_bipush (v := 10) C dX6_pairFor_30 32 rfl (by decide) ?_
          refine j_iconst (v := 5) C dX6_pairFor_32 33 rfl (by decide) ?_
          refine j_iload_n C dX6_pairFor_33 34 rfl rfl 1 rfl ?_
          refine j_imul C dX6_pairFor_34 35 rfl ?_
          refine j_iadd C dX6_pairFor_35 36 rfl ?_
          refine j_iconst (v := 2) C dX6_pairFor_36 37 rfl (by decide) ?_
          refine j_iadd C dX6_pairFor_37 38 rfl ?_
          refine j_istore C dX6_pairFor_38 40 rfl (by decide) [(4, .int (((10 : Int32) + ((5 : Int32) * x1)) + 2)), (0, .ref (a 0)), (1, .int x1), (2, .int x2), (3, .int x3)] rfl ?_
          refine j_bipush (v := 10) C dX6_pairFor_40 42 rfl (by decide) ?_
          refine j_iconst (v := 5) C dX6_pairFor_42 43 rfl (by decide) ?_
          refine j_iload_n C dX6_pairFor_43 44 rfl rfl 3 rfl ?_
          refine j_imul C dX6_pairFor_44 45 rfl ?_
          refine j_iadd C dX6_pairFor_45 46 rfl ?_
          refine j_iconst (v := 2) C dX6_pairFor_46 47 rfl (by decide) ?_
          refine j_iadd C dX6_pairFor_47 48 rfl ?_
          refine j_istore C dX6_pairFor_48 50 rfl (by decide) [(5, .int (((10 : Int32) + ((5 : Int32) * x2)) + 2)), (4, .int (((10 : Int32) + ((5 : Int32) * x1)) + 2)), (0, .ref (a 0)), (1, .int x1), (2, .int x2), (3, .int x3)] rfl ?_
          refine j_aload_n C dX6_pairFor_50 51 rfl rfl 2 rfl ?_
          refine j_get C dX6_pairFor_51 54 rfl hiX6 0 rfl rfl 0 (by decide) rfl kX6_pairFor_f7 rfl ?_
          refine j_iload C dX6_pairFor_54 56 rfl 1 rfl ?_
          refine j_iald C dX6_pairFor_56 57 rfl 1 rfl (its_in (o := x1) (w := 2) (m_one c2 hok) (by decide)) ((((10 : Int32) + ((5 : Int32) * x1)) + 2)).toNatClampNeg rfl ?_
          refine j_istore C dX6_pairFor_57 59 rfl (by decide) [(6, .int (ss ((((10 : Int32) + ((5 : Int32) * x1)) + 2)).toNatClampNeg)), (5, .int (((10 : Int32) + ((5 : Int32) * x2)) + 2)), (4, .int (((10 : Int32) + ((5 : Int32) * x1)) + 2)), (0, .ref (a 0)), (1, .int x1), (2, .int x2), (3, .int x3)] rfl ?_
          refine j_aload_n C dX6_pairFor_59 60 rfl rfl 3 rfl ?_
          refine j_get C dX6_pairFor_60 63 rfl hiX6 0 rfl rfl 0 (by decide) rfl kX6_pairFor_f7 rfl ?_
          refine j_iload C dX6_pairFor_63 65 rfl 1 rfl ?_
          refine j_iald C dX6_pairFor_65 66 rfl 1 rfl (its_in (o := x2) (w := 2) (m_one c4 hok) (by decide)) ((((10 : Int32) + ((5 : Int32) * x2)) + 2)).toNatClampNeg rfl ?_
          refine j_istore C dX6_pairFor_66 68 rfl (by decide) [(7, .int (ss ((((10 : Int32) + ((5 : Int32) * x2)) + 2)).toNatClampNeg)), (6, .int (ss ((((10 : Int32) + ((5 : Int32) * x1)) + 2)).toNatClampNeg)), (5, .int (((10 : Int32) + ((5 : Int32) * x2)) + 2)), (4, .int (((10 : Int32) + ((5 : Int32) * x1)) + 2)), (0, .ref (a 0)), (1, .int x1), (2, .int x2), (3, .int x3)] rfl ?_
          refine j_iconst (v := 0) C dX6_pairFor_68 69 rfl (by decide) ?_
          refine j_istore C dX6_pairFor_69 71 rfl (by decide) [(8, .int 0), (7, .int (ss ((((10 : Int32) + ((5 : Int32) * x2)) + 2)).toNatClampNeg)), (6, .int (ss ((((10 : Int32) + ((5 : Int32) * x1)) + 2)).toNatClampNeg)), (5, .int (((10 : Int32) + ((5 : Int32) * x2)) + 2)), (4, .int (((10 : Int32) + ((5 : Int32) * x1)) + 2)), (0, .ref (a 0)), (1, .int x1), (2, .int x2), (3, .int x3)] rfl ?_
          refine j_iconst (v := (-1)) C dX6_pairFor_71 72 rfl (by decide) ?_
          refine j_istore C dX6_pairFor_72 74 rfl (by decide) [(9, .int (-1)), (8, .int 0), (7, .int (ss ((((10 : Int32) + ((5 : Int32) * x2)) + 2)).toNatClampNeg)), (6, .int (ss ((((10 : Int32) + ((5 : Int32) * x1)) + 2)).toNatClampNeg)), (5, .int (((10 : Int32) + ((5 : Int32) * x2)) + 2)), (4, .int (((10 : Int32) + ((5 : Int32) * x1)) + 2)), (0, .ref (a 0)), (1, .int x1), (2, .int x2), (3, .int x3)] rfl ?_
          refine j_iconst (v := 0) C dX6_pairFor_74 75 rfl (by decide) ?_
          refine j_istore C dX6_pairFor_75 77 rfl (by decide) [(10, .int 0), (9, .int (-1)), (8, .int 0), (7, .int (ss ((((10 : Int32) + ((5 : Int32) * x2)) + 2)).toNatClampNeg)), (6, .int (ss ((((10 : Int32) + ((5 : Int32) * x1)) + 2)).toNatClampNeg)), (5, .int (((10 : Int32) + ((5 : Int32) * x2)) + 2)), (4, .int (((10 : Int32) + ((5 : Int32) * x1)) + 2)), (0, .ref (a 0)), (1, .int x1), (2, .int x2), (3, .int x3)] rfl ?_
          refine j_lv [7, 8, 9, 10, 6, 5, 4, 3, 2, 1, 0] [(0, .ref (a 0)), (1, .int x1), (2, .int x2), (3, .int x3), (4, .int (((10 : Int32) + ((5 : Int32) * x1)) + 2)), (5, .int (((10 : Int32) + ((5 : Int32) * x2)) + 2)), (6, .int (ss ((((10 : Int32) + ((5 : Int32) * x1)) + 2)).toNatClampNeg)), (7, .int (ss ((((10 : Int32) + ((5 : Int32) * x2)) + 2)).toNatClampNeg)), (8, .int 0), (9, .int (-1)), (10, .int 0)] rfl (L_X6_pairFor_77 C a mhd mbf mih mtp mtn mtk mfr mtt mvl miw mld mrw mrn mso msz mnu mhw mhh mhm mbo mrr mak man maa mip x1 x2 x3 (((10 : Int32) + ((5 : Int32) * x1)) + 2) (((10 : Int32) + ((5 : Int32) * x2)) + 2) (ss ((((10 : Int32) + ((5 : Int32) * x1)) + 2)).toNatClampNeg) (ss ((((10 : Int32) + ((5 : Int32) * x2)) + 2)).toNatClampNeg) (m_short c7) (its_in (o := x1) (w := 2) (m_one c2 hok) (by decide)) (its_in (o := x2) (w := 2) (m_one c4 hok) (by decide)) (fun s v h => okS_w (o := x1) (w := 2) h (m_one c2 hok) (by decide) (by decide)) (fun s v h => okS_w (o := x2) (w := 2) h (m_one c4 hok) (by decide) (by decide)) (fun (o : Int32 × Int32 × Int32 × (Nat → Int32) × (Nat → Int32)) => Rt τ κ cX6_pairFor .int (fun u : (Nat → Int32) × (Nat → Int32) => (wM τ a u.1 mhd u.2 mbf mih mtp mtn mtk mfr mtt mvl miw mld mrw mrn mso msz mnu mhw mhh mhm mbo mrr mak man maa mip)) (pr5 o (fun x8_8 x9_8 x10_8 ss_8 mas_8 => (x8_8, (upd (upd ss_8 ((((10 : Int32) + ((5 : Int32) * x1)) + 2)).toNatClampNeg (ss ((((10 : Int32) + ((5 : Int32) * x1)) + 2)).toNatClampNeg)) ((((10 : Int32) + ((5 : Int32) * x2)) + 2)).toNatClampNeg (ss ((((10 : Int32) + ((5 : Int32) * x2)) + 2)).toNatClampNeg)), mas_8)))) (fun x8_8 x9_8 x10_8 ss_8 mas_8  hR => ?_) 300 (0 : Int32) ((-1) : Int32) (0 : Int32) ss mas (by decide) (by decide) (by decide) (by assumption) hR)
          rw [pr5_mk x8_8 x9_8 x10_8 ss_8 mas_8] at hR
          refine j_aload_n C dX6_pairFor_159 160 rfl rfl 0 rfl ?_
          refine j_get C dX6_pairFor_160 163 rfl hiX6 0 rfl rfl 0 (by decide) rfl kX6_pairFor_f7 rfl ?_
          refine j_iload C dX6_pairFor_163 165 rfl 4 rfl ?_
          refine j_iload C dX6_pairFor_165 167 rfl 6 rfl ?_
          refine j_iast C dX6_pairFor_167 168 rfl 1 rfl (its_in (o := x1) (w := 2) (m_one c2 hok) (by decide)) ((((10 : Int32) + ((5 : Int32) * x1)) + 2)).toNatClampNeg rfl (wM τ a (upd ss_8 ((((10 : Int32) + ((5 : Int32) * x1)) + 2)).toNatClampNeg (ss ((((10 : Int32) + ((5 : Int32) * x1)) + 2)).toNatClampNeg)) mhd mas_8 mbf mih mtp mtn mtk mfr mtt mvl miw mld mrw mrn mso msz mnu mhw mhh mhm mbo mrr mak man maa mip) rfl ?_
          refine j_aload_n C dX6_pairFor_168 169 rfl rfl 0 rfl ?_
          refine j_get C dX6_pairFor_169 172 rfl hiX6 0 rfl rfl 0 (by decide) rfl kX6_pairFor_f7 rfl ?_
          refine j_iload C dX6_pairFor_172 174 rfl 5 rfl ?_
          refine j_iload C dX6_pairFor_174 176 rfl 7 rfl ?_
          refine j_iast C dX6_pairFor_176 177 rfl 1 rfl (its_in (o := x2) (w := 2) (m_one c4 hok) (by decide)) ((((10 : Int32) + ((5 : Int32) * x2)) + 2)).toNatClampNeg rfl (wM τ a (upd (upd ss_8 ((((10 : Int32) + ((5 : Int32) * x1)) + 2)).toNatClampNeg (ss ((((10 : Int32) + ((5 : Int32) * x1)) + 2)).toNatClampNeg)) ((((10 : Int32) + ((5 : Int32) * x2)) + 2)).toNatClampNeg (ss ((((10 : Int32) + ((5 : Int32) * x2)) + 2)).toNatClampNeg)) mhd mas_8 mbf mih mtp mtn mtk mfr mtt mvl miw mld mrw mrn mso msz mnu mhw mhh mhm mbo mrr mak man maa mip) rfl ?_
          refine j_iload C dX6_pairFor_177 179 rfl 8 rfl ?_
          exact Rt.ret (hR) rfl dX6_pairFor_179
        · rw [if_pos c7] at hR
          refine j_iconst (v := (-1)) C dX6_pairFor_28 29 rfl (by decide) ?_
          exact Rt.ret (hR) rfl dX6_pairFor_29

-- X6_awayFor
def l_X6_awayFor_27 (x1 : Int32) (x2 : Int32) : Nat → Int32 → Int32 → (Nat → Int32) → (Nat → Int32) → Int32 × Int32 × (Nat → Int32) × (Nat → Int32)
  | 0, x3, x4, ss, mas => (x3, x4, ss, mas)
  | N + 1, x3, x4, ss, mas => if (((1 : Int32) <<< ((ss 0) &&& 31)) ≤ x4) then (x3, x4, ss, mas) else (pr3 (if (x3 < 0) then (pr3 (f_X6_lengthBy ss mas x1 x4) (fun r8 ss_8 mas_8 => if (r8 < x2) then (x3, ss_8, mas_8) else (x4, ss_8, mas_8))) else (if ((f_X6_size x3) ≤ (f_X6_size x4)) then (x3, ss, mas) else (pr3 (f_X6_lengthBy ss mas x1 x4) (fun r13 ss_13 mas_13 => if (r13 < x2) then (x3, ss_13, mas_13) else (x4, ss_13, mas_13))))) (fun j41_0 j41_1 j41_2 => l_X6_awayFor_27 x1 x2 N j41_0 (x4 + 1) j41_1 j41_2))
def f_X6_awayFor (ss : Nat → Int32) (mas : Nat → Int32) (x1 : Int32) (x2 : Int32) : Int32 × (Nat → Int32) × (Nat → Int32) := if ((f_X6_isShort x1) = 0) then (((-1) : Int32), ss, mas) else (if ((f_X6_isIn ((x2 : Int32).toInt64) (0 : Int64) (99 : Int64)) = 0) then (((-1) : Int32), ss, mas) else (pr4 (l_X6_awayFor_27 x1 x2 300 ((-3) : Int32) (0 : Int32) ss mas) (fun x3_5 x4_5 ss_5 mas_5 => (x3_5, ss_5, mas_5))))
theorem kX6_awayFor_iRX6 : Cond.initialized yX6_size.cls ∈ wsX6_awayFor := by decide +kernel
theorem kX6_awayFor_sX6_isShort : Cond.static yX6_isShort ∈ wsX6_awayFor := by decide +kernel
theorem kX6_awayFor_m232 : Cond.methodLink RX6 232 yX6_isShort ∈ wsX6_awayFor := by decide +kernel
theorem kX6_awayFor_c152 : Cond.constantLong RX6 152 99 ∈ wsX6_awayFor := by decide +kernel
theorem kX6_awayFor_sX6_isIn : Cond.static yX6_isIn ∈ wsX6_awayFor := by decide +kernel
theorem kX6_awayFor_m57 : Cond.methodLink RX6 57 yX6_isIn ∈ wsX6_awayFor := by decide +kernel
theorem kX6_awayFor_f7 : Cond.fieldLink RX6 7 "TwoMinutesModel" "s" "[I" ∈ wsX6_awayFor := by decide +kernel
theorem kX6_awayFor_sX6_size : Cond.static yX6_size ∈ wsX6_awayFor := by decide +kernel
theorem kX6_awayFor_m192 : Cond.methodLink RX6 192 yX6_size ∈ wsX6_awayFor := by decide +kernel
theorem qd_X6_awayFor : yX6_awayFor.cls = RX6 ∧ yX6_awayFor.cls ≠ "java/lang/invoke/MethodHandle" ∧ yX6_awayFor.cls ≠ "java/lang/invoke/VarHandle" ∧ (parseMethodDescriptor yX6_awayFor.desc).map (fun d => d.parameters.length) = some 2 := by decide +kernel
abbrev rmX6_awayFor : Room := { frames := 6, cells := 0, slots := 0, locals := 137 }
set_option maxHeartbeats 4000000 in
set_option maxRecDepth 100000 in
theorem L_X6_awayFor_27 {τ : SX} {κ : KX} (C : Cx τ κ cX6_awayFor RX6 wsX6_awayFor rmX6_awayFor 5) (a : Nat → Nat) (mhd : Nat → Int32) (mbf : Nat → Int32) (mih : Int32) (mtp : Nat → Int32) (mtn : Int32) (mtk : Int32) (mfr : Int32) (mtt : Int32) (mvl : Int32) (miw : Int32) (mld : Nat → Int32) (mrw : Nat → Int32) (mrn : Int32) (mso : Nat → Int32) (msz : Nat → Int32) (mnu : Nat → Int32) (mhw : Nat → Int32) (mhh : Nat → Int32) (mhm : Nat → Int32) (mbo : Nat → Int32) (mrr : Int32) (mak : Int32) (man : Int32) (maa : Int32) (mip : Int32) (x1 : Int32) (x2 : Int32) (hx : x1.toInt ≤ 60) (Φ : Int32 × Int32 × (Nat → Int32) × (Nat → Int32) → Prop) (hE : ∀ (x3 : Int32) (x4 : Int32) (ss : Nat → Int32) (mas : Nat → Int32), Φ (x3, x4, ss, mas) → J τ κ 0 0 (wM τ a ss mhd mas mbf mih mtp mtn mtk mfr mtt mvl miw mld mrw mrn mso msz mnu mhw mhh mhm mbo mrr mak man maa mip) [(0, .ref (a 0)), (1, .int x1), (2, .int x2), (3, .int x3), (4, .int x4)] 80 []) : ∀ (N : Nat) (x3 : Int32) (x4 : Int32) (ss : Nat → Int32) (mas : Nat → Int32), ((256 : Int) - x4.toInt).toNat < N → (0 ≤ x4.toInt) → (x4.toInt ≤ 256) → (okS ss) → Φ (l_X6_awayFor_27 x1 x2 N x3 x4 ss mas) → J τ κ 0 0 (wM τ a ss mhd mas mbf mih mtp mtn mtk mfr mtt mvl miw mld mrw mrn mso msz mnu mhw mhh mhm mbo mrr mak man maa mip) [(0, .ref (a 0)), (1, .int x1), (2, .int x2), (3, .int x3), (4, .int x4)] 27 [] := by
  have hiX6 : ∀ w ∈ wsX60, w ∈ wsX6_awayFor := fun w h => List.mem_cons_of_mem _ (List.mem_append_right _ h)
  intro N
  induction N with
  | zero => intro x3 x4 ss mas hm; exact absurd hm (Nat.not_lt_zero _)
  | succ N ih =>
    intro x3 x4 ss mas hm h0 h1 hok hR
    rw [l_X6_awayFor_27] at hR
    refine j_iload C dX6_awayFor_27 29 rfl 4 rfl ?_
    refine j_iconst (v := 1) C dX6_awayFor_29 30 rfl (by decide) ?_
    refine j_aload_n C dX6_awayFor_30 31 rfl rfl 0 rfl ?_
    refine j_get C dX6_awayFor_31 34 rfl hiX6 0 rfl rfl 0 (by decide) rfl kX6_awayFor_f7 rfl ?_
    refine j_iconst (v := 0) C dX6_awayFor_34 35 rfl (by decide) ?_
    refine j_iald C dX6_awayFor_35 36 rfl 1 rfl (by unfold vp_in; decide) 0 rfl ?_
    refine j_ishl C dX6_awayFor_36 37 rfl ?_
    refine j_icmp_ge C dX6_awayFor_37 80 rfl 40 rfl (fun c6 => ?_) (fun c6 => ?_)
    · rw [if_pos c6] at hR
      exact j_lv [0, 1, 2, 3, 4] [(0, .ref (a 0)), (1, .int x1), (2, .int x2), (3, .int x3), (4, .int x4)] rfl (hE _ _ _ _  hR)
    · rw [if_neg c6] at hR
      have hs := cnt_step (B := 256) h0 (shl_le hok.1 hok.2.1) (by decide) c6
      refine j_iload_n C dX6_awayFor_40 41 rfl rfl 3 rfl ?_
      have J41 : ∀ (j41_0 : Int32) (j41_1 : Nat → Int32) (j41_2 : Nat → Int32), (okS j41_1) → Φ (l_X6_awayFor_27 x1 x2 N j41_0 (x4 + 1) j41_1 j41_2) → J τ κ 0 0 (wM τ a j41_1 mhd j41_2 mbf mih mtp mtn mtk mfr mtt mvl miw mld mrw mrn mso msz mnu mhw mhh mhm mbo mrr mak man maa mip) [(0, .ref (a 0)), (1, .int x1), (2, .int x2), (3, .int x3), (4, .int x4)] 73 [.int j41_0] := by
        intro j41_0 j41_1 j41_2 hokj hR
        refine j_istore_n C dX6_awayFor_73 74 rfl rfl (by decide) [(3, .int j41_0), (0, .ref (a 0)), (1, .int x1), (2, .int x2), (4, .int x4)] rfl ?_
        refine j_iinc (v := (x4 + 1)) C dX6_awayFor_74 77 rfl 4 rfl rfl (by decide) [(4, .int (x4 + 1)), (3, .int j41_0), (0, .ref (a 0)), (1, .int x1), (2, .int x2)] rfl ?_
        refine j_goto C dX6_awayFor_77 27 rfl ?_
        exact j_lv [2, 3, 4, 1, 0] [(0, .ref (a 0)), (1, .int x1), (2, .int x2), (3, .int j41_0), (4, .int (x4 + 1))] rfl (ih _ _ _ _ (by have := hs.2.2.1; omega) hs.1 hs.2.1 (by assumption) hR)
      refine j_if_lt C dX6_awayFor_41 56 rfl 44 rfl (fun c7 => ?_) (fun c7 => ?_)
      · rw [if_pos c7] at hR
        refine j_aload_n C dX6_awayFor_56 57 rfl rfl 0 rfl ?_
        refine j_iload_n C dX6_awayFor_57 58 rfl rfl 1 rfl ?_
        refine j_iload C dX6_awayFor_58 60 rfl 4 rfl ?_
        refine j_cv0I (na := 2) C dX6_awayFor_60 63 rfl (c_X6_lengthBy τ a ss mhd mas mbf mih mtp mtn mtk mfr mtt mvl miw mld mrw mrn mso msz mnu mhw mhh mhm mbo mrr mak man maa mip x1 x4 hok hx) gX6_awayFor_X6_lengthBy rfl rfl rfl qd_X6_lengthBy rfl ⟨by decide, by decide⟩ ⟨by decide, by decide⟩ rfl (Nat.le_of_ble_eq_true rfl) rfl 6 0 rfl rfl (fun r8 u8 hX8 hn8 => ?_)
        obtain ⟨ss_8, mas_8⟩ := u8
        rw [hX8] at hR; rw [pr3_mk r8 ss_8 mas_8] at hR
        have hok8 : okS ss_8 := ok_lengthBy (hok) hX8
        refine j_iload_n C dX6_awayFor_63 64 rfl rfl 2 rfl ?_
        refine j_icmp_lt C dX6_awayFor_64 72 rfl 67 rfl (fun c9 => ?_) (fun c9 => ?_)
        · rw [if_pos c9] at hR
          refine j_iload_n C dX6_awayFor_72 73 rfl rfl 3 rfl ?_
          rw [pr3_mk x3 ss_8 mas_8] at hR
          exact j_lv [0, 1, 2, 3, 4] [(0, .ref (a 0)), (1, .int x1), (2, .int x2), (3, .int x3), (4, .int x4)] rfl (J41 _ _ _ (by assumption) hR)
        · rw [if_neg c9] at hR
          refine j_iload C dX6_awayFor_67 69 rfl 4 rfl ?_
          refine j_goto C dX6_awayFor_69 73 rfl ?_
          rw [pr3_mk x4 ss_8 mas_8] at hR
          exact j_lv [0, 1, 2, 3, 4] [(0, .ref (a 0)), (1, .int x1), (2, .int x2), (3, .int x3), (4, .int x4)] rfl (J41 _ _ _ (by assumption) hR)
      · rw [if_neg c7] at hR
        refine j_iload C dX6_awayFor_44 46 rfl 4 rfl ?_
        refine j_cs0I (na := 1) C dX6_awayFor_46 49 rfl (c_X6_size τ  x4 ) rfl ggX6_awayFor_X6_size rfl rfl rfl kX6_awayFor_iRX6 kX6_awayFor_m192 kX6_awayFor_sX6_size qd_X6_size rfl ⟨by decide, by decide⟩ ⟨by decide, by decide⟩ rfl (Nat.le_of_ble_eq_true rfl) (fun r10 u10 hX10 hn10 => ?_)
        obtain rfl := (Prod.mk.inj hX10).1
        refine j_iload_n C dX6_awayFor_49 50 rfl rfl 3 rfl ?_
        refine j_cs0I (na := 1) C dX6_awayFor_50 53 rfl (c_X6_size τ  x3 ) rfl ggX6_awayFor_X6_size rfl rfl rfl kX6_awayFor_iRX6 kX6_awayFor_m192 kX6_awayFor_sX6_size qd_X6_size rfl ⟨by decide, by decide⟩ ⟨by decide, by decide⟩ rfl (Nat.le_of_ble_eq_true rfl) (fun r11 u11 hX11 hn11 => ?_)
        obtain rfl := (Prod.mk.inj hX11).1
        refine j_icmp_ge C dX6_awayFor_53 72 rfl 56 rfl (fun c12 => ?_) (fun c12 => ?_)
        · rw [if_pos c12] at hR
          refine j_iload_n C dX6_awayFor_72 73 rfl rfl 3 rfl ?_
          rw [pr3_mk x3 ss mas] at hR
          exact j_lv [0, 1, 2, 3, 4] [(0, .ref (a 0)), (1, .int x1), (2, .int x2), (3, .int x3), (4, .int x4)] rfl (J41 _ _ _ (by assumption) hR)
        · rw [if_neg c12] at hR
          refine j_aload_n C dX6_awayFor_56 57 rfl rfl 0 rfl ?_
          refine j_iload_n C dX6_awayFor_57 58 rfl rfl 1 rfl ?_
          refine j_iload C dX6_awayFor_58 60 rfl 4 rfl ?_
          refine j_cv0I (na := 2) C dX6_awayFor_60 63 rfl (c_X6_lengthBy τ a ss mhd mas mbf mih mtp mtn mtk mfr mtt mvl miw mld mrw mrn mso msz mnu mhw mhh mhm mbo mrr mak man maa mip x1 x4 hok hx) gX6_awayFor_X6_lengthBy rfl rfl rfl qd_X6_lengthBy rfl ⟨by decide, by decide⟩ ⟨by decide, by decide⟩ rfl (Nat.le_of_ble_eq_true rfl) rfl 6 0 rfl rfl (fun r13 u13 hX13 hn13 => ?_)
          obtain ⟨ss_13, mas_13⟩ := u13
          rw [hX13] at hR; rw [pr3_mk r13 ss_13 mas_13] at hR
          have hok13 : okS ss_13 := ok_lengthBy (hok) hX13
          refine j_iload_n C dX6_awayFor_63 64 rfl rfl 2 rfl ?_
          refine j_icmp_lt C dX6_awayFor_64 72 rfl 67 rfl (fun c14 => ?_) (fun c14 => ?_)
          · rw [if_pos c14] at hR
            refine j_iload_n C dX6_awayFor_72 73 rfl rfl 3 rfl ?_
            rw [pr3_mk x3 ss_13 mas_13] at hR
            exact j_lv [0, 1, 2, 3, 4] [(0, .ref (a 0)), (1, .int x1), (2, .int x2), (3, .int x3), (4, .int x4)] rfl (J41 _ _ _ (by assumption) hR)
          · rw [if_neg c14] at hR
            refine j_iload C dX6_awayFor_67 69 rfl 4 rfl ?_
            refine j_goto C dX6_awayFor_69 73 rfl ?_
            rw [pr3_mk x4 ss_13 mas_13] at hR
            exact j_lv [0, 1, 2, 3, 4] [(0, .ref (a 0)), (1, .int x1), (2, .int x2), (3, .int x3), (4, .int x4)] rfl (J41 _ _ _ (by assumption) hR)
set_option maxHeartbeats 4000000 in
set_option maxRecDepth 100000 in
theorem c_X6_awayFor (τ : SX) (a : Nat → Nat) (ss : Nat → Int32) (mhd : Nat → Int32) (mas : Nat → Int32) (mbf : Nat → Int32) (mih : Int32) (mtp : Nat → Int32) (mtn : Int32) (mtk : Int32) (mfr : Int32) (mtt : Int32) (mvl : Int32) (miw : Int32) (mld : Nat → Int32) (mrw : Nat → Int32) (mrn : Int32) (mso : Nat → Int32) (msz : Nat → Int32) (mnu : Nat → Int32) (mhw : Nat → Int32) (mhh : Nat → Int32) (mhm : Nat → Int32) (mbo : Nat → Int32) (mrr : Int32) (mak : Int32) (man : Int32) (maa : Int32) (mip : Int32) (x1 : Int32) (x2 : Int32) (hok : okS ss) (sz : Nat) : McI τ yX6_awayFor wsX6_awayFor rmX6_awayFor .int [.ref (a 0), .int x1, .int x2] (wM τ a ss mhd mas mbf mih mtp mtn mtk mfr mtt mvl miw mld mrw mrn mso msz mnu mhw mhh mhm mbo mrr mak man maa mip) (fun u : (Nat → Int32) × (Nat → Int32) => (wM τ a u.1 mhd u.2 mbf mih mtp mtn mtk mfr mtt mvl miw mld mrw mrn mso msz mnu mhw mhh mhm mbo mrr mak man maa mip)) (f_X6_awayFor ss mas x1 x2) sz := by
  refine mc_I (cc := cX6_awayFor) (own := RX6) [(0, .ref (a 0)), (1, .int x1), (2, .int x2)] rfl (by decide) rfl rfl (Nat.le_of_ble_eq_true rfl) (fun κ C hR => ?_)
  have hiX6 : ∀ w ∈ wsX60, w ∈ wsX6_awayFor := fun w h => List.mem_cons_of_mem _ (List.mem_append_right _ h)
  unfold f_X6_awayFor at hR
  refine j_iload_n C dX6_awayFor_0 1 rfl rfl 1 rfl ?_
  refine j_cs0I (na := 1) C dX6_awayFor_1 4 rfl (c_X6_isShort τ  x1 ) rfl ggX6_awayFor_X6_isShort rfl rfl rfl kX6_awayFor_iRX6 kX6_awayFor_m232 kX6_awayFor_sX6_isShort qd_X6_isShort rfl ⟨by decide, by decide⟩ ⟨by decide, by decide⟩ rfl (Nat.le_of_ble_eq_true rfl) (fun r1 u1 hX1 hn1 => ?_)
  obtain rfl := (Prod.mk.inj hX1).1
  refine j_if_eq C dX6_awayFor_4 19 rfl 7 rfl (fun c2 => ?_) (fun c2 => ?_)
  · rw [if_pos c2] at hR
    refine j_iconst (v := (-1)) C dX6_awayFor_19 20 rfl (by decide) ?_
    exact Rt.ret (hR) rfl dX6_awayFor_20
  · rw [if_neg c2] at hR
    refine j_iload_n C dX6_awayFor_7 8 rfl rfl 2 rfl ?_
    refine j_i2l C dX6_awayFor_8 9 rfl ?_
    refine j_lconst (v := 0) C dX6_awayFor_9 10 rfl (by decide) ?_
    refine j_ldc2 C dX6_awayFor_10 13 rfl kX6_awayFor_c152 ?_
    refine j_cs0I (na := 3) C dX6_awayFor_13 16 rfl (c_X6_isIn τ  ((x2 : Int32).toInt64) (0 : Int64) (99 : Int64) ) rfl ggX6_awayFor_X6_isIn rfl rfl rfl kX6_awayFor_iRX6 kX6_awayFor_m57 kX6_awayFor_sX6_isIn qd_X6_isIn rfl ⟨by decide, by decide⟩ ⟨by decide, by decide⟩ rfl (Nat.le_of_ble_eq_true rfl) (fun r3 u3 hX3 hn3 => ?_)
    obtain rfl := (Prod.mk.inj hX3).1
    refine j_if_ne C dX6_awayFor_16 21 rfl 19 rfl (fun c4 => ?_) (fun c4 => ?_)
    · rw [if_neg c4] at hR
      refine j_bipush (v := (-3)) C dX6_awayFor_21 23 rfl (by decide) ?_
      refine j_istore_n C dX6_awayFor_23 24 rfl rfl (by decide) [(3, .int (-3)), (0, .ref (a 0)), (1, .int x1), (2, .int x2)] rfl ?_
      refine j_iconst (v := 0) C dX6_awayFor_24 25 rfl (by decide) ?_
      refine j_istore C dX6_awayFor_25 27 rfl (by decide) [(4, .int 0), (3, .int (-3)), (0, .ref (a 0)), (1, .int x1), (2, .int x2)] rfl ?_
      refine j_lv [2, 3, 4, 1, 0] [(0, .ref (a 0)), (1, .int x1), (2, .int x2), (3, .int (-3)), (4, .int 0)] rfl (L_X6_awayFor_27 C a mhd mbf mih mtp mtn mtk mfr mtt mvl miw mld mrw mrn mso msz mnu mhw mhh mhm mbo mrr mak man maa mip x1 x2 (m_short (x := x1) c2) (fun (o : Int32 × Int32 × (Nat → Int32) × (Nat → Int32)) => Rt τ κ cX6_awayFor .int (fun u : (Nat → Int32) × (Nat → Int32) => (wM τ a u.1 mhd u.2 mbf mih mtp mtn mtk mfr mtt mvl miw mld mrw mrn mso msz mnu mhw mhh mhm mbo mrr mak man maa mip)) (pr4 o (fun x3_5 x4_5 ss_5 mas_5 => (x3_5, ss_5, mas_5)))) (fun x3_5 x4_5 ss_5 mas_5  hR => ?_) 300 ((-3) : Int32) (0 : Int32) ss mas (by decide) (by decide) (by decide) (by assumption) hR)
      rw [pr4_mk x3_5 x4_5 ss_5 mas_5] at hR
      refine j_iload_n C dX6_awayFor_80 81 rfl rfl 3 rfl ?_
      exact Rt.ret (hR) rfl dX6_awayFor_81
    · rw [if_pos c4] at hR
      refine j_iconst (v := (-1)) C dX6_awayFor_19 20 rfl (by decide) ?_
      exact Rt.ret (hR) rfl dX6_awayFor_20

-- X6_listens
def l_X6_listens_13  : Nat → Int32 → (Nat → Int32) → Int32 × (Nat → Int32)
  | 0, x2, mld => (x2, mld)
  | N + 1, x2, mld => if (12 ≤ x2) then (x2, mld) else (l_X6_listens_13 N (x2 + 1) (upd mld (x2).toNatClampNeg 0))
def l_X6_listens_47 (ss : Nat → Int32) (x3 : Int32) : Nat → Int32 → (Nat → Int32) → Int32 × (Nat → Int32)
  | 0, x4, mld => (x4, mld)
  | N + 1, x4, mld => if (12 ≤ x4) then (x4, mld) else (pr1 (if ((f_X6_heardOf ss x3 x4) = 0) then (0 : Int32) else (1 : Int32)) (fun j69_0 => l_X6_listens_47 ss x3 N (x4 + 1) (upd mld (x4).toNatClampNeg ((mld (x4).toNatClampNeg) + j69_0))))
def l_X6_listens_34 (x1 : Int32) : Nat → Int32 → (Nat → Int32) → (Nat → Int32) → Int32 × (Nat → Int32) × (Nat → Int32)
  | 0, x2, ss, mld => (x2, ss, mld)
  | N + 1, x2, ss, mld => if (x1 ≤ x2) then (x2, ss, mld) else (pr2 (l_X6_listens_47 ss (f_X6_sounding ss) 300 (0 : Int32) mld) (fun x4_7 mld_7 => pr1 (f_X6_goesBy ss (f_X6_sounding ss)) (fun ss_11 => l_X6_listens_34 x1 N (x2 + 1) ss_11 mld_7)))
def f_X6_listens (ss : Nat → Int32) (mas : Nat → Int32) (mld : Nat → Int32) (x1 : Int32) : (Nat → Int32) × (Nat → Int32) × (Nat → Int32) := pr1 (f_X6_copyRow__sa ss mas) (fun mas_1 => pr2 (l_X6_listens_13 300 (0 : Int32) mld) (fun x2_2 mld_2 => pr3 (l_X6_listens_34 x1 300 (0 : Int32) ss mld_2) (fun x2_4 ss_4 mld_4 => pr1 (f_X6_copyRow__as ss_4 mas_1) (fun ss_12 => (ss_12, mas_1, mld_4)))))
theorem kX6_listens_f7 : Cond.fieldLink RX6 7 "TwoMinutesModel" "s" "[I" ∈ wsX6_listens := by decide +kernel
theorem kX6_listens_f16 : Cond.fieldLink RX6 16 "TwoMinutesModel" "aside" "[I" ∈ wsX6_listens := by decide +kernel
theorem kX6_listens_iRX6 : Cond.initialized yX6_copyRow.cls ∈ wsX6_listens := by decide +kernel
theorem kX6_listens_sX6_copyRow : Cond.static yX6_copyRow ∈ wsX6_listens := by decide +kernel
theorem kX6_listens_m138 : Cond.methodLink RX6 138 yX6_copyRow ∈ wsX6_listens := by decide +kernel
theorem kX6_listens_f25 : Cond.fieldLink RX6 25 "TwoMinutesModel" "loudness" "[I" ∈ wsX6_listens := by decide +kernel
theorem qd_X6_listens : yX6_listens.cls = RX6 ∧ yX6_listens.cls ≠ "java/lang/invoke/MethodHandle" ∧ yX6_listens.cls ≠ "java/lang/invoke/VarHandle" ∧ (parseMethodDescriptor yX6_listens.desc).map (fun d => d.parameters.length) = some 1 := by decide +kernel
abbrev rmX6_listens : Room := { frames := 4, cells := 0, slots := 0, locals := 90 }
set_option maxHeartbeats 4000000 in
set_option maxRecDepth 100000 in
theorem L_X6_listens_13 {τ : SX} {κ : KX} (C : Cx τ κ cX6_listens RX6 wsX6_listens rmX6_listens 5) (a : Nat → Nat) (ss : Nat → Int32) (mhd : Nat → Int32) (mas : Nat → Int32) (mbf : Nat → Int32) (mih : Int32) (mtp : Nat → Int32) (mtn : Int32) (mtk : Int32) (mfr : Int32) (mtt : Int32) (mvl : Int32) (miw : Int32) (mrw : Nat → Int32) (mrn : Int32) (mso : Nat → Int32) (msz : Nat → Int32) (mnu : Nat → Int32) (mhw : Nat → Int32) (mhh : Nat → Int32) (mhm : Nat → Int32) (mbo : Nat → Int32) (mrr : Int32) (mak : Int32) (man : Int32) (maa : Int32) (mip : Int32) (x1 : Int32) (hok : okS ss) (hx : x1.toInt ≤ 60) (Φ : Int32 × (Nat → Int32) → Prop) (hE : ∀ (x2 : Int32) (mld : Nat → Int32), Φ (x2, mld) → J τ κ 0 0 (wM τ a ss mhd mas mbf mih mtp mtn mtk mfr mtt mvl miw mld mrw mrn mso msz mnu mhw mhh mhm mbo mrr mak man maa mip) [(0, .ref (a 0)), (1, .int x1), (2, .int x2)] 32 []) : ∀ (N : Nat) (x2 : Int32) (mld : Nat → Int32), ((12 : Int) - x2.toInt).toNat < N → (0 ≤ x2.toInt) → (x2.toInt ≤ 12) → Φ (l_X6_listens_13 N x2 mld) → J τ κ 0 0 (wM τ a ss mhd mas mbf mih mtp mtn mtk mfr mtt mvl miw mld mrw mrn mso msz mnu mhw mhh mhm mbo mrr mak man maa mip) [(0, .ref (a 0)), (1, .int x1), (2, .int x2)] 13 [] := by
  have hiX6 : ∀ w ∈ wsX60, w ∈ wsX6_listens := fun w h => List.mem_cons_of_mem _ (List.mem_append_right _ h)
  intro N
  induction N with
  | zero => intro x2 mld hm; exact absurd hm (Nat.not_lt_zero _)
  | succ N ih =>
    intro x2 mld hm h0 h1 hR
    rw [l_X6_listens_13] at hR
    refine j_iload_n C dX6_listens_13 14 rfl rfl 2 rfl ?_
    refine j_bipush (v := 12) C dX6_listens_14 16 rfl (by decide) ?_
    refine j_icmp_ge C dX6_listens_16 32 rfl 19 rfl (fun c3 => ?_) (fun c3 => ?_)
    · rw [if_pos c3] at hR
      exact j_lv [0, 1, 2] [(0, .ref (a 0)), (1, .int x1), (2, .int x2)] rfl (hE _ _  hR)
    · rw [if_neg c3] at hR
      have hs := cnt_step (B := 12) h0 (by decide) (by decide) c3
      refine j_aload_n C dX6_listens_19 20 rfl rfl 0 rfl ?_
      refine j_get C dX6_listens_20 23 rfl hiX6 0 rfl rfl 12 (by decide) rfl kX6_listens_f25 rfl ?_
      refine j_iload_n C dX6_listens_23 24 rfl rfl 2 rfl ?_
      refine j_iconst (v := 0) C dX6_listens_24 25 rfl (by decide) ?_
      refine j_iast C dX6_listens_25 26 rfl 6 rfl (vp_in_iff.mpr ⟨by omega, by omega⟩) (x2).toNatClampNeg rfl (wM τ a ss mhd mas mbf mih mtp mtn mtk mfr mtt mvl miw (upd mld (x2).toNatClampNeg 0) mrw mrn mso msz mnu mhw mhh mhm mbo mrr mak man maa mip) rfl ?_
      refine j_iinc (v := (x2 + 1)) C dX6_listens_26 29 rfl 2 rfl rfl (by decide) [(2, .int (x2 + 1)), (0, .ref (a 0)), (1, .int x1)] rfl ?_
      refine j_goto C dX6_listens_29 13 rfl ?_
      exact j_lv [1, 2, 0] [(0, .ref (a 0)), (1, .int x1), (2, .int (x2 + 1))] rfl (ih _ _ (by have := hs.2.2.1; omega) hs.1 hs.2.1 hR)
set_option maxHeartbeats 4000000 in
set_option maxRecDepth 100000 in
theorem L_X6_listens_47 {τ : SX} {κ : KX} (C : Cx τ κ cX6_listens RX6 wsX6_listens rmX6_listens 5) (a : Nat → Nat) (ss : Nat → Int32) (mhd : Nat → Int32) (mas : Nat → Int32) (mbf : Nat → Int32) (mih : Int32) (mtp : Nat → Int32) (mtn : Int32) (mtk : Int32) (mfr : Int32) (mtt : Int32) (mvl : Int32) (miw : Int32) (mrw : Nat → Int32) (mrn : Int32) (mso : Nat → Int32) (msz : Nat → Int32) (mnu : Nat → Int32) (mhw : Nat → Int32) (mhh : Nat → Int32) (mhm : Nat → Int32) (mbo : Nat → Int32) (mrr : Int32) (mak : Int32) (man : Int32) (maa : Int32) (mip : Int32) (x1 : Int32) (x2 : Int32) (x3 : Int32) (hok : okS ss) (Φ : Int32 × (Nat → Int32) → Prop) (hE : ∀ (x4 : Int32) (mld : Nat → Int32), Φ (x4, mld) → J τ κ 0 0 (wM τ a ss mhd mas mbf mih mtp mtn mtk mfr mtt mvl miw mld mrw mrn mso msz mnu mhw mhh mhm mbo mrr mak man maa mip) [(0, .ref (a 0)), (1, .int x1), (2, .int x2), (3, .int x3), (4, .int x4)] 85 []) : ∀ (N : Nat) (x4 : Int32) (mld : Nat → Int32), ((12 : Int) - x4.toInt).toNat < N → (0 ≤ x4.toInt) → (x4.toInt ≤ 12) → Φ (l_X6_listens_47 ss x3 N x4 mld) → J τ κ 0 0 (wM τ a ss mhd mas mbf mih mtp mtn mtk mfr mtt mvl miw mld mrw mrn mso msz mnu mhw mhh mhm mbo mrr mak man maa mip) [(0, .ref (a 0)), (1, .int x1), (2, .int x2), (3, .int x3), (4, .int x4)] 47 [] := by
  have hiX6 : ∀ w ∈ wsX60, w ∈ wsX6_listens := fun w h => List.mem_cons_of_mem _ (List.mem_append_right _ h)
  intro N
  induction N with
  | zero => intro x4 mld hm; exact absurd hm (Nat.not_lt_zero _)
  | succ N ih =>
    intro x4 mld hm h0 h1 hR
    rw [l_X6_listens_47] at hR
    refine j_iload C dX6_listens_47 49 rfl 4 rfl ?_
    refine j_bipush (v := 12) C dX6_listens_49 51 rfl (by decide) ?_
    refine j_icmp_ge C dX6_listens_51 85 rfl 54 rfl (fun c8 => ?_) (fun c8 => ?_)
    · rw [if_pos c8] at hR
      exact j_lv [0, 1, 2, 3, 4] [(0, .ref (a 0)), (1, .int x1), (2, .int x2), (3, .int x3), (4, .int x4)] rfl (hE _ _  hR)
    · rw [if_neg c8] at hR
      have hs := cnt_step (B := 12) h0 (by decide) (by decide) c8
      refine j_aload_n C dX6_listens_54 55 rfl rfl 0 rfl ?_
      refine j_get C dX6_listens_55 58 rfl hiX6 0 rfl rfl 12 (by decide) rfl kX6_listens_f25 rfl ?_
      refine j_iload C dX6_listens_58 60 rfl 4 rfl ?_
      refine j_dup2 C dX6_listens_60 61 rfl rfl rfl ?_
      refine j_iald C dX6_listens_61 62 rfl 6 rfl (vp_in_iff.mpr ⟨by omega, by omega⟩) (x4).toNatClampNeg rfl ?_
      refine j_aload_n C dX6_listens_62 63 rfl rfl 0 rfl ?_
      refine j_iload_n C dX6_listens_63 64 rfl rfl 3 rfl ?_
      refine j_iload C dX6_listens_64 66 rfl 4 rfl ?_
      refine j_cv0I (na := 2) C dX6_listens_66 69 rfl (c_X6_heardOf τ a ss mhd mas mbf mih mtp mtn mtk mfr mtt mvl miw mld mrw mrn mso msz mnu mhw mhh mhm mbo mrr mak man maa mip x3 x4 (by first | assumption | (unfold vp_in; decide) | decide)) gX6_listens_X6_heardOf rfl rfl rfl qd_X6_heardOf rfl ⟨by decide, by decide⟩ ⟨by decide, by decide⟩ rfl (Nat.le_of_ble_eq_true rfl) rfl 6 0 rfl rfl (fun r9 u9 hX9 hn9 => ?_)
      obtain rfl := (Prod.mk.inj hX9).1
      have J69 : ∀ (j69_0 : Int32), Φ (l_X6_listens_47 ss x3 N (x4 + 1) (upd mld (x4).toNatClampNeg ((mld (x4).toNatClampNeg) + j69_0))) → J τ κ 0 0 (wM τ a ss mhd mas mbf mih mtp mtn mtk mfr mtt mvl miw mld mrw mrn mso msz mnu mhw mhh mhm mbo mrr mak man maa mip) [(0, .ref (a 0)), (1, .int x1), (2, .int x2), (3, .int x3), (4, .int x4)] 77 [.int j69_0, .int (mld (x4).toNatClampNeg), .int x4, .ref (a 6)] := by
        intro j69_0  hR
        refine j_iadd C dX6_listens_77 78 rfl ?_
        refine j_iast C dX6_listens_78 79 rfl 6 rfl (vp_in_iff.mpr ⟨by omega, by omega⟩) (x4).toNatClampNeg rfl (wM τ a ss mhd mas mbf mih mtp mtn mtk mfr mtt mvl miw (upd mld (x4).toNatClampNeg ((mld (x4).toNatClampNeg) + j69_0)) mrw mrn mso msz mnu mhw mhh mhm mbo mrr mak man maa mip) rfl ?_
        refine j_iinc (v := (x4 + 1)) C dX6_listens_79 82 rfl 4 rfl rfl (by decide) [(4, .int (x4 + 1)), (0, .ref (a 0)), (1, .int x1), (2, .int x2), (3, .int x3)] rfl ?_
        refine j_goto C dX6_listens_82 47 rfl ?_
        exact j_lv [1, 2, 3, 4, 0] [(0, .ref (a 0)), (1, .int x1), (2, .int x2), (3, .int x3), (4, .int (x4 + 1))] rfl (ih _ _ (by have := hs.2.2.1; omega) hs.1 hs.2.1 hR)
      refine j_if_ne C dX6_listens_69 76 rfl 72 rfl (fun c10 => ?_) (fun c10 => ?_)
      · rw [if_neg c10] at hR
        refine j_iconst (v := 1) C dX6_listens_76 77 rfl (by decide) ?_
        rw [pr1_mk (1 : Int32)] at hR
        exact j_lv [0, 1, 2, 3, 4] [(0, .ref (a 0)), (1, .int x1), (2, .int x2), (3, .int x3), (4, .int x4)] rfl (J69 _  hR)
      · rw [if_pos c10] at hR
        refine j_iconst (v := 0) C dX6_listens_72 73 rfl (by decide) ?_
        refine j_goto C dX6_listens_73 77 rfl ?_
        rw [pr1_mk (0 : Int32)] at hR
        exact j_lv [0, 1, 2, 3, 4] [(0, .ref (a 0)), (1, .int x1), (2, .int x2), (3, .int x3), (4, .int x4)] rfl (J69 _  hR)
set_option maxHeartbeats 4000000 in
set_option maxRecDepth 100000 in
theorem L_X6_listens_34 {τ : SX} {κ : KX} (C : Cx τ κ cX6_listens RX6 wsX6_listens rmX6_listens 5) (a : Nat → Nat) (mhd : Nat → Int32) (mas : Nat → Int32) (mbf : Nat → Int32) (mih : Int32) (mtp : Nat → Int32) (mtn : Int32) (mtk : Int32) (mfr : Int32) (mtt : Int32) (mvl : Int32) (miw : Int32) (mrw : Nat → Int32) (mrn : Int32) (mso : Nat → Int32) (msz : Nat → Int32) (mnu : Nat → Int32) (mhw : Nat → Int32) (mhh : Nat → Int32) (mhm : Nat → Int32) (mbo : Nat → Int32) (mrr : Int32) (mak : Int32) (man : Int32) (maa : Int32) (mip : Int32) (x1 : Int32) (hx : x1.toInt ≤ 60) (Φ : Int32 × (Nat → Int32) × (Nat → Int32) → Prop) (hE : ∀ (x2 : Int32) (ss : Nat → Int32) (mld : Nat → Int32), Φ (x2, ss, mld) → J τ κ 0 0 (wM τ a ss mhd mas mbf mih mtp mtn mtk mfr mtt mvl miw mld mrw mrn mso msz mnu mhw mhh mhm mbo mrr mak man maa mip) [(0, .ref (a 0)), (1, .int x1), (2, .int x2)] 96 []) : ∀ (N : Nat) (x2 : Int32) (ss : Nat → Int32) (mld : Nat → Int32), ((60 : Int) - x2.toInt).toNat < N → (0 ≤ x2.toInt) → (x2.toInt ≤ 60) → (okS ss) → Φ (l_X6_listens_34 x1 N x2 ss mld) → J τ κ 0 0 (wM τ a ss mhd mas mbf mih mtp mtn mtk mfr mtt mvl miw mld mrw mrn mso msz mnu mhw mhh mhm mbo mrr mak man maa mip) [(0, .ref (a 0)), (1, .int x1), (2, .int x2)] 34 [] := by
  have hiX6 : ∀ w ∈ wsX60, w ∈ wsX6_listens := fun w h => List.mem_cons_of_mem _ (List.mem_append_right _ h)
  intro N
  induction N with
  | zero => intro x2 ss mld hm; exact absurd hm (Nat.not_lt_zero _)
  | succ N ih =>
    intro x2 ss mld hm h0 h1 hok hR
    rw [l_X6_listens_34] at hR
    refine j_iload_n C dX6_listens_34 35 rfl rfl 2 rfl ?_
    refine j_iload_n C dX6_listens_35 36 rfl rfl 1 rfl ?_
    refine j_icmp_ge C dX6_listens_36 96 rfl 39 rfl (fun c5 => ?_) (fun c5 => ?_)
    · rw [if_pos c5] at hR
      exact j_lv [0, 1, 2] [(0, .ref (a 0)), (1, .int x1), (2, .int x2)] rfl (hE _ _ _  hR)
    · rw [if_neg c5] at hR
      have hs := cnt_step (B := 60) h0 (hx) (by decide) c5
      refine j_aload_n C dX6_listens_39 40 rfl rfl 0 rfl ?_
      refine j_cv0I (na := 0) C dX6_listens_40 43 rfl (c_X6_sounding τ a ss mhd mas mbf mih mtp mtn mtk mfr mtt mvl miw mld mrw mrn mso msz mnu mhw mhh mhm mbo mrr mak man maa mip (by first | assumption | (unfold vp_in; decide) | decide)) gX6_listens_X6_sounding rfl rfl rfl qd_X6_sounding rfl ⟨by decide, by decide⟩ ⟨by decide, by decide⟩ rfl (Nat.le_of_ble_eq_true rfl) rfl 6 0 rfl rfl (fun r6 u6 hX6 hn6 => ?_)
      obtain rfl := (Prod.mk.inj hX6).1
      refine j_istore_n C dX6_listens_43 44 rfl rfl (by decide) [(3, .int (f_X6_sounding ss)), (0, .ref (a 0)), (1, .int x1), (2, .int x2)] rfl ?_
      refine j_iconst (v := 0) C dX6_listens_44 45 rfl (by decide) ?_
      refine j_istore C dX6_listens_45 47 rfl (by decide) [(4, .int 0), (3, .int (f_X6_sounding ss)), (0, .ref (a 0)), (1, .int x1), (2, .int x2)] rfl ?_
      refine j_lv [2, 3, 4, 1, 0] [(0, .ref (a 0)), (1, .int x1), (2, .int x2), (3, .int (f_X6_sounding ss)), (4, .int 0)] rfl (L_X6_listens_47 C a ss mhd mas mbf mih mtp mtn mtk mfr mtt mvl miw mrw mrn mso msz mnu mhw mhh mhm mbo mrr mak man maa mip x1 x2 (f_X6_sounding ss) (hok) (fun (o : Int32 × (Nat → Int32)) => Φ (pr2 o (fun x4_7 mld_7 => pr1 (f_X6_goesBy ss (f_X6_sounding ss)) (fun ss_11 => l_X6_listens_34 x1 N (x2 + 1) ss_11 mld_7)))) (fun x4_7 mld_7  hR => ?_) 300 (0 : Int32) mld (by decide) (by decide) (by decide) hR)
      rw [pr2_mk x4_7 mld_7] at hR
      refine j_aload_n C dX6_listens_85 86 rfl rfl 0 rfl ?_
      refine j_iload_n C dX6_listens_86 87 rfl rfl 3 rfl ?_
      refine j_cv0V (na := 1) C dX6_listens_87 90 rfl (c_X6_goesBy τ a ss mhd mas mbf mih mtp mtn mtk mfr mtt mvl miw mld_7 mrw mrn mso msz mnu mhw mhh mhm mbo mrr mak man maa mip (f_X6_sounding ss) (by first | assumption | (unfold vp_in; decide) | decide)) gX6_listens_X6_goesBy rfl rfl rfl qd_X6_goesBy rfl ⟨by decide, by decide⟩ ⟨by decide, by decide⟩ rfl (Nat.le_of_ble_eq_true rfl) rfl 6 0 rfl rfl (fun u11 hX11 => ?_)
      obtain ⟨ss_11, rfl⟩ : ∃ z, z = u11 := ⟨_, rfl⟩
      rw [hX11] at hR; rw [pr1_mk ss_11] at hR
      have hok11 : okS ss_11 := by rw [← hX11]; exact ok_goesBy (by assumption)
      refine j_iinc (v := (x2 + 1)) C dX6_listens_90 93 rfl 2 rfl rfl (by decide) [(2, .int (x2 + 1)), (0, .ref (a 0)), (1, .int x1), (3, .int (f_X6_sounding ss)), (4, .int x4_7)] rfl ?_
      refine j_goto C dX6_listens_93 34 rfl ?_
      exact j_lv [1, 2, 0] [(0, .ref (a 0)), (1, .int x1), (2, .int (x2 + 1))] rfl (ih _ _ _ (by have := hs.2.2.1; omega) hs.1 hs.2.1 (by assumption) hR)
set_option maxHeartbeats 4000000 in
set_option maxRecDepth 100000 in
theorem c_X6_listens (τ : SX) (a : Nat → Nat) (ss : Nat → Int32) (mhd : Nat → Int32) (mas : Nat → Int32) (mbf : Nat → Int32) (mih : Int32) (mtp : Nat → Int32) (mtn : Int32) (mtk : Int32) (mfr : Int32) (mtt : Int32) (mvl : Int32) (miw : Int32) (mld : Nat → Int32) (mrw : Nat → Int32) (mrn : Int32) (mso : Nat → Int32) (msz : Nat → Int32) (mnu : Nat → Int32) (mhw : Nat → Int32) (mhh : Nat → Int32) (mhm : Nat → Int32) (mbo : Nat → Int32) (mrr : Int32) (mak : Int32) (man : Int32) (maa : Int32) (mip : Int32) (x1 : Int32) (hok : okS ss) (hx : x1.toInt ≤ 60) (sz : Nat) : McV τ yX6_listens wsX6_listens rmX6_listens [.ref (a 0), .int x1] (wM τ a ss mhd mas mbf mih mtp mtn mtk mfr mtt mvl miw mld mrw mrn mso msz mnu mhw mhh mhm mbo mrr mak man maa mip) (fun u : (Nat → Int32) × (Nat → Int32) × (Nat → Int32) => (wM τ a u.1 mhd u.2.1 mbf mih mtp mtn mtk mfr mtt mvl miw u.2.2 mrw mrn mso msz mnu mhw mhh mhm mbo mrr mak man maa mip)) (f_X6_listens ss mas mld x1) 0 0 sz := by
  refine mc_V (cc := cX6_listens) (own := RX6) [(0, .ref (a 0)), (1, .int x1)] rfl (by decide) rfl rfl (Nat.le_of_ble_eq_true rfl) (fun κ C _ hR => ?_)
  have hiX6 : ∀ w ∈ wsX60, w ∈ wsX6_listens := fun w h => List.mem_cons_of_mem _ (List.mem_append_right _ h)
  unfold f_X6_listens at hR
  refine j_aload_n C dX6_listens_0 1 rfl rfl 0 rfl ?_
  refine j_get C dX6_listens_1 4 rfl hiX6 0 rfl rfl 0 (by decide) rfl kX6_listens_f7 rfl ?_
  refine j_aload_n C dX6_listens_4 5 rfl rfl 0 rfl ?_
  refine j_get C dX6_listens_5 8 rfl hiX6 0 rfl rfl 2 (by decide) rfl kX6_listens_f16 rfl ?_
  refine j_csWV (na := 2) C dX6_listens_8 11 rfl (c_X6_copyRow__sa τ a ss mhd mas mbf mih mtp mtn mtk mfr mtt mvl miw mld mrw mrn mso msz mnu mhw mhh mhm mbo mrr mak man maa mip ) ggX6_listens_X6_copyRow rfl rfl rfl kX6_listens_iRX6 kX6_listens_m138 kX6_listens_sX6_copyRow qd_X6_copyRow__sa rfl ⟨by decide, by decide⟩ ⟨by decide, by decide⟩ rfl (Nat.le_of_ble_eq_true rfl) rfl (fun u1 hX1 => ?_)
  obtain ⟨mas_1, rfl⟩ : ∃ z, z = u1 := ⟨_, rfl⟩
  rw [hX1] at hR; rw [pr1_mk mas_1] at hR
  have hoka1 : okS mas_1 := by rw [← hX1]; exact ok_cp_sa (by assumption)
  refine j_iconst (v := 0) C dX6_listens_11 12 rfl (by decide) ?_
  refine j_istore_n C dX6_listens_12 13 rfl rfl (by decide) [(2, .int 0), (0, .ref (a 0)), (1, .int x1)] rfl ?_
  refine j_lv [1, 2, 0] [(0, .ref (a 0)), (1, .int x1), (2, .int 0)] rfl (L_X6_listens_13 C a ss mhd mas_1 mbf mih mtp mtn mtk mfr mtt mvl miw mrw mrn mso msz mnu mhw mhh mhm mbo mrr mak man maa mip x1 hok hx (fun (o : Int32 × (Nat → Int32)) => RtV τ κ cX6_listens 0 0 (fun u : (Nat → Int32) × (Nat → Int32) × (Nat → Int32) => (wM τ a u.1 mhd u.2.1 mbf mih mtp mtn mtk mfr mtt mvl miw u.2.2 mrw mrn mso msz mnu mhw mhh mhm mbo mrr mak man maa mip)) (pr2 o (fun x2_2 mld_2 => pr3 (l_X6_listens_34 x1 300 (0 : Int32) ss mld_2) (fun x2_4 ss_4 mld_4 => pr1 (f_X6_copyRow__as ss_4 mas_1) (fun ss_12 => (ss_12, mas_1, mld_4)))))) (fun x2_2 mld_2  hR => ?_) 300 (0 : Int32) mld (by decide) (by decide) (by decide) hR)
  rw [pr2_mk x2_2 mld_2] at hR
  refine j_iconst (v := 0) C dX6_listens_32 33 rfl (by decide) ?_
  refine j_istore_n C dX6_listens_33 34 rfl rfl (by decide) [(2, .int 0), (0, .ref (a 0)), (1, .int x1)] rfl ?_
  refine j_lv [1, 2, 0] [(0, .ref (a 0)), (1, .int x1), (2, .int 0)] rfl (L_X6_listens_34 C a mhd mas_1 mbf mih mtp mtn mtk mfr mtt mvl miw mrw mrn mso msz mnu mhw mhh mhm mbo mrr mak man maa mip x1 hx (fun (o : Int32 × (Nat → Int32) × (Nat → Int32)) => RtV τ κ cX6_listens 0 0 (fun u : (Nat → Int32) × (Nat → Int32) × (Nat → Int32) => (wM τ a u.1 mhd u.2.1 mbf mih mtp mtn mtk mfr mtt mvl miw u.2.2 mrw mrn mso msz mnu mhw mhh mhm mbo mrr mak man maa mip)) (pr3 o (fun x2_4 ss_4 mld_4 => pr1 (f_X6_copyRow__as ss_4 mas_1) (fun ss_12 => (ss_12, mas_1, mld_4))))) (fun x2_4 ss_4 mld_4  hR => ?_) 300 (0 : Int32) ss mld_2 (by decide) (by decide) (by decide) (by assumption) hR)
  rw [pr3_mk x2_4 ss_4 mld_4] at hR
  refine j_aload_n C dX6_listens_96 97 rfl rfl 0 rfl ?_
  refine j_get C dX6_listens_97 100 rfl hiX6 0 rfl rfl 2 (by decide) rfl kX6_listens_f16 rfl ?_
  refine j_aload_n C dX6_listens_100 101 rfl rfl 0 rfl ?_
  refine j_get C dX6_listens_101 104 rfl hiX6 0 rfl rfl 0 (by decide) rfl kX6_listens_f7 rfl ?_
  refine j_csWV (na := 2) C dX6_listens_104 107 rfl (c_X6_copyRow__as τ a ss_4 mhd mas_1 mbf mih mtp mtn mtk mfr mtt mvl miw mld_4 mrw mrn mso msz mnu mhw mhh mhm mbo mrr mak man maa mip ) ggX6_listens_X6_copyRow rfl rfl rfl kX6_listens_iRX6 kX6_listens_m138 kX6_listens_sX6_copyRow qd_X6_copyRow__as rfl ⟨by decide, by decide⟩ ⟨by decide, by decide⟩ rfl (Nat.le_of_ble_eq_true rfl) rfl (fun u12 hX12 => ?_)
  obtain ⟨ss_12, rfl⟩ : ∃ z, z = u12 := ⟨_, rfl⟩
  rw [hX12] at hR; rw [pr1_mk ss_12] at hR
  have hok12 : okS ss_12 := by rw [← hX12]; exact ok_cp_as (by assumption)
  exact hR _ _ dX6_listens_107

