/-! which number of one thing, or of two, keeps it quiet longest -/
theorem best_eq {r x6 : Int32} : (if r ≤ x6 then x6 else r) = f_X6_greatest x6 r := by
  rw [grt_eq]
  by_cases c : r ≤ x6
  · rw [if_pos c, if_neg (by rw [i32_lt]; rw [i32_le] at c; omega)]
  · rw [if_neg c, if_pos (by rw [i32_lt]; rw [i32_le] at c; omega)]
theorem upd_agree {s t : Nat → Int32} {i : Nat} {v : Int32} (h : ∀ k, k < 50 → k ≠ i → t k = s k) : ∀ k, k < 50 → upd t i v k = upd s i v k := fun k hk => by
  by_cases e : k = i
  · rw [e, pk_us, pk_us]
  · rw [pk_un e, pk_un e]; exact h k hk e
section PU6
variable {lw kd bt ph cn no s : Nat → Int32} {ct sc rn lg dn zz : Int32}
theorem e_quietL_ph {x2 x5 ix : Int32} (h : RT lw kd bt ph cn no ct sc rn lg dn zz s) (hx : 0 ≤ x2.toInt ∧ x2.toInt < ct.toInt) (hix : ix.toNatClampNeg = 10 + 5 * x2.toNatClampNeg + 2) : ∀ (N : Nat) (x6 x7 x8 : Int32) (tlw tkd tbt tph tcn tno : Nat → Int32) (tct tsc trn tlg tdn tzz : Int32) (ss mas : Nat → Int32), 0 ≤ x8.toInt → x8.toInt ≤ 9 → (∀ k, k < 50 → k ≠ 10 + 5 * x2.toNatClampNeg + 2 → ss k = s k) → (l_X5_quietest__ph_9 lw kd bt ph cn no ct sc rn lg dn zz x2 8 x5 N x6 x7 x8 tlw tkd tbt tph tcn tno tct tsc trn tlg tdn tzz).2.1 = (l_X6_quietestBy__ph_28 x5 ix N x7 x6 x8 ss mas).1 ∧ ∀ k, k < 50 → k ≠ 10 + 5 * x2.toNatClampNeg + 2 → (l_X6_quietestBy__ph_28 x5 ix N x7 x6 x8 ss mas).2.2.2.1 k = s k := by
  intro N
  induction N with
  | zero => intro x6 x7 x8 tlw tkd tbt tph tcn tno tct tsc trn tlg tdn tzz ss mas _ _ hs; rw [l_X5_quietest__ph_9, l_X6_quietestBy__ph_28]; exact ⟨rfl, hs⟩
  | succ N ih =>
    intro x6 x7 x8 tlw tkd tbt tph tcn tno tct tsc trn tlg tdn tzz ss mas h0 h1 hs
    rw [l_X5_quietest__ph_9, l_X6_quietestBy__ph_28]
    have eh : (8 : Int32).toInt = 8 := rfl
    by_cases c : (8 : Int32) < x8
    · rw [if_pos c, if_pos c]; exact ⟨rfl, hs⟩
    · rw [if_neg c, if_neg c, hix]
      have c' : x8.toInt ≤ 8 := by rw [i32_lt, eh] at c; omega
      have ea := i32_add1 (i := x8) (by omega)
      have h2 := rt_ph (rt_cpy (lw' := tlw) (kd' := tkd) (bt' := tbt) (ph' := tph) (cn' := tcn) (no' := tno) h) (k0 := x2.toNatClampNeg) (v := x8) (by rw [cl_nn hx.1]; exact hx.2) ⟨h0, c'⟩
      have h3 := rt_same h2 (upd_agree hs)
      have hl := rt_length (mas := mas) h3 x5
      have hk := len_keep (s := upd ss (10 + 5 * x2.toNatClampNeg + 2) x8) (mas := mas) (x1 := x5) (x2 := 0)
      generalize f_X4_longestWithin (va_cpy lw tlw 0 0 4) (va_cpy kd tkd 0 0 8) (va_cpy bt tbt 0 0 8) (upd (va_cpy ph tph 0 0 8) x2.toNatClampNeg x8) ct sc rn lg dn x5 = p at hl ⊢
      obtain ⟨p0, p1, p2, p3, p4⟩ := p
      generalize f_X6_lengthBy (upd ss (10 + 5 * x2.toNatClampNeg + 2) x8) mas x5 0 = q at hl hk ⊢
      obtain ⟨q0, q1, q2⟩ := q
      have e0 : p0 = q0 := hl
      rw [pr5_mk, pr3_mk, pr1_mk, e0, ← best_eq]
      have hs2 : ∀ k, k < 50 → k ≠ 10 + 5 * x2.toNatClampNeg + 2 → q1 k = s k := fun k hk2 hne => by
        have q : q1 k = _ := hk k hk2
        rw [q, pk_un hne]; exact hs k hk2 hne
      by_cases c2 : q0 ≤ x6
      · rw [if_pos c2, if_pos c2, if_pos c2, pr2_mk]; exact ih _ _ _ _ _ _ _ _ _ _ _ _ _ _ _ _ _ (by omega) (by omega) hs2
      · rw [if_neg c2, if_neg c2, if_neg c2, pr2_mk]; exact ih _ _ _ _ _ _ _ _ _ _ _ _ _ _ _ _ _ (by omega) (by omega) hs2
theorem e_phaseFor {mas : Nat → Int32} {tlw tkd tbt tph tcn tno : Nat → Int32} {tct tsc trn tlg tdn tzz : Int32} (h : RT lw kd bt ph cn no ct sc rn lg dn zz s) (x1 x2 : Int32) : (f_X5_phaseFor lw kd bt ph cn no ct sc rn lg dn zz tlw tkd tbt tph tcn tno tct tsc trn tlg tdn tzz x1 x2).1 = (f_X6_phaseFor s mas x1 x2).1 ∧ ∀ k, k < 50 → (f_X6_phaseFor s mas x1 x2).2.1 k = s k := by
  unfold f_X5_phaseFor f_X6_phaseFor f_X5_isTrial f_X6_isLong
  rw [rt_has h, isin_eq (x := x2) (l := 1) (h := 60) rfl rfl]
  by_cases c1 : f_X4_has ct x1 = 0
  · rw [if_pos c1, if_pos c1, if_pos rfl]; exact ⟨rfl, fun _ _ => rfl⟩
  · rw [if_neg c1, if_neg c1]
    have hx := rt_in h c1
    by_cases c2 : f_X5_isIn x2 1 60 = 0
    · rw [if_pos c2, if_pos c2, if_pos rfl]; exact ⟨rfl, fun _ _ => rfl⟩
    · rw [if_neg c2, if_neg c2, if_neg i1n0]
      unfold f_X5_quietest__ph f_X6_quietestBy__ph
      have ei := its_ix (o := x1) (w := 2) hx.1 hx.2.2 (by decide) (by decide)
      rw [show (2 : Int32).toNatClampNeg = 2 from rfl] at ei
      have hp := e_quietL_ph (x5 := x2) h ⟨hx.1, hx.2.1⟩ ei 300 (-1) 0 0 tlw tkd tbt tph tcn tno tct tsc trn tlg tdn tzz s mas (by decide) (by decide) (fun _ _ _ => rfl)
      rw [ei]
      generalize l_X5_quietest__ph_9 lw kd bt ph cn no ct sc rn lg dn zz x1 8 x2 300 (-1) 0 0 tlw tkd tbt tph tcn tno tct tsc trn tlg tdn tzz = p at hp ⊢
      obtain ⟨p0, p1, p2, p3, p4, p5, p6, p7, p8, p9, p10, p11, p12, p13, p14⟩ := p
      generalize l_X6_quietestBy__ph_28 x2 (((10 : Int32) + ((5 : Int32) * x1)) + 2) 300 0 (-1) 0 s mas = q at hp ⊢
      obtain ⟨q0, q1, q2, q3, q4⟩ := q
      simp only [pr15_mk, pr13_mk, pr5_mk, pr3_mk]
      refine ⟨hp.1, fun k hk => ?_⟩
      by_cases e : k = 10 + 5 * x1.toNatClampNeg + 2
      · rw [e, pk_us]
      · rw [pk_un e]; exact hp.2 k hk e
theorem e_quietL_bt {x2 x5 ix : Int32} (h : RT lw kd bt ph cn no ct sc rn lg dn zz s) (hx : 0 ≤ x2.toInt ∧ x2.toInt < ct.toInt) (hix : ix.toNatClampNeg = 10 + 5 * x2.toNatClampNeg + 1) : ∀ (N : Nat) (x6 x7 x8 : Int32) (tlw tkd tbt tph tcn tno : Nat → Int32) (tct tsc trn tlg tdn tzz : Int32) (ss mas : Nat → Int32), 1 ≤ x8.toInt → x8.toInt ≤ 10 → (∀ k, k < 50 → k ≠ 10 + 5 * x2.toNatClampNeg + 1 → ss k = s k) → (l_X5_quietest__bt_9 lw kd bt ph cn no ct sc rn lg dn zz x2 9 x5 N x6 x7 x8 tlw tkd tbt tph tcn tno tct tsc trn tlg tdn tzz).2.1 = (l_X6_quietestBy__bt_28 x5 ix N x7 x6 x8 ss mas).1 ∧ ∀ k, k < 50 → k ≠ 10 + 5 * x2.toNatClampNeg + 1 → (l_X6_quietestBy__bt_28 x5 ix N x7 x6 x8 ss mas).2.2.2.1 k = s k := by
  intro N
  induction N with
  | zero => intro x6 x7 x8 tlw tkd tbt tph tcn tno tct tsc trn tlg tdn tzz ss mas _ _ hs; rw [l_X5_quietest__bt_9, l_X6_quietestBy__bt_28]; exact ⟨rfl, hs⟩
  | succ N ih =>
    intro x6 x7 x8 tlw tkd tbt tph tcn tno tct tsc trn tlg tdn tzz ss mas h0 h1 hs
    rw [l_X5_quietest__bt_9, l_X6_quietestBy__bt_28]
    have eh : (9 : Int32).toInt = 9 := rfl
    by_cases c : (9 : Int32) < x8
    · rw [if_pos c, if_pos c]; exact ⟨rfl, hs⟩
    · rw [if_neg c, if_neg c, hix]
      have c' : x8.toInt ≤ 9 := by rw [i32_lt, eh] at c; omega
      have ea := i32_add1 (i := x8) (by omega)
      have h2 := rt_bt (rt_cpy (lw' := tlw) (kd' := tkd) (bt' := tbt) (ph' := tph) (cn' := tcn) (no' := tno) h) (k0 := x2.toNatClampNeg) (v := x8) (by rw [cl_nn hx.1]; exact hx.2) ⟨h0, c'⟩
      have h3 := rt_same h2 (upd_agree hs)
      have hl := rt_length (mas := mas) h3 x5
      have hk := len_keep (s := upd ss (10 + 5 * x2.toNatClampNeg + 1) x8) (mas := mas) (x1 := x5) (x2 := 0)
      generalize f_X4_longestWithin (va_cpy lw tlw 0 0 4) (va_cpy kd tkd 0 0 8) (upd (va_cpy bt tbt 0 0 8) x2.toNatClampNeg x8) (va_cpy ph tph 0 0 8) ct sc rn lg dn x5 = p at hl ⊢
      obtain ⟨p0, p1, p2, p3, p4⟩ := p
      generalize f_X6_lengthBy (upd ss (10 + 5 * x2.toNatClampNeg + 1) x8) mas x5 0 = q at hl hk ⊢
      obtain ⟨q0, q1, q2⟩ := q
      have e0 : p0 = q0 := hl
      rw [pr5_mk, pr3_mk, pr1_mk, e0, ← best_eq]
      have hs2 : ∀ k, k < 50 → k ≠ 10 + 5 * x2.toNatClampNeg + 1 → q1 k = s k := fun k hk2 hne => by
        have q : q1 k = _ := hk k hk2
        rw [q, pk_un hne]; exact hs k hk2 hne
      by_cases c2 : q0 ≤ x6
      · rw [if_pos c2, if_pos c2, if_pos c2, pr2_mk]; exact ih _ _ _ _ _ _ _ _ _ _ _ _ _ _ _ _ _ (by omega) (by omega) hs2
      · rw [if_neg c2, if_neg c2, if_neg c2, pr2_mk]; exact ih _ _ _ _ _ _ _ _ _ _ _ _ _ _ _ _ _ (by omega) (by omega) hs2
theorem e_beatFor {mas : Nat → Int32} {tlw tkd tbt tph tcn tno : Nat → Int32} {tct tsc trn tlg tdn tzz : Int32} (h : RT lw kd bt ph cn no ct sc rn lg dn zz s) (x1 x2 : Int32) : (f_X5_beatFor lw kd bt ph cn no ct sc rn lg dn zz tlw tkd tbt tph tcn tno tct tsc trn tlg tdn tzz x1 x2).1 = (f_X6_beatFor s mas x1 x2).1 ∧ ∀ k, k < 50 → (f_X6_beatFor s mas x1 x2).2.1 k = s k := by
  unfold f_X5_beatFor f_X6_beatFor f_X5_isTrial f_X6_isLong
  rw [rt_has h, isin_eq (x := x2) (l := 1) (h := 60) rfl rfl]
  by_cases c1 : f_X4_has ct x1 = 0
  · rw [if_pos c1, if_pos c1, if_pos rfl]; exact ⟨rfl, fun _ _ => rfl⟩
  · rw [if_neg c1, if_neg c1]
    have hx := rt_in h c1
    by_cases c2 : f_X5_isIn x2 1 60 = 0
    · rw [if_pos c2, if_pos c2, if_pos rfl]; exact ⟨rfl, fun _ _ => rfl⟩
    · rw [if_neg c2, if_neg c2, if_neg i1n0]
      unfold f_X5_quietest__bt f_X6_quietestBy__bt
      have ei := its_ix (o := x1) (w := 1) hx.1 hx.2.2 (by decide) (by decide)
      rw [show (1 : Int32).toNatClampNeg = 1 from rfl] at ei
      have hp := e_quietL_bt (x5 := x2) h ⟨hx.1, hx.2.1⟩ ei 300 (-1) 1 1 tlw tkd tbt tph tcn tno tct tsc trn tlg tdn tzz s mas (by decide) (by decide) (fun _ _ _ => rfl)
      rw [ei]
      generalize l_X5_quietest__bt_9 lw kd bt ph cn no ct sc rn lg dn zz x1 9 x2 300 (-1) 1 1 tlw tkd tbt tph tcn tno tct tsc trn tlg tdn tzz = p at hp ⊢
      obtain ⟨p0, p1, p2, p3, p4, p5, p6, p7, p8, p9, p10, p11, p12, p13, p14⟩ := p
      generalize l_X6_quietestBy__bt_28 x2 (((10 : Int32) + ((5 : Int32) * x1)) + 1) 300 1 (-1) 1 s mas = q at hp ⊢
      obtain ⟨q0, q1, q2, q3, q4⟩ := q
      simp only [pr15_mk, pr13_mk, pr5_mk, pr3_mk]
      refine ⟨hp.1, fun k hk => ?_⟩
      by_cases e : k = 10 + 5 * x1.toNatClampNeg + 1
      · rw [e, pk_us]
      · rw [pk_un e]; exact hp.2 k hk e
theorem e_quietL_kd {x2 x5 ix : Int32} (h : RT lw kd bt ph cn no ct sc rn lg dn zz s) (hx : 0 ≤ x2.toInt ∧ x2.toInt < ct.toInt) (hix : ix.toNatClampNeg = 10 + 5 * x2.toNatClampNeg) : ∀ (N : Nat) (x6 x7 x8 : Int32) (tlw tkd tbt tph tcn tno : Nat → Int32) (tct tsc trn tlg tdn tzz : Int32) (ss mas : Nat → Int32), 0 ≤ x8.toInt → x8.toInt ≤ 6 → (∀ k, k < 50 → k ≠ 10 + 5 * x2.toNatClampNeg → ss k = s k) → (l_X5_quietest__kd_9 lw kd bt ph cn no ct sc rn lg dn zz x2 5 x5 N x6 x7 x8 tlw tkd tbt tph tcn tno tct tsc trn tlg tdn tzz).2.1 = (l_X6_quietestBy__kd_28 x5 ix N x7 x6 x8 ss mas).1 ∧ ∀ k, k < 50 → k ≠ 10 + 5 * x2.toNatClampNeg → (l_X6_quietestBy__kd_28 x5 ix N x7 x6 x8 ss mas).2.2.2.1 k = s k := by
  intro N
  induction N with
  | zero => intro x6 x7 x8 tlw tkd tbt tph tcn tno tct tsc trn tlg tdn tzz ss mas _ _ hs; rw [l_X5_quietest__kd_9, l_X6_quietestBy__kd_28]; exact ⟨rfl, hs⟩
  | succ N ih =>
    intro x6 x7 x8 tlw tkd tbt tph tcn tno tct tsc trn tlg tdn tzz ss mas h0 h1 hs
    rw [l_X5_quietest__kd_9, l_X6_quietestBy__kd_28]
    have eh : (5 : Int32).toInt = 5 := rfl
    by_cases c : (5 : Int32) < x8
    · rw [if_pos c, if_pos c]; exact ⟨rfl, hs⟩
    · rw [if_neg c, if_neg c, hix]
      have c' : x8.toInt ≤ 5 := by rw [i32_lt, eh] at c; omega
      have ea := i32_add1 (i := x8) (by omega)
      have h2 := rt_kd (rt_cpy (lw' := tlw) (kd' := tkd) (bt' := tbt) (ph' := tph) (cn' := tcn) (no' := tno) h) (k0 := x2.toNatClampNeg) (v := x8) (by rw [cl_nn hx.1]; exact hx.2) ⟨h0, c'⟩
      have h3 := rt_same h2 (upd_agree hs)
      have hl := rt_length (mas := mas) h3 x5
      have hk := len_keep (s := upd ss (10 + 5 * x2.toNatClampNeg) x8) (mas := mas) (x1 := x5) (x2 := 0)
      generalize f_X4_longestWithin (va_cpy lw tlw 0 0 4) (upd (va_cpy kd tkd 0 0 8) x2.toNatClampNeg x8) (va_cpy bt tbt 0 0 8) (va_cpy ph tph 0 0 8) ct sc rn lg dn x5 = p at hl ⊢
      obtain ⟨p0, p1, p2, p3, p4⟩ := p
      generalize f_X6_lengthBy (upd ss (10 + 5 * x2.toNatClampNeg) x8) mas x5 0 = q at hl hk ⊢
      obtain ⟨q0, q1, q2⟩ := q
      have e0 : p0 = q0 := hl
      rw [pr5_mk, pr3_mk, pr1_mk, e0, ← best_eq]
      have hs2 : ∀ k, k < 50 → k ≠ 10 + 5 * x2.toNatClampNeg → q1 k = s k := fun k hk2 hne => by
        have q : q1 k = _ := hk k hk2
        rw [q, pk_un hne]; exact hs k hk2 hne
      by_cases c2 : q0 ≤ x6
      · rw [if_pos c2, if_pos c2, if_pos c2, pr2_mk]; exact ih _ _ _ _ _ _ _ _ _ _ _ _ _ _ _ _ _ (by omega) (by omega) hs2
      · rw [if_neg c2, if_neg c2, if_neg c2, pr2_mk]; exact ih _ _ _ _ _ _ _ _ _ _ _ _ _ _ _ _ _ (by omega) (by omega) hs2
theorem e_kindFor {mas : Nat → Int32} {tlw tkd tbt tph tcn tno : Nat → Int32} {tct tsc trn tlg tdn tzz : Int32} (h : RT lw kd bt ph cn no ct sc rn lg dn zz s) (x1 x2 : Int32) : (f_X5_kindFor lw kd bt ph cn no ct sc rn lg dn zz tlw tkd tbt tph tcn tno tct tsc trn tlg tdn tzz x1 x2).1 = (f_X6_kindFor s mas x1 x2).1 ∧ ∀ k, k < 50 → (f_X6_kindFor s mas x1 x2).2.1 k = s k := by
  unfold f_X5_kindFor f_X6_kindFor f_X5_isTrial f_X6_isLong
  rw [rt_has h, isin_eq (x := x2) (l := 1) (h := 60) rfl rfl]
  by_cases c1 : f_X4_has ct x1 = 0
  · rw [if_pos c1, if_pos c1, if_pos rfl]; exact ⟨rfl, fun _ _ => rfl⟩
  · rw [if_neg c1, if_neg c1]
    have hx := rt_in h c1
    by_cases c2 : f_X5_isIn x2 1 60 = 0
    · rw [if_pos c2, if_pos c2, if_pos rfl]; exact ⟨rfl, fun _ _ => rfl⟩
    · rw [if_neg c2, if_neg c2, if_neg i1n0]
      unfold f_X5_quietest__kd f_X6_quietestBy__kd
      have ei := its_ix (o := x1) (w := 0) hx.1 hx.2.2 (by decide) (by decide)
      rw [show (0 : Int32).toNatClampNeg = 0 from rfl, Nat.add_zero] at ei
      have hp := e_quietL_kd (x5 := x2) h ⟨hx.1, hx.2.1⟩ ei 300 (-1) 0 0 tlw tkd tbt tph tcn tno tct tsc trn tlg tdn tzz s mas (by decide) (by decide) (fun _ _ _ => rfl)
      rw [ei]
      generalize l_X5_quietest__kd_9 lw kd bt ph cn no ct sc rn lg dn zz x1 5 x2 300 (-1) 0 0 tlw tkd tbt tph tcn tno tct tsc trn tlg tdn tzz = p at hp ⊢
      obtain ⟨p0, p1, p2, p3, p4, p5, p6, p7, p8, p9, p10, p11, p12, p13, p14⟩ := p
      generalize l_X6_quietestBy__kd_28 x2 (((10 : Int32) + ((5 : Int32) * x1)) + 0) 300 0 (-1) 0 s mas = q at hp ⊢
      obtain ⟨q0, q1, q2, q3, q4⟩ := q
      simp only [pr15_mk, pr13_mk, pr5_mk, pr3_mk]
      refine ⟨hp.1, fun k hk => ?_⟩
      by_cases e : k = 10 + 5 * x1.toNatClampNeg
      · rw [e, pk_us]
      · rw [pk_un e]; exact hp.2 k hk e
theorem pair_tab : ∀ a b : Fin 9, (Int32.ofNat a.val * 9 + Int32.ofNat b.val) / 9 = Int32.ofNat a.val ∧ (Int32.ofNat a.val * 9 + Int32.ofNat b.val) - (Int32.ofNat a.val * 9 + Int32.ofNat b.val) / 9 * 9 = Int32.ofNat b.val ∧ ¬ (81 : Int32) ≤ Int32.ofNat a.val * 9 + Int32.ofNat b.val := by decide +kernel
theorem pair_at {a b : Int32} (ha : 0 ≤ a.toInt ∧ a.toInt ≤ 8) (hb : 0 ≤ b.toInt ∧ b.toInt ≤ 8) : (a * 9 + b) / 9 = a ∧ (a * 9 + b) - (a * 9 + b) / 9 * 9 = b ∧ ¬ (81 : Int32) ≤ a * 9 + b := by
  obtain ⟨m, e1, _⟩ := ofI (x := a) (B := 9) ha.1 (by omega)
  obtain ⟨n, e2, _⟩ := ofI (x := b) (B := 9) hb.1 (by omega)
  rw [e1, e2]
  exact pair_tab m n
theorem e_pairIn {x1 x2 x3 x6 i1 i2 : Int32} (h : RT lw kd bt ph cn no ct sc rn lg dn zz s) (hx1 : 0 ≤ x1.toInt ∧ x1.toInt < ct.toInt) (hx2 : 0 ≤ x2.toInt ∧ x2.toInt < ct.toInt) (hi1 : i1.toNatClampNeg = 10 + 5 * x1.toNatClampNeg + 2) (hi2 : i2.toNatClampNeg = 10 + 5 * x2.toNatClampNeg + 2) (h6 : 0 ≤ x6.toInt ∧ x6.toInt ≤ 8) (M : Nat) : ∀ (n N : Nat) (x4 x5 x7 : Int32) (tlw tkd tbt tph tcn tno : Nat → Int32) (tct tsc trn tlg tdn tzz : Int32) (ss mas : Nat → Int32), 0 ≤ x7.toInt → x7.toInt + n = 9 → n < N → (∀ k, k < 50 → k ≠ 10 + 5 * x1.toNatClampNeg + 2 → k ≠ 10 + 5 * x2.toNatClampNeg + 2 → ss k = s k) → ∃ ss2 mas2 : Nat → Int32, (∀ k, k < 50 → k ≠ 10 + 5 * x1.toNatClampNeg + 2 → k ≠ 10 + 5 * x2.toNatClampNeg + 2 → ss2 k = s k) ∧ l_X6_pairFor_77 x3 i1 i2 (M + n) x5 x4 (x6 * 9 + x7) ss mas = l_X6_pairFor_77 x3 i1 i2 M (l_X5_pairFor_48 lw kd bt ph cn no ct sc rn lg dn zz x1 x2 x3 x6 N x4 x5 x7 tlw tkd tbt tph tcn tno tct tsc trn tlg tdn tzz).2.1 (l_X5_pairFor_48 lw kd bt ph cn no ct sc rn lg dn zz x1 x2 x3 x6 N x4 x5 x7 tlw tkd tbt tph tcn tno tct tsc trn tlg tdn tzz).1 (x6 * 9 + 9) ss2 mas2 := by
  have e8 : (8 : Int32).toInt = 8 := rfl
  intro n
  induction n with
  | zero =>
    intro N x4 x5 x7 tlw tkd tbt tph tcn tno tct tsc trn tlg tdn tzz ss mas h0 h1 hN hs
    have e9 : x7 = 9 := i32_eq.mpr (by rw [show (9 : Int32).toInt = 9 from rfl]; omega)
    obtain ⟨N', rfl⟩ : ∃ M, N = M + 1 := ⟨N - 1, by omega⟩
    refine ⟨ss, mas, hs, ?_⟩
    rw [l_X5_pairFor_48, if_pos (show (8 : Int32) < x7 by rw [e9]; decide), Nat.add_zero, e9]
  | succ n ih =>
    intro N x4 x5 x7 tlw tkd tbt tph tcn tno tct tsc trn tlg tdn tzz ss mas h0 h1 hN hs
    obtain ⟨N', rfl⟩ : ∃ M, N = M + 1 := ⟨N - 1, by omega⟩
    have ea := i32_add1 (i := x7) (by omega)
    have pt := pair_at (a := x6) (b := x7) h6 ⟨h0, by omega⟩
    rw [l_X5_pairFor_48, if_neg (show ¬ (8 : Int32) < x7 by rw [i32_lt, e8]; omega), show M + (n + 1) = (M + n) + 1 from rfl, l_X6_pairFor_77, if_neg pt.2.2, pt.2.1, pt.1, hi1, hi2]
    have h2 := rt_ph (rt_ph (rt_cpy (lw' := tlw) (kd' := tkd) (bt' := tbt) (ph' := tph) (cn' := tcn) (no' := tno) h) (k0 := x1.toNatClampNeg) (v := x6) (by rw [cl_nn hx1.1]; exact hx1.2) h6) (k0 := x2.toNatClampNeg) (v := x7) (by rw [cl_nn hx2.1]; exact hx2.2) ⟨h0, by omega⟩
    have hag : ∀ k, k < 50 → upd (upd ss (10 + 5 * x1.toNatClampNeg + 2) x6) (10 + 5 * x2.toNatClampNeg + 2) x7 k = upd (upd s (10 + 5 * x1.toNatClampNeg + 2) x6) (10 + 5 * x2.toNatClampNeg + 2) x7 k := fun k hk => by
      by_cases ek : k = 10 + 5 * x2.toNatClampNeg + 2
      · rw [ek, pk_us, pk_us]
      · rw [pk_un ek, pk_un ek]
        by_cases ek2 : k = 10 + 5 * x1.toNatClampNeg + 2
        · rw [ek2, pk_us, pk_us]
        · rw [pk_un ek2, pk_un ek2]; exact hs k hk ek2 ek
    have h3 := rt_same h2 hag
    have hl := rt_length (mas := mas) h3 x3
    have hk := len_keep (s := upd (upd ss (10 + 5 * x1.toNatClampNeg + 2) x6) (10 + 5 * x2.toNatClampNeg + 2) x7) (mas := mas) (x1 := x3) (x2 := 0)
    generalize f_X4_longestWithin (va_cpy lw tlw 0 0 4) (va_cpy kd tkd 0 0 8) (va_cpy bt tbt 0 0 8) (upd (upd (va_cpy ph tph 0 0 8) x1.toNatClampNeg x6) x2.toNatClampNeg x7) ct sc rn lg dn x3 = p at hl ⊢
    obtain ⟨p0, p1, p2, p3, p4⟩ := p
    generalize f_X6_lengthBy (upd (upd ss (10 + 5 * x1.toNatClampNeg + 2) x6) (10 + 5 * x2.toNatClampNeg + 2) x7) mas x3 0 = q at hl hk ⊢
    obtain ⟨q0, q1, q2⟩ := q
    have e0 : p0 = q0 := hl
    rw [pr5_mk, pr3_mk, pr1_mk, e0, ← best_eq, show x6 * 9 + x7 + 1 = x6 * 9 + (x7 + 1) from Int32.add_assoc _ _ _]
    have hs2 : ∀ k, k < 50 → k ≠ 10 + 5 * x1.toNatClampNeg + 2 → k ≠ 10 + 5 * x2.toNatClampNeg + 2 → q1 k = s k := fun k hk2 n1 n2 => by
      have q : q1 k = _ := hk k hk2
      rw [q, pk_un n2, pk_un n1]; exact hs k hk2 n1 n2
    by_cases c2 : q0 ≤ x4
    · rw [if_pos c2, if_pos c2, if_pos c2, pr2_mk]; exact ih N' _ _ _ _ _ _ _ _ _ _ _ _ _ _ _ _ _ (by omega) (by omega) (by omega) hs2
    · rw [if_neg c2, if_neg c2, if_neg c2, pr2_mk]; exact ih N' _ _ _ _ _ _ _ _ _ _ _ _ _ _ _ _ _ (by omega) (by omega) (by omega) hs2
theorem e_pairOut {x1 x2 x3 i1 i2 : Int32} (h : RT lw kd bt ph cn no ct sc rn lg dn zz s) (hx1 : 0 ≤ x1.toInt ∧ x1.toInt < ct.toInt) (hx2 : 0 ≤ x2.toInt ∧ x2.toInt < ct.toInt) (hi1 : i1.toNatClampNeg = 10 + 5 * x1.toNatClampNeg + 2) (hi2 : i2.toNatClampNeg = 10 + 5 * x2.toNatClampNeg + 2) (M : Nat) : ∀ (n N : Nat) (x4 x5 x6 : Int32) (tlw tkd tbt tph tcn tno : Nat → Int32) (tct tsc trn tlg tdn tzz : Int32) (ss mas : Nat → Int32), 0 ≤ x6.toInt → x6.toInt + n = 9 → n < N → (∀ k, k < 50 → k ≠ 10 + 5 * x1.toNatClampNeg + 2 → k ≠ 10 + 5 * x2.toNatClampNeg + 2 → ss k = s k) → (l_X5_pairFor_38 lw kd bt ph cn no ct sc rn lg dn zz x1 x2 x3 N x4 x5 x6 tlw tkd tbt tph tcn tno tct tsc trn tlg tdn tzz).2.1 = (l_X6_pairFor_77 x3 i1 i2 (M + 1 + 9 * n) x5 x4 (x6 * 9 + 0) ss mas).1 ∧ ∀ k, k < 50 → k ≠ 10 + 5 * x1.toNatClampNeg + 2 → k ≠ 10 + 5 * x2.toNatClampNeg + 2 → (l_X6_pairFor_77 x3 i1 i2 (M + 1 + 9 * n) x5 x4 (x6 * 9 + 0) ss mas).2.2.2.1 k = s k := by
  have e8 : (8 : Int32).toInt = 8 := rfl
  intro n
  induction n with
  | zero =>
    intro N x4 x5 x6 tlw tkd tbt tph tcn tno tct tsc trn tlg tdn tzz ss mas h0 h1 hN hs
    have e9 : x6 = 9 := i32_eq.mpr (by rw [show (9 : Int32).toInt = 9 from rfl]; omega)
    obtain ⟨N', rfl⟩ : ∃ M, N = M + 1 := ⟨N - 1, by omega⟩
    rw [l_X5_pairFor_38, if_pos (show (8 : Int32) < x6 by rw [e9]; decide), Nat.mul_zero, Nat.add_zero, l_X6_pairFor_77, if_pos (show (81 : Int32) ≤ x6 * 9 + 0 by rw [e9]; decide)]
    exact ⟨rfl, hs⟩
  | succ n ih =>
    intro N x4 x5 x6 tlw tkd tbt tph tcn tno tct tsc trn tlg tdn tzz ss mas h0 h1 hN hs
    obtain ⟨N', rfl⟩ : ∃ M, N = M + 1 := ⟨N - 1, by omega⟩
    have ea := i32_add1 (i := x6) (by omega)
    obtain ⟨ss2, mas2, hs2, eq⟩ := e_pairIn (x3 := x3) h hx1 hx2 hi1 hi2 ⟨h0, by omega⟩ (M + 1 + 9 * n) 9 300 x4 x5 0 tlw tkd tbt tph tcn tno tct tsc trn tlg tdn tzz ss mas (by decide) (by decide) (by decide) hs
    rw [l_X5_pairFor_38, if_neg (show ¬ (8 : Int32) < x6 by rw [i32_lt, e8]; omega), show M + 1 + 9 * (n + 1) = M + 1 + 9 * n + 9 from by omega, eq, show x6 * 9 + 9 = (x6 + 1) * 9 + 0 from by rw [Int32.add_mul, Int32.one_mul, Int32.add_zero]]
    generalize l_X5_pairFor_48 lw kd bt ph cn no ct sc rn lg dn zz x1 x2 x3 x6 300 x4 x5 0 tlw tkd tbt tph tcn tno tct tsc trn tlg tdn tzz = p
    obtain ⟨p0, p1, p2, p3, p4, p5, p6, p7, p8, p9, p10, p11, p12, p13, p14⟩ := p
    rw [pr15_mk]
    exact ih N' _ _ _ _ _ _ _ _ _ _ _ _ _ _ _ _ _ (by omega) (by omega) (by omega) hs2
theorem e_pairFor {mas : Nat → Int32} {tlw tkd tbt tph tcn tno : Nat → Int32} {tct tsc trn tlg tdn tzz : Int32} (h : RT lw kd bt ph cn no ct sc rn lg dn zz s) (x1 x2 x3 : Int32) : (f_X5_pairFor lw kd bt ph cn no ct sc rn lg dn zz tlw tkd tbt tph tcn tno tct tsc trn tlg tdn tzz x1 x2 x3).1 = (f_X6_pairFor s mas x1 x2 x3).1 ∧ ∀ k, k < 50 → (f_X6_pairFor s mas x1 x2 x3).2.1 k = s k := by
  unfold f_X5_pairFor f_X6_pairFor f_X5_isTrial f_X6_isShort
  rw [rt_has h, rt_has h, isin_eq (x := x3) (l := 1) (h := 30) rfl rfl]
  by_cases c1 : f_X4_has ct x1 = 0
  · rw [if_pos c1, if_pos c1, if_pos rfl]; exact ⟨rfl, fun _ _ => rfl⟩
  · rw [if_neg c1, if_neg c1]
    have hx := rt_in h c1
    by_cases c2 : f_X5_isIn x3 1 30 = 0
    · rw [if_pos c2, if_pos c2, if_pos rfl]
      refine ⟨?_, ?_⟩
      · split
        · rfl
        · split <;> rfl
      · intro k _
        split
        · rfl
        · split <;> rfl
    · rw [if_neg c2, if_neg c2, if_neg i1n0]
      by_cases c3 : f_X4_has ct x2 = 0
      · rw [if_pos c3, if_pos c3]; exact ⟨rfl, fun _ _ => rfl⟩
      · rw [if_neg c3, if_neg c3]
        have hy := rt_in h c3
        by_cases c4 : x1 = x2
        · rw [if_pos c4, if_pos c4]; exact ⟨rfl, fun _ _ => rfl⟩
        · rw [if_neg c4, if_neg c4]
          have ei := its_ix (o := x1) (w := 2) hx.1 hx.2.2 (by decide) (by decide)
          have ej := its_ix (o := x2) (w := 2) hy.1 hy.2.2 (by decide) (by decide)
          rw [show (2 : Int32).toNatClampNeg = 2 from rfl] at ei ej
          have hp := e_pairOut (x3 := x3) h ⟨hx.1, hx.2.1⟩ ⟨hy.1, hy.2.1⟩ ei ej 218 9 300 (-1) 0 0 tlw tkd tbt tph tcn tno tct tsc trn tlg tdn tzz s mas (by decide) (by decide) (by decide) (fun _ _ _ _ => rfl)
          rw [show (0 : Int32) * 9 + 0 = 0 from rfl, show 218 + 1 + 9 * 9 = 300 from rfl] at hp
          rw [ei, ej]
          generalize l_X5_pairFor_38 lw kd bt ph cn no ct sc rn lg dn zz x1 x2 x3 300 (-1) 0 0 tlw tkd tbt tph tcn tno tct tsc trn tlg tdn tzz = p at hp ⊢
          obtain ⟨p0, p1, p2, p3, p4, p5, p6, p7, p8, p9, p10, p11, p12, p13, p14⟩ := p
          generalize l_X6_pairFor_77 x3 (((10 : Int32) + ((5 : Int32) * x1)) + 2) (((10 : Int32) + ((5 : Int32) * x2)) + 2) 300 0 (-1) 0 s mas = q at hp ⊢
          obtain ⟨q0, q1, q2, q3, q4⟩ := q
          rw [pr15_mk, pr5_mk]
          refine ⟨hp.1, fun k hk => ?_⟩
          show upd (upd q3 (10 + 5 * x1.toNatClampNeg + 2) (s (10 + 5 * x1.toNatClampNeg + 2))) (10 + 5 * x2.toNatClampNeg + 2) (s (10 + 5 * x2.toNatClampNeg + 2)) k = s k
          by_cases e : k = 10 + 5 * x2.toNatClampNeg + 2
          · rw [e, pk_us]
          · rw [pk_un e]
            by_cases e2 : k = 10 + 5 * x1.toNatClampNeg + 2
            · rw [e2, pk_us]
            · rw [pk_un e2]; exact hp.2 k hk e2 e
end PU6
/-! anew, keep, again; what is heard at a corner -/
abbrev T12 := (Nat → Int32) × (Nat → Int32) × (Nat → Int32) × (Nat → Int32) × (Nat → Int32) × (Nat → Int32) × Int32 × Int32 × Int32 × Int32 × Int32 × Int32
def RT12 (r : T12) (s : Nat → Int32) : Prop := RT r.1 r.2.1 r.2.2.1 r.2.2.2.1 r.2.2.2.2.1 r.2.2.2.2.2.1 r.2.2.2.2.2.2.1 r.2.2.2.2.2.2.2.1 r.2.2.2.2.2.2.2.2.1 r.2.2.2.2.2.2.2.2.2.1 r.2.2.2.2.2.2.2.2.2.2.1 r.2.2.2.2.2.2.2.2.2.2.2 s
theorem forgetL : ∀ (N : Nat) (x1 : Int32) (no : Nat → Int32), 0 ≤ x1.toInt → x1.toInt ≤ 8 → ((8 : Int) - x1.toInt).toNat < N → (∀ k : Nat, (k : Int) < x1.toInt → no k = 0) → ∀ k : Nat, k < 8 → (l_X4_forget_17 N x1 no).2 k = 0 := by
  intro N
  induction N with
  | zero => intro x1 no _ _ h; exact absurd h (Nat.not_lt_zero _)
  | succ N ih =>
    intro x1 no h0 h1 hm hq k hk
    rw [l_X4_forget_17]
    by_cases c : (8 : Int32) ≤ x1
    · rw [if_pos c]
      rw [i32_le, show (8 : Int32).toInt = 8 from rfl] at c
      exact hq k (by omega)
    · rw [if_neg c]
      have hs := cnt_step (B := 8) h0 (by decide) (by decide) c
      have e1 := i32_add1 (i := x1) (by omega)
      have ec := cl_nn h0
      refine ih _ _ hs.1 hs.2.1 (by omega) (fun j hj => ?_) k hk
      by_cases ej : j = x1.toNatClampNeg
      · rw [ej]; exact pk_us
      · rw [pk_un ej]; exact hq j (by omega)
theorem listens13 : ∀ (N : Nat) (x1 : Int32) (no : Nat → Int32), 0 ≤ x1.toInt → x1.toInt ≤ 12 → ((12 : Int) - x1.toInt).toNat < N → (∀ k : Nat, (k : Int) < x1.toInt → no k = 0) → ∀ k : Nat, k < 12 → (l_X6_listens_13 N x1 no).2 k = 0 := by
  intro N
  induction N with
  | zero => intro x1 no _ _ h; exact absurd h (Nat.not_lt_zero _)
  | succ N ih =>
    intro x1 no h0 h1 hm hq k hk
    rw [l_X6_listens_13]
    by_cases c : (12 : Int32) ≤ x1
    · rw [if_pos c]
      rw [i32_le, show (12 : Int32).toInt = 12 from rfl] at c
      exact hq k (by omega)
    · rw [if_neg c]
      have hs := cnt_step (B := 12) h0 (by decide) (by decide) c
      have e1 := i32_add1 (i := x1) (by omega)
      have ec := cl_nn h0
      refine ih _ _ hs.1 hs.2.1 (by omega) (fun j hj => ?_) k hk
      by_cases ej : j = x1.toNatClampNeg
      · rw [ej]; exact pk_us
      · rw [pk_un ej]; exact hq j (by omega)
theorem keepL (ss : Nat → Int32) : ∀ (N : Nat) (x2 : Int32) (mas : Nat → Int32), 0 ≤ x2.toInt → x2.toInt ≤ 50 → ((50 : Int) - x2.toInt).toNat < N → (∀ k : Nat, (k : Int) < x2.toInt → mas k = ss k) → ∀ k : Nat, k < 50 → (l_X6_keep_2 ss N x2 mas).2 k = ss k := by
  intro N
  induction N with
  | zero => intro x2 mas _ _ h; exact absurd h (Nat.not_lt_zero _)
  | succ N ih =>
    intro x2 mas h0 h1 hm hq k hk
    rw [l_X6_keep_2]
    by_cases c : (50 : Int32) ≤ x2
    · rw [if_pos c]
      rw [i32_le, show (50 : Int32).toInt = 50 from rfl] at c
      exact hq k (by omega)
    · rw [if_neg c]
      have hs := cnt_step (B := 50) h0 (by decide) (by decide) c
      have e1 := i32_add1 (i := x2) (by omega)
      have ec := cl_nn h0
      refine ih _ _ hs.1 hs.2.1 (by omega) (fun j hj => ?_) k hk
      by_cases ej : j = x2.toNatClampNeg
      · rw [ej]; exact pk_us
      · rw [pk_un ej]; exact hq j (by omega)
theorem againL (mhd : Nat → Int32) : ∀ (N : Nat) (x2 : Int32) (ss : Nat → Int32), 0 ≤ x2.toInt → x2.toInt ≤ 50 → ((50 : Int) - x2.toInt).toNat < N → (∀ k : Nat, (k : Int) < x2.toInt → ss k = mhd k) → ∀ k : Nat, k < 50 → (l_X6_again_12 mhd N x2 ss).2 k = mhd k := by
  intro N
  induction N with
  | zero => intro x2 ss _ _ h; exact absurd h (Nat.not_lt_zero _)
  | succ N ih =>
    intro x2 ss h0 h1 hm hq k hk
    rw [l_X6_again_12]
    by_cases c : (50 : Int32) ≤ x2
    · rw [if_pos c]
      rw [i32_le, show (50 : Int32).toInt = 50 from rfl] at c
      exact hq k (by omega)
    · rw [if_neg c]
      have hs := cnt_step (B := 50) h0 (by decide) (by decide) c
      have e1 := i32_add1 (i := x2) (by omega)
      have ec := cl_nn h0
      refine ih _ _ hs.1 hs.2.1 (by omega) (fun j hj => ?_) k hk
      by_cases ej : j = x2.toNatClampNeg
      · rw [ej]; exact pk_us
      · rw [pk_un ej]; exact hq j (by omega)
section PU7
variable {lw kd bt ph cn no s : Nat → Int32} {ct sc rn lg dn zz : Int32}
theorem anewL : ∀ (N : Nat) (x1 : Int32) (no s : Nat → Int32), 0 ≤ x1.toInt → x1.toInt ≤ ct.toInt → (ct.toInt - x1.toInt).toNat < N → RT lw kd bt ph cn no ct sc rn lg dn zz s → (∀ k : Nat, (k : Int) < x1.toInt → no k = 0) → ∃ no' : Nat → Int32, RT lw kd bt ph cn no' ct sc rn lg dn zz (l_X6_anew_2 N x1 s).2 ∧ ∀ k : Nat, (k : Int) < ct.toInt → no' k = 0 := by
  intro N
  induction N with
  | zero => intro x1 no s _ _ h; exact absurd h (Nat.not_lt_zero _)
  | succ N ih =>
    intro x1 no s h0 h1 hm h hq
    rw [l_X6_anew_2, h.1.1]
    by_cases c : ct ≤ x1
    · rw [if_pos c]
      rw [i32_le] at c
      exact ⟨no, h, fun k hk => hq k (by omega)⟩
    · rw [if_neg c]
      have hs := cnt_step (B := 8) h0 h.2.2.1.2 (by decide) c
      have hlt : x1.toInt < ct.toInt := by have := mt i32_le.mpr c; omega
      have e1 := i32_add1 (i := x1) (by omega)
      have ec := cl_nn h0
      have ei := its_ix (o := x1) (w := 4) h0 hs.2.2.2 (by decide) (by decide)
      rw [show (4 : Int32).toNatClampNeg = 4 from rfl] at ei
      rw [ei]
      refine ih _ (upd no x1.toNatClampNeg 0) _ hs.1 (by omega) (by omega) (rt_no h (by rw [ec]; exact hlt) (by decide)) (fun k hk => ?_)
      by_cases e : k = x1.toNatClampNeg
      · rw [e]; exact pk_us
      · rw [pk_un e]; exact hq k (by omega)
theorem rt_run0 (h : RT lw kd bt ph cn no ct sc rn lg dn zz s) : RT lw kd bt ph cn no ct sc 0 0 0 zz (upd (upd (upd s 4 0) 5 0) 3 0) := by
  obtain ⟨⟨a0, a1, a2, a3, a4, a5⟩, ⟨a6, a7, a8, a9⟩, hc, hr, hd, hl, hk⟩ := h
  have q : ∀ k : Nat, k ≠ 3 → k ≠ 4 → k ≠ 5 → upd (upd (upd s 4 0) 5 0) 3 0 k = s k := fun k k3 k4 k5 => by rw [pk_un k3, pk_un k5, pk_un k4]
  refine ⟨⟨(q 0 (by decide) (by decide) (by decide)).trans a0, (q 1 (by decide) (by decide) (by decide)).trans a1, (q 2 (by decide) (by decide) (by decide)).trans a2, pk_us, ?_, ?_⟩, ⟨(q 6 (by decide) (by decide) (by decide)).trans a6, (q 7 (by decide) (by decide) (by decide)).trans a7, (q 8 (by decide) (by decide) (by decide)).trans a8, (q 9 (by decide) (by decide) (by decide)).trans a9⟩, hc, by decide, .inl rfl, hl, fun k hk2 => rp_of (hk k hk2) (fun w hw => q _ (by omega) (by omega) (by omega)) rfl rfl rfl rfl rfl⟩
  · rw [pk_un (by decide), pk_un (by decide), pk_us]
  · rw [pk_un (by decide), pk_us]
theorem rt_noE {no' : Nat → Int32} (h : RT lw kd bt ph cn no ct sc rn lg dn zz s) (e : ∀ k : Nat, (k : Int) < ct.toInt → no' k = no k) : RT lw kd bt ph cn no' ct sc rn lg dn zz s := rt_of h (fun _ _ => rfl) (fun k hk => rp_of (h.2.2.2.2.2.2 k hk) (fun _ _ => rfl) rfl rfl rfl rfl (e k hk))
theorem e_anew (h : RT lw kd bt ph cn no ct sc rn lg dn zz s) : (f_X5_anew no rn).1 = (f_X6_anew s).1 ∧ RT lw kd bt ph cn (f_X5_anew no rn).2.1 ct sc (f_X5_anew no rn).2.2.1 (f_X5_anew no rn).2.2.2.1 (f_X5_anew no rn).2.2.2.2 zz (f_X6_anew s).2 := by
  have hct := h.2.2.1
  have hf := forgetL 300 0 no (by decide) (by decide) (by decide) (fun k hk => by rw [z0I] at hk; omega)
  obtain ⟨no', hr, hz⟩ := anewL 300 0 no s (by decide) hct.1 (by rw [z0I]; omega) h (fun k hk => by rw [z0I] at hk; omega)
  unfold f_X5_anew f_X4_forget f_X6_anew f_X6_becomes
  generalize l_X4_forget_17 300 0 no = p at hf ⊢
  obtain ⟨p0, p1⟩ := p
  generalize l_X6_anew_2 300 0 s = q at hr ⊢
  obtain ⟨q0, q1⟩ := q
  have hf' : ∀ k : Nat, k < 8 → p1 k = 0 := hf
  have hr' : RT lw kd bt ph cn no' ct sc rn lg dn zz q1 := hr
  simp only [pr2_mk, pr4_mk, show (3 : Int32).toNatClampNeg = 3 from rfl]
  refine ⟨?_, rt_noE (rt_run0 hr') (fun k hk => by rw [hf' k (by omega), hz k hk])⟩
  rw [pk_un (by decide), pk_un (by decide)]
  exact hr'.1.2.2.2.1.symm
theorem e_keep {mhd lw' kd' bt' ph' cn' no' : Nat → Int32} (h : RT lw kd bt ph cn no ct sc rn lg dn zz s) : (f_X5_keep lw kd bt ph cn no ct sc rn lg dn zz lw' kd' bt' ph' cn' no').1 = (f_X6_keep s mhd).1 ∧ (f_X5_keep lw kd bt ph cn no ct sc rn lg dn zz lw' kd' bt' ph' cn' no').2.1 = 1 ∧ (f_X6_keep s mhd).2.2 = 1 ∧ RT12 (f_X5_keep lw kd bt ph cn no ct sc rn lg dn zz lw' kd' bt' ph' cn' no').2.2 (f_X6_keep s mhd).2.1 := by
  have hl := keepL s 300 0 mhd (by decide) (by decide) (by decide) (fun k hk => by rw [z0I] at hk; omega)
  unfold f_X5_keep f_X6_keep
  generalize l_X6_keep_2 s 300 0 mhd = q at hl ⊢
  obtain ⟨q0, q1⟩ := q
  rw [pr2_mk]
  exact ⟨rfl, rfl, rfl, rt_same (rt_cpy h) hl⟩
theorem e_again {mhd : Nat → Int32} {isv mih : Int32} {slw skd sbt sph scn sno : Nat → Int32} {sct ssc srn slg sdn szz : Int32} (h : RT lw kd bt ph cn no ct sc rn lg dn zz s) (hi : isv = mih) (h2 : ¬ isv = 0 → RT slw skd sbt sph scn sno sct ssc srn slg sdn szz mhd) : (f_X5_again isv lw kd bt ph cn no ct sc rn lg dn zz slw skd sbt sph scn sno sct ssc srn slg sdn szz).1 = (f_X6_again s mhd mih).1 ∧ RT12 (f_X5_again isv lw kd bt ph cn no ct sc rn lg dn zz slw skd sbt sph scn sno sct ssc srn slg sdn szz).2 (f_X6_again s mhd mih).2 := by
  have hl := againL mhd 300 0 s (by decide) (by decide) (by decide) (fun k hk => by rw [z0I] at hk; omega)
  unfold f_X5_again f_X6_again
  rw [hi]
  by_cases c : mih = 0
  · rw [if_pos c, if_pos c]; exact ⟨rfl, h⟩
  · rw [if_neg c, if_neg c]
    have h3 := h2 (by rw [hi]; exact c)
    generalize l_X6_again_12 mhd 300 0 s = q at hl ⊢
    obtain ⟨q0, q1⟩ := q
    rw [pr2_mk]
    have h4 : RT slw skd sbt sph scn sno sct ssc srn slg sdn szz q1 := rt_same h3 hl
    exact ⟨h4.1.1.symm, rt_cpy h4⟩
end PU7
theorem listens47 {ss : Nat → Int32} {x3 : Int32} : ∀ (N : Nat) (x4 : Int32) (mld : Nat → Int32), 0 ≤ x4.toInt → x4.toInt ≤ 12 → ((12 : Int) - x4.toInt).toNat < N → ∀ y : Int32, 0 ≤ y.toInt → y.toInt < 12 → (l_X6_listens_47 ss x3 N x4 mld).2 y.toNatClampNeg = if y.toInt < x4.toInt then mld y.toNatClampNeg else mld y.toNatClampNeg + (if f_X6_heardOf ss x3 y = 0 then (0 : Int32) else (1 : Int32)) := by
  intro N
  induction N with
  | zero => intro x4 mld _ _ h; exact absurd h (Nat.not_lt_zero _)
  | succ N ih =>
    intro x4 mld h0 h1 hm y y0 y1
    rw [l_X6_listens_47]
    by_cases c : (12 : Int32) ≤ x4
    · rw [if_pos c]
      rw [i32_le, show (12 : Int32).toInt = 12 from rfl] at c
      rw [if_pos (by omega)]
    · rw [if_neg c, pr1_mk]
      have hs := cnt_step (B := 12) h0 (by decide) (by decide) c
      have e1 := i32_add1 (i := x4) (by omega)
      have ec := cl_nn h0
      have ey := cl_nn y0
      rw [ih _ _ hs.1 hs.2.1 (by omega) y y0 y1, e1]
      by_cases e : y = x4
      · subst e
        rw [if_pos (show y.toInt < y.toInt + 1 by omega), if_neg (show ¬ y.toInt < y.toInt by omega), pk_us]
      · have e' : ¬ y.toInt = x4.toInt := fun q => e (i32_eq.mpr q)
        rw [pk_un (by omega)]
        by_cases d : y.toInt < x4.toInt
        · rw [if_pos d, if_pos (by omega)]
        · rw [if_neg d, if_neg (by omega)]
section PU8
variable {lw kd bt ph cn : Nat → Int32} {ct zz : Int32}
theorem rt_hearL {x1 x2 : Int32} (hx : 0 ≤ x1.toInt ∧ x1.toInt ≤ 11) : ∀ (N : Nat) (x3 x4 : Int32) (no : Nat → Int32) (sc rn lg dn : Int32) (s mld : Nat → Int32), RT lw kd bt ph cn no ct sc rn lg dn zz s → mld x1.toNatClampNeg = x3 → (l_X5_secondsHeard_16 lw kd bt ph cn ct x1 x2 N x3 x4 sc rn lg dn).1 = (l_X6_listens_34 x2 N x4 s mld).2.2 x1.toNatClampNeg := by
  intro N
  induction N with
  | zero => intro x3 x4 no sc rn lg dn s mld _ hm; rw [l_X5_secondsHeard_16, l_X6_listens_34]; exact hm.symm
  | succ N ih =>
    intro x3 x4 no sc rn lg dn s mld h hm
    rw [l_X5_secondsHeard_16, l_X6_listens_34]
    by_cases c : x2 ≤ x4
    · rw [if_pos c, if_pos c]; exact hm.symm
    · rw [if_neg c, if_neg c, rt_sounding h]
      have hp := rt_goesBy (f_X4_soundingSet lw kd bt ph ct sc rn) h
      have h47 := listens47 (ss := s) (x3 := f_X4_soundingSet lw kd bt ph ct sc rn) 300 0 mld (by decide) (by decide) (by decide) x1 hx.1 (by omega)
      rw [if_neg (by rw [z0I]; omega), rt_heard h hx, hm] at h47
      generalize l_X6_listens_47 s (f_X4_soundingSet lw kd bt ph ct sc rn) 300 0 mld = p at h47 ⊢
      obtain ⟨p0, p1⟩ := p
      generalize f_X4_endSecond lw sc rn lg dn (f_X4_soundingSet lw kd bt ph ct sc rn) = q at hp ⊢
      obtain ⟨q0, q1, q2, q3⟩ := q
      rw [pr2_mk, pr1_mk, pr1_mk, pr4_mk]
      refine ih _ _ _ _ _ _ _ _ _ hp ?_
      have h47' : p1 x1.toNatClampNeg = x3 + (if f_X4_heardOf lw kd ph cn ct (f_X4_soundingSet lw kd bt ph ct sc rn) x1 = 0 then (0 : Int32) else (1 : Int32)) := h47
      rw [h47']
      by_cases d : f_X4_heardOf lw kd ph cn ct (f_X4_soundingSet lw kd bt ph ct sc rn) x1 = 0
      · rw [if_pos d, if_pos d, Int32.add_zero]
      · rw [if_neg d, if_neg d]
theorem hearB {x1 x2 : Int32} (h2 : x2.toInt ≤ 60) : ∀ (N : Nat) (x3 x4 sc rn lg dn : Int32), x3.toInt ≤ x4.toInt → 0 ≤ x4.toInt → x4.toInt ≤ 60 → (l_X5_secondsHeard_16 lw kd bt ph cn ct x1 x2 N x3 x4 sc rn lg dn).1.toInt ≤ 60 := by
  intro N
  induction N with
  | zero => intro x3 x4 sc rn lg dn h _ h4; rw [l_X5_secondsHeard_16]; show x3.toInt ≤ 60; omega
  | succ N ih =>
    intro x3 x4 sc rn lg dn h h0 h4
    rw [l_X5_secondsHeard_16]
    by_cases c : x2 ≤ x4
    · rw [if_pos c]; show x3.toInt ≤ 60; omega
    · rw [if_neg c]
      have hs := cnt_step (B := 60) h0 h2 (by decide) c
      have e1 := i32_add1 (i := x4) (by omega)
      have e3 := i32_add1 (i := x3) (by omega)
      generalize f_X4_endSecond lw sc rn lg dn (f_X4_soundingSet lw kd bt ph ct sc rn) = q
      obtain ⟨q0, q1, q2, q3⟩ := q
      rw [pr1_mk, pr4_mk]
      refine ih _ _ _ _ _ _ ?_ hs.1 hs.2.1
      by_cases d : f_X4_heardOf lw kd ph cn ct (f_X4_soundingSet lw kd bt ph ct sc rn) x1 = 0
      · rw [if_pos d]; omega
      · rw [if_neg d]; omega
theorem heard_le {no : Nat → Int32} {sc rn lg dn x1 x2 : Int32} {tlw tkd tbt tph tcn tno : Nat → Int32} (h2 : x2.toInt ≤ 60) : (f_X5_secondsHeard lw kd bt ph cn no ct sc rn lg dn zz tlw tkd tbt tph tcn tno x1 x2).1.toInt ≤ 60 := by
  unfold f_X5_secondsHeard
  have hb := hearB (lw := va_cpy lw tlw 0 0 4) (kd := va_cpy kd tkd 0 0 8) (bt := va_cpy bt tbt 0 0 8) (ph := va_cpy ph tph 0 0 8) (cn := va_cpy cn tcn 0 0 8) (ct := ct) (x1 := x1) h2 300 0 0 sc rn lg dn (by decide) (by decide) (by decide)
  generalize l_X5_secondsHeard_16 (va_cpy lw tlw 0 0 4) (va_cpy kd tkd 0 0 8) (va_cpy bt tbt 0 0 8) (va_cpy ph tph 0 0 8) (va_cpy cn tcn 0 0 8) ct x1 x2 300 0 0 sc rn lg dn = p at hb ⊢
  obtain ⟨p0, p1, p2, p3, p4, p5⟩ := p
  rw [pr6_mk]
  exact hb
theorem listens_at {no s mas mld : Nat → Int32} {sc rn lg dn x2 : Int32} (h : RT lw kd bt ph cn no ct sc rn lg dn zz s) : (∀ (y : Int32) (tlw tkd tbt tph tcn tno : Nat → Int32), 0 ≤ y.toInt → y.toInt ≤ 11 → (f_X5_secondsHeard lw kd bt ph cn no ct sc rn lg dn zz tlw tkd tbt tph tcn tno y x2).1 = (f_X6_listens s mas mld x2).2.2 y.toNatClampNeg) ∧ ∀ k, k < 50 → (f_X6_listens s mas mld x2).1 k = s k := by
  have h13 := listens13 300 0 mld (by decide) (by decide) (by decide) (fun k hk => by rw [z0I] at hk; omega)
  unfold f_X6_listens
  generalize l_X6_listens_13 300 0 mld = p at h13 ⊢
  obtain ⟨p0, p1⟩ := p
  rw [pr1_mk, pr2_mk]
  have hL : ∀ (y : Int32) (tlw tkd tbt tph tcn tno : Nat → Int32), 0 ≤ y.toInt → y.toInt ≤ 11 → (f_X5_secondsHeard lw kd bt ph cn no ct sc rn lg dn zz tlw tkd tbt tph tcn tno y x2).1 = (l_X6_listens_34 x2 300 0 s p1).2.2 y.toNatClampNeg := fun y tlw tkd tbt tph tcn tno y0 y1 => by
    have ey := cl_nn y0
    have hp := rt_hearL (x2 := x2) ⟨y0, y1⟩ 300 0 0 _ sc rn lg dn s p1 (rt_cpy (lw' := tlw) (kd' := tkd) (bt' := tbt) (ph' := tph) (cn' := tcn) (no' := tno) h) (h13 _ (by omega))
    unfold f_X5_secondsHeard
    generalize l_X5_secondsHeard_16 (va_cpy lw tlw 0 0 4) (va_cpy kd tkd 0 0 8) (va_cpy bt tbt 0 0 8) (va_cpy ph tph 0 0 8) (va_cpy cn tcn 0 0 8) ct y x2 300 0 0 sc rn lg dn = q at hp ⊢
    obtain ⟨q0, q1, q2, q3, q4, q5⟩ := q
    rw [pr6_mk]
    exact hp
  generalize l_X6_listens_34 x2 300 0 s p1 = r at hL ⊢
  obtain ⟨r0, r1, r2⟩ := r
  rw [pr3_mk, pr1_mk]
  exact ⟨hL, back_s _⟩
theorem e_heard {no s mas mld : Nat → Int32} {sc rn lg dn : Int32} {tlw tkd tbt tph tcn tno : Nat → Int32} {tct tsc trn tlg tdn tzz : Int32} (h : RT lw kd bt ph cn no ct sc rn lg dn zz s) (x1 x2 : Int32) : (f_X5_heard lw kd bt ph cn no ct sc rn lg dn zz tlw tkd tbt tph tcn tno tct tsc trn tlg tdn tzz x1 x2).1 = (f_X6_heard s mas mld x1 x2).1 ∧ ∀ k, k < 50 → (f_X6_heard s mas mld x1 x2).2.1 k = s k := by
  unfold f_X5_heard f_X6_heard f_X6_isLong
  rw [crn_eq, isin_eq (x := x2) (l := 1) (h := 60) rfl rfl]
  by_cases c1 : f_X5_isCorner x1 = 0
  · rw [if_pos c1, if_pos c1]; exact ⟨rfl, fun _ _ => rfl⟩
  · rw [if_neg c1, if_neg c1]
    by_cases c2 : f_X5_isIn x2 1 60 = 0
    · rw [if_pos c2, if_pos c2]; exact ⟨rfl, fun _ _ => rfl⟩
    · rw [if_neg c2, if_neg c2]
      have hc := crn_rng c1
      obtain ⟨hl, hk⟩ := listens_at (mas := mas) (mld := mld) (x2 := x2) h
      have hp := hl x1 tlw tkd tbt tph tcn tno hc.1 hc.2
      generalize f_X5_secondsHeard lw kd bt ph cn no ct sc rn lg dn zz tlw tkd tbt tph tcn tno x1 x2 = p at hp ⊢
      obtain ⟨p0, p1, p2, p3, p4, p5, p6, p7, p8, p9, p10, p11, p12⟩ := p
      generalize f_X6_listens s mas mld x2 = q at hp hk ⊢
      obtain ⟨q0, q1, q2⟩ := q
      rw [pr13_mk, pr3_mk]
      exact ⟨hp, hk⟩
theorem e_calmL {no mld : Nat → Int32} {sc rn lg dn x1 : Int32} (hg : ∀ (y : Int32) (tlw tkd tbt tph tcn tno : Nat → Int32), 0 ≤ y.toInt → y.toInt ≤ 11 → (f_X5_secondsHeard lw kd bt ph cn no ct sc rn lg dn zz tlw tkd tbt tph tcn tno y x1).1 = mld y.toNatClampNeg) : ∀ (n N M : Nat) (x2 x3 x4 : Int32) (tlw tkd tbt tph tcn tno : Nat → Int32) (tct tsc trn tlg tdn tzz : Int32), 0 ≤ x4.toInt → x4.toInt + n = 12 → n < N → n < M → x2 = mld x3.toNatClampNeg → (l_X5_calm_20 lw kd bt ph cn no ct sc rn lg dn zz x1 N x2 x3 x4 tlw tkd tbt tph tcn tno tct tsc trn tlg tdn tzz).2.1 = (l_X6_calm_18 mld M x3 x4).1 := by
  intro n
  induction n with
  | zero =>
    intro N M x2 x3 x4 tlw tkd tbt tph tcn tno tct tsc trn tlg tdn tzz h0 h1 hN hM hx
    obtain ⟨N', rfl⟩ : ∃ M, N = M + 1 := ⟨N - 1, by omega⟩
    obtain ⟨M', rfl⟩ : ∃ N, M = N + 1 := ⟨M - 1, by omega⟩
    have c : (12 : Int32) ≤ x4 := by rw [i32_le, z12I]; omega
    rw [l_X5_calm_20, l_X6_calm_18, if_pos c, if_pos c]
  | succ n ih =>
    intro N M x2 x3 x4 tlw tkd tbt tph tcn tno tct tsc trn tlg tdn tzz h0 h1 hN hM hx
    obtain ⟨N', rfl⟩ : ∃ M, N = M + 1 := ⟨N - 1, by omega⟩
    obtain ⟨M', rfl⟩ : ∃ N, M = N + 1 := ⟨M - 1, by omega⟩
    have c : ¬ (12 : Int32) ≤ x4 := by rw [i32_le, z12I]; omega
    have ea := i32_add1 (i := x4) (by omega)
    rw [l_X5_calm_20, l_X6_calm_18, if_neg c, if_neg c]
    have hp := hg x4 tlw tkd tbt tph tcn tno h0 (by omega)
    generalize f_X5_secondsHeard lw kd bt ph cn no ct sc rn lg dn zz tlw tkd tbt tph tcn tno x4 x1 = p at hp ⊢
    obtain ⟨p0, p1, p2, p3, p4, p5, p6, p7, p8, p9, p10, p11, p12⟩ := p
    have e0 : p0 = mld x4.toNatClampNeg := hp
    rw [pr13_mk, e0, hx]
    by_cases c2 : mld x3.toNatClampNeg ≤ mld x4.toNatClampNeg
    · rw [if_pos c2, if_pos c2, pr2_mk, pr1_mk]
      exact ih _ _ _ _ _ _ _ _ _ _ _ _ _ _ _ _ _ (by omega) (by omega) (by omega) (by omega) rfl
    · rw [if_neg c2, if_neg c2, pr2_mk, pr1_mk]
      exact ih _ _ _ _ _ _ _ _ _ _ _ _ _ _ _ _ _ (by omega) (by omega) (by omega) (by omega) rfl
theorem e_calm {no s mas mld : Nat → Int32} {sc rn lg dn : Int32} {tlw tkd tbt tph tcn tno : Nat → Int32} {tct tsc trn tlg tdn tzz : Int32} (h : RT lw kd bt ph cn no ct sc rn lg dn zz s) (x1 : Int32) : (f_X5_calm lw kd bt ph cn no ct sc rn lg dn zz tlw tkd tbt tph tcn tno tct tsc trn tlg tdn tzz x1).1 = (f_X6_calm s mas mld x1).1 ∧ ∀ k, k < 50 → (f_X6_calm s mas mld x1).2.1 k = s k := by
  unfold f_X5_calm f_X6_calm f_X6_isLong
  rw [isin_eq (x := x1) (l := 1) (h := 60) rfl rfl]
  by_cases c1 : f_X5_isIn x1 1 60 = 0
  · rw [if_pos c1, if_pos c1]; exact ⟨rfl, fun _ _ => rfl⟩
  · rw [if_neg c1, if_neg c1]
    obtain ⟨hl, hk⟩ := listens_at (mas := mas) (mld := mld) (x2 := x1) h
    have hx : x1.toInt ≤ 60 := (in_isIn c1).2
    generalize f_X6_listens s mas mld x1 = q at hl hk ⊢
    obtain ⟨q0, q1, q2⟩ := q
    have hg : ∀ (y : Int32) (tlw tkd tbt tph tcn tno : Nat → Int32), 0 ≤ y.toInt → y.toInt ≤ 11 → (f_X5_secondsHeard lw kd bt ph cn no ct sc rn lg dn zz tlw tkd tbt tph tcn tno y x1).1 = q2 y.toNatClampNeg := hl
    have hp := hg 0 tlw tkd tbt tph tcn tno (by decide) (by decide)
    have hb := heard_le (lw := lw) (kd := kd) (bt := bt) (ph := ph) (cn := cn) (ct := ct) (zz := zz) (no := no) (sc := sc) (rn := rn) (lg := lg) (dn := dn) (x1 := 0) (tlw := tlw) (tkd := tkd) (tbt := tbt) (tph := tph) (tcn := tcn) (tno := tno) hx
    have e1 : ∀ N : Nat, l_X5_calm_20 lw kd bt ph cn no ct sc rn lg dn zz x1 (N + 1) 61 0 0 tlw tkd tbt tph tcn tno tct tsc trn tlg tdn tzz = pr13 (f_X5_secondsHeard lw kd bt ph cn no ct sc rn lg dn zz tlw tkd tbt tph tcn tno 0 x1) (fun r5 tlw_5 tkd_5 tbt_5 tph_5 tcn_5 tno_5 tct_5 tsc_5 trn_5 tlg_5 tdn_5 tzz_5 => pr2 (if ((61 : Int32) ≤ r5) then ((61 : Int32), (0 : Int32)) else (r5, (0 : Int32))) (fun j39_0 j39_1 => l_X5_calm_20 lw kd bt ph cn no ct sc rn lg dn zz x1 N j39_0 j39_1 ((0 : Int32) + 1) tlw_5 tkd_5 tbt_5 tph_5 tcn_5 tno_5 tct_5 tsc_5 trn_5 tlg_5 tdn_5 tzz_5)) := fun N => by
      rw [l_X5_calm_20, if_neg (by decide)]
    have e2 := e1 299
    rw [show (299 + 1 : Nat) = 300 from rfl] at e2
    rw [e2, pr3_mk]
    generalize f_X5_secondsHeard lw kd bt ph cn no ct sc rn lg dn zz tlw tkd tbt tph tcn tno 0 x1 = p at hp hb ⊢
    obtain ⟨p0, p1, p2, p3, p4, p5, p6, p7, p8, p9, p10, p11, p12⟩ := p
    have hp0 : p0 = q2 (0 : Int32).toNatClampNeg := hp
    have hb0 : p0.toInt ≤ 60 := hb
    rw [pr13_mk, if_neg (by rw [i32_le, show (61 : Int32).toInt = 61 from rfl]; omega), pr2_mk]
    have hc := e_calmL hg 11 299 300 p0 0 (0 + 1) p1 p2 p3 p4 p5 p6 p7 p8 p9 p10 p11 p12 (by decide) (by decide) (by decide) (by decide) hp0
    rw [show (0 : Int32) + 1 = 1 from rfl] at hc ⊢
    generalize l_X5_calm_20 lw kd bt ph cn no ct sc rn lg dn zz x1 299 p0 0 1 p1 p2 p3 p4 p5 p6 p7 p8 p9 p10 p11 p12 = r at hc ⊢
    obtain ⟨r0, r1, r2, r3, r4, r5, r6, r7, r8, r9, r10, r11, r12, r13, r14⟩ := r
    generalize l_X6_calm_18 q2 300 0 1 = t at hc ⊢
    obtain ⟨t0, t1⟩ := t
    rw [pr15_mk, pr2_mk]
    exact ⟨hc, hk⟩
end PU8
/-! whom to send away -/
theorem len_mono {x1 x2 : Int32} : ∀ (N : Nat) (x3 x4 : Int32) (s : Nat → Int32), x3.toInt ≤ (l_X6_lengthBy_16 x1 x2 N x3 x4 s).1.toInt := by
  intro N
  induction N with
  | zero => intro x3 x4 s; rw [l_X6_lengthBy_16]; exact Int.le_refl _
  | succ N ih =>
    intro x3 x4 s
    rw [l_X6_lengthBy_16]
    by_cases c : x1 ≤ x4
    · rw [if_pos c]; exact Int.le_refl _
    · rw [if_neg c, pr1_mk]
      refine Int.le_trans ?_ (ih _ _ _)
      rw [grt_eq]
      by_cases d : x3 < f_X6_goes s 1 x2 3
      · rw [if_pos d]; rw [i32_lt] at d; omega
      · rw [if_neg d]; exact Int.le_refl _
section PU9
variable {lw kd bt ph cn : Nat → Int32} {ct zz : Int32}
theorem end_run {sc rn lg dn x : Int32} (hr : 0 ≤ rn.toInt ∧ rn.toInt ≤ 9999) : 0 ≤ (f_X4_endSecond lw sc rn lg dn x).2.1.toInt ∧ (f_X4_endSecond lw sc rn lg dn x).2.1.toInt ≤ rn.toInt + 1 := by
  unfold f_X4_endSecond
  simp only [pr1]
  have e := i32_add1 (i := rn) (by omega)
  by_cases c : x = 0
  · rw [if_pos c]
    by_cases d : rn + 1 < (9999 : Int32)
    · rw [if_pos d]; omega
    · rw [if_neg d]
      rw [i32_lt, z9I] at d
      rw [z9I]
      omega
  · rw [if_neg c, z0I]; omega
theorem len_lt {x1 x2 : Int32} {V : Int} : ∀ (N : Nat) (x3 x4 : Int32) (no : Nat → Int32) (sc rn lg dn : Int32) (s : Nat → Int32), RT lw kd bt ph cn no ct sc rn lg dn zz s → 0 ≤ x4.toInt → x4.toInt ≤ x1.toInt → x1.toInt ≤ 60 → x3.toInt < V → rn.toInt + (x1.toInt - x4.toInt) < V → (l_X6_lengthBy_16 x1 x2 N x3 x4 s).1.toInt < V := by
  intro N
  induction N with
  | zero => intro x3 x4 no sc rn lg dn s _ _ _ _ h _; rw [l_X6_lengthBy_16]; exact h
  | succ N ih =>
    intro x3 x4 no sc rn lg dn s h h0 h1 h60 h3 hv
    rw [l_X6_lengthBy_16]
    by_cases c : x1 ≤ x4
    · rw [if_pos c]; exact h3
    · rw [if_neg c, pr1_mk, goes1]
      have hc := mt i32_le.mpr c
      have e1 := i32_add1 (i := x4) (by omega)
      have hp := rt_goesBy (f_X6_sounding s &&& (x2 ^^^ (-1))) h
      have hb := end_run (lw := lw) (sc := sc) (lg := lg) (dn := dn) (x := f_X6_sounding s &&& (x2 ^^^ (-1))) h.2.2.2.1
      generalize f_X4_endSecond lw sc rn lg dn (f_X6_sounding s &&& (x2 ^^^ (-1))) = p at hp hb
      obtain ⟨p0, p1, p2, p3⟩ := p
      have hb' : 0 ≤ p1.toInt ∧ p1.toInt ≤ rn.toInt + 1 := hb
      have e3 : f_X6_goesBy s (f_X6_sounding s &&& (x2 ^^^ (-1))) 3 = p1 := hp.1.2.2.2.1
      refine ih _ _ _ _ _ _ _ _ hp (by omega) (by omega) h60 ?_ (show p1.toInt + (x1.toInt - (x4 + 1).toInt) < V by omega)
      rw [e3, grt_eq]
      by_cases d : x3 < p1
      · rw [if_pos d]; omega
      · rw [if_neg d]; exact h3
theorem quietL {tz x1 x2 x3 : Int32} {tcn tno : Nat → Int32} (hv : 0 ≤ x3.toInt) (g : Int32 × Int32 × Int32 × Int32 × Int32 → T13) (hg : ∀ z, (g z).1 = 0) : ∀ (N : Nat) (x4 m k : Int32) (no : Nat → Int32) (sc rn lg dn : Int32) (s : Nat → Int32), RT lw kd bt ph cn no ct sc rn lg dn zz s → 0 ≤ k.toInt → 0 ≤ x4.toInt → x4.toInt + k.toInt = x2.toInt → x2.toInt ≤ 60 → m.toInt < x3.toInt ∨ k.toInt = 0 ∧ m.toInt = 0 ∧ 0 < x4.toInt → x4.toInt.toNat < N → (sm (l_X5_isQuietWithout_14 lw kd bt ph tcn tno ct tz x1 x3 N x4 sc rn lg dn) g (fun X => X)).1 = if (l_X6_lengthBy_16 x2 x1 N m k s).1 < x3 then (0 : Int32) else (1 : Int32) := by
  intro N
  induction N with
  | zero => intro x4 m k no sc rn lg dn s _ _ _ _ _ _ h; exact absurd h (Nat.not_lt_zero _)
  | succ N ih =>
    intro x4 m k no sc rn lg dn s h k0 h0 hk h60 hm hN
    have hr := h.2.2.2.1
    by_cases c : x4 ≤ 0
    · have c' := i32_le.mp c
      rw [z0I] at c'
      have ck : x2 ≤ k := i32_le.mpr (by omega)
      rw [l_X5_isQuietWithout_14, if_pos c, l_X6_lengthBy_16, if_pos ck, if_pos (show m < x3 by rw [i32_lt]; omega)]
      exact hg _
    · have c' : 0 < x4.toInt := by have := mt i32_le.mpr c; rw [z0I] at this; omega
      have e1 := i32_addE (a := rn) (b := x4) (by omega) (by omega)
      by_cases d : rn + x4 < x3
      · have d' := i32_lt.mp d
        rw [l_X5_isQuietWithout_14, if_neg c, if_pos d, if_pos (i32_lt.mpr (len_lt (x1 := x2) (x2 := x1) (V := x3.toInt) (N + 1) m k no sc rn lg dn s h k0 (by omega) h60 (by omega) (by omega)))]
        exact hg _
      · have ck : ¬ x2 ≤ k := fun q => by have := i32_le.mp q; omega
        have e2 := dn_step c
        have e3 := i32_add1 (i := k) (by omega)
        rw [l_X5_isQuietWithout_14, if_neg c, if_neg d, l_X6_lengthBy_16, if_neg ck, pr1_mk, goes1, rt_sounding h]
        have hp := rt_goesBy (f_X4_soundingSet lw kd bt ph ct sc rn &&& (x1 ^^^ (-1))) h
        have hb := end_run (lw := lw) (sc := sc) (lg := lg) (dn := dn) (x := f_X4_soundingSet lw kd bt ph ct sc rn &&& (x1 ^^^ (-1))) hr
        generalize f_X4_endSecond lw sc rn lg dn (f_X4_soundingSet lw kd bt ph ct sc rn &&& (x1 ^^^ (-1))) = p at hp hb ⊢
        obtain ⟨p0, p1, p2, p3⟩ := p
        have hb' : 0 ≤ p1.toInt ∧ p1.toInt ≤ rn.toInt + 1 := hb
        have e4 : f_X6_goesBy s (f_X4_soundingSet lw kd bt ph ct sc rn &&& (x1 ^^^ (-1))) 3 = p1 := hp.1.2.2.2.1
        rw [pr4_mk, e4, grt_eq]
        by_cases f : p1 < x3
        · have f' := i32_lt.mp f
          rw [if_pos f]
          refine ih _ _ _ _ _ _ _ _ _ hp (by omega) e2.1 (by omega) h60 (.inl ?_) (by omega)
          by_cases q : m < p1
          · rw [if_pos q]; exact f'
          · rw [if_neg q]
            rw [i32_lt] at q
            rcases hm with hm | hm
            · exact hm
            · omega
        · rw [if_neg f, sm_inr]
          have f' : x3.toInt ≤ p1.toInt := by rw [i32_lt] at f; omega
          have hmo := len_mono (x1 := x2) (x2 := x1) N (if m < p1 then p1 else m) (k + 1) (f_X6_goesBy s (f_X4_soundingSet lw kd bt ph ct sc rn &&& (x1 ^^^ (-1))))
          have hq : p1.toInt ≤ (if m < p1 then p1 else m).toInt := by
            by_cases q : m < p1
            · rw [if_pos q]; exact Int.le_refl _
            · rw [if_neg q]; rw [i32_lt] at q; omega
          rw [if_neg (fun q => by have := i32_lt.mp q; omega)]
theorem rt_quiet {no s mas : Nat → Int32} {sc rn lg dn x1 x2 x3 : Int32} {tlw tkd tbt tph tcn tno : Nat → Int32} (h : RT lw kd bt ph cn no ct sc rn lg dn zz s) (h2 : 1 ≤ x2.toInt ∧ x2.toInt ≤ 60) (h3 : 0 ≤ x3.toInt) : (f_X5_isQuietWithout lw kd bt ph cn no ct sc rn lg dn zz tlw tkd tbt tph tcn tno x1 x2 x3).1 = if (f_X6_lengthBy s mas x2 x1).1 < x3 then (0 : Int32) else (1 : Int32) := by
  have hl : (f_X6_lengthBy s mas x2 x1).1 = (l_X6_lengthBy_16 x2 x1 300 0 0 s).1 := by
    unfold f_X6_lengthBy
    generalize l_X6_lengthBy_16 x2 x1 300 0 0 s = q
    obtain ⟨q0, q1, q2⟩ := q
    rw [pr1_mk, pr3_mk, pr1_mk]
  rw [hl]
  unfold f_X5_isQuietWithout
  exact quietL h3 _ (fun z => by obtain ⟨z0, z1, z2, z3, z4⟩ := z; rw [pr5_mk]) 300 x2 0 0 _ sc rn lg dn s (rt_cpy (lw' := tlw) (kd' := tkd) (bt' := tbt) (ph' := tph) (cn' := tcn) (no' := tno) h) (by decide) (by omega) (by rw [z0I]; omega) h2.2 (.inr ⟨rfl, rfl, by omega⟩) (by omega)
end PU9
/-- the set of fewest, and of these the least -/
def awP (q : Int32 → Int32) (B : Int) (r : Int32) : Prop := (r = -3 ∧ ∀ a : Int32, 0 ≤ a.toInt → a.toInt < B → q a = 0) ∨ (0 ≤ r.toInt ∧ r.toInt < B ∧ ¬ q r = 0 ∧ ∀ a : Int32, 0 ≤ a.toInt → a.toInt < B → ¬ q a = 0 → (f_X6_size r).toInt < (f_X6_size a).toInt ∨ ((f_X6_size r).toInt = (f_X6_size a).toInt ∧ r.toInt ≤ a.toInt))
theorem awP_uniq {q : Int32 → Int32} {B : Int} {r t : Int32} (h1 : awP q B r) (h2 : awP q B t) : r = t := by
  rcases h1 with ⟨e1, n1⟩ | ⟨a1, b1, c1, d1⟩
  · rcases h2 with ⟨e2, _⟩ | ⟨a2, b2, c2, _⟩
    · rw [e1, e2]
    · exact absurd (n1 t a2 b2) c2
  · rcases h2 with ⟨_, n2⟩ | ⟨a2, b2, c2, d2⟩
    · exact absurd (n2 r a1 b1) c1
    · have p1 := d1 t a2 b2 c2
      have p2 := d2 r a1 b1 c1
      exact i32_eq.mpr (by omega)
theorem m3n : (-3 : Int32) < 0 := by decide
theorem b256 : ∀ n : Fin 256, (Int32.ofNat n.val).toBitVec.toNat < 256 := by decide +kernel
theorem bS_rng {x : Int32} (h0 : 0 ≤ x.toInt) (h : x.toInt < 256) : bS x := by
  obtain ⟨n, e, _⟩ := ofI (x := x) (B := 256) h0 h
  rw [e]
  exact b256 n
theorem bit_tab : ∀ c : Fin 9, ∀ n : Fin (2 ^ c.val), (f_J6_bitCount_0f7a4 (Int32.ofNat n.val)).toInt ≤ (c.val : Int) := by decide +kernel
theorem shl_val : ∀ c : Fin 9, ((1 : Int32) <<< (Int32.ofNat c.val &&& 31)).toInt = ((2 ^ c.val : Nat) : Int) := by decide +kernel
theorem bit_le {c x : Int32} (h0 : 0 ≤ c.toInt) (h : c.toInt ≤ 8) (x0 : 0 ≤ x.toInt) (hx : x.toInt < ((1 : Int32) <<< (c &&& 31)).toInt) : (f_J6_bitCount_0f7a4 x).toInt ≤ c.toInt := by
  obtain ⟨m, e1, q1⟩ := ofI (x := c) (B := 9) h0 (by omega)
  have hv := shl_val m
  rw [← e1] at hv
  rw [hv] at hx
  obtain ⟨n, e2, _⟩ := ofI (x := x) (B := 2 ^ m.val) x0 hx
  have t := bit_tab m n
  rw [← e2, q1] at t
  exact t
section PU10
variable {s : Nat → Int32} {q : Int32 → Int32} {ct n v : Int32}
theorem awM (h0 : s 0 = ct) (hS : ((1 : Int32) <<< (ct &&& 31)).toInt ≤ 256) (hq : ∀ (t mas : Nat → Int32) (a : Int32), (∀ k, k < 50 → t k = s k) → ((f_X6_lengthBy t mas n a).1 < v ↔ q a = 0)) : ∀ (N : Nat) (x3 x4 : Int32) (ss mas : Nat → Int32), 0 ≤ x4.toInt → x4.toInt ≤ ((1 : Int32) <<< (ct &&& 31)).toInt → (((1 : Int32) <<< (ct &&& 31)).toInt - x4.toInt).toNat < N → (∀ k, k < 50 → ss k = s k) → awP q x4.toInt x3 → awP q ((1 : Int32) <<< (ct &&& 31)).toInt (l_X6_awayFor_27 n v N x3 x4 ss mas).1 ∧ ∀ k, k < 50 → (l_X6_awayFor_27 n v N x3 x4 ss mas).2.2.1 k = s k := by
  generalize hSe : (1 : Int32) <<< (ct &&& 31) = S at hS
  intro N
  induction N with
  | zero => intro x3 x4 ss mas _ _ h; exact absurd h (Nat.not_lt_zero _)
  | succ N ih =>
    intro x3 x4 ss mas x0 x1 hN hs hp
    rw [l_X6_awayFor_27, hs 0 (by decide), h0, hSe]
    by_cases c : S ≤ x4
    · rw [if_pos c]
      have e : x4.toInt = S.toInt := by have := i32_le.mp c; omega
      rw [e] at hp
      exact ⟨hp, hs⟩
    · rw [if_neg c]
      have c' : x4.toInt < S.toInt := by have := mt i32_le.mpr c; omega
      have e1 := i32_add1 (i := x4) (by omega)
      have hl := hq ss mas x4 hs
      have hk := len_keep (s := ss) (mas := mas) (x1 := n) (x2 := x4)
      generalize f_X6_lengthBy ss mas n x4 = p at hl hk ⊢
      obtain ⟨p0, p1, p2⟩ := p
      have hl' : p0 < v ↔ q x4 = 0 := hl
      have hk' : ∀ k, k < 50 → p1 k = s k := fun k h => (hk k h).trans (hs k h)
      have split : ∀ a : Int32, 0 ≤ a.toInt → a.toInt < (x4 + 1).toInt → a.toInt < x4.toInt ∨ a = x4 := fun a _ h => by
        by_cases g : a.toInt < x4.toInt
        · exact .inl g
        · exact .inr (i32_eq.mpr (by omega))
      by_cases c3 : x3 < 0
      · rw [if_pos c3, pr3_mk p0 p1 p2]
        have hz : x3 = -3 ∧ ∀ a : Int32, 0 ≤ a.toInt → a.toInt < x4.toInt → q a = 0 := by
          rcases hp with hp | hp
          · exact hp
          · have := i32_lt.mp c3
            rw [z0I] at this
            exact absurd hp.1 (by omega)
        by_cases d : p0 < v
        · rw [if_pos d, pr3_mk x3 p1 p2]
          refine ih _ _ _ _ (by omega) (by omega) (by omega) hk' (.inl ⟨hz.1, fun a a0 a1 => ?_⟩)
          rcases split a a0 a1 with g | g
          · exact hz.2 a a0 g
          · rw [g]; exact hl'.mp d
        · rw [if_neg d, pr3_mk x4 p1 p2]
          refine ih _ _ _ _ (by omega) (by omega) (by omega) hk' (.inr ⟨x0, by omega, fun g => d (hl'.mpr g), fun a a0 a1 g => ?_⟩)
          rcases split a a0 a1 with g2 | g2
          · exact absurd (hz.2 a a0 g2) g
          · rw [g2]; exact .inr ⟨rfl, Int.le_refl _⟩
      · rw [if_neg c3]
        have hz : 0 ≤ x3.toInt ∧ x3.toInt < x4.toInt ∧ ¬ q x3 = 0 ∧ ∀ a : Int32, 0 ≤ a.toInt → a.toInt < x4.toInt → ¬ q a = 0 → (f_X6_size x3).toInt < (f_X6_size a).toInt ∨ ((f_X6_size x3).toInt = (f_X6_size a).toInt ∧ x3.toInt ≤ a.toInt) := by
          rcases hp with hp | hp
          · exact absurd (by rw [hp.1]; exact m3n) c3
          · exact hp
        by_cases c4 : f_X6_size x3 ≤ f_X6_size x4
        · rw [if_pos c4, pr3_mk x3 ss mas]
          have c4' := i32_le.mp c4
          refine ih _ _ _ _ (by omega) (by omega) (by omega) hs (.inr ⟨hz.1, by omega, hz.2.2.1, fun a a0 a1 g => ?_⟩)
          rcases split a a0 a1 with g2 | g2
          · exact hz.2.2.2 a a0 g2 g
          · rw [g2]; omega
        · rw [if_neg c4, pr3_mk p0 p1 p2]
          have c4' : (f_X6_size x4).toInt < (f_X6_size x3).toInt := by have := mt i32_le.mpr c4; omega
          by_cases d : p0 < v
          · rw [if_pos d, pr3_mk x3 p1 p2]
            refine ih _ _ _ _ (by omega) (by omega) (by omega) hk' (.inr ⟨hz.1, by omega, hz.2.2.1, fun a a0 a1 g => ?_⟩)
            rcases split a a0 a1 with g2 | g2
            · exact hz.2.2.2 a a0 g2 g
            · rw [g2] at g; exact absurd (hl'.mp d) g
          · rw [if_neg d, pr3_mk x4 p1 p2]
            refine ih _ _ _ _ (by omega) (by omega) (by omega) hk' (.inr ⟨x0, by omega, fun g => d (hl'.mpr g), fun a a0 a1 g => ?_⟩)
            rcases split a a0 a1 with g2 | g2
            · have := hz.2.2.2 a a0 g2 g
              omega
            · rw [g2]; exact .inr ⟨rfl, Int.le_refl _⟩
end PU10
section PU11
variable {lw kd bt ph cn no : Nat → Int32} {ct sc rn lg dn zz n v S : Int32} {q : Int32 → Int32}
theorem aw50 {x4 : Int32} (hS : S.toInt ≤ 256) (hq : ∀ (tlw tkd tbt tph tcn tno : Nat → Int32) (a : Int32), (f_X5_isQuietWithout lw kd bt ph cn no ct sc rn lg dn zz tlw tkd tbt tph tcn tno a n v).1 = q a) : ∀ (N : Nat) (x5 : Int32) (tlw tkd tbt tph tcn tno : Nat → Int32) (tct tsc trn tlg tdn tzz : Int32), 0 ≤ x5.toInt → x5.toInt ≤ S.toInt → (S.toInt - x5.toInt).toNat < N → (∀ a : Int32, 0 ≤ a.toInt → a.toInt < x5.toInt → ¬ q a = 0 → ¬ f_J6_bitCount_0f7a4 a = x4) → (∃ z, l_X5_awayFor_50 lw kd bt ph cn no ct sc rn lg dn zz n v S x4 N x5 tlw tkd tbt tph tcn tno tct tsc trn tlg tdn tzz = Sum.inl z ∧ ∀ a : Int32, 0 ≤ a.toInt → a.toInt < S.toInt → ¬ q a = 0 → ¬ f_J6_bitCount_0f7a4 a = x4) ∨ (∃ X, l_X5_awayFor_50 lw kd bt ph cn no ct sc rn lg dn zz n v S x4 N x5 tlw tkd tbt tph tcn tno tct tsc trn tlg tdn tzz = Sum.inr X ∧ 0 ≤ X.1.toInt ∧ X.1.toInt < S.toInt ∧ ¬ q X.1 = 0 ∧ f_J6_bitCount_0f7a4 X.1 = x4 ∧ ∀ a : Int32, 0 ≤ a.toInt → a.toInt < X.1.toInt → ¬ q a = 0 → ¬ f_J6_bitCount_0f7a4 a = x4) := by
  intro N
  induction N with
  | zero => intro x5 tlw tkd tbt tph tcn tno tct tsc trn tlg tdn tzz _ _ h; exact absurd h (Nat.not_lt_zero _)
  | succ N ih =>
    intro x5 tlw tkd tbt tph tcn tno tct tsc trn tlg tdn tzz h0 h1 hN hp
    rw [l_X5_awayFor_50]
    by_cases c : S ≤ x5
    · rw [if_pos c]
      have e : x5.toInt = S.toInt := by have := i32_le.mp c; omega
      exact .inl ⟨_, rfl, fun a a0 a1 => hp a a0 (by omega)⟩
    · rw [if_neg c]
      have c' : x5.toInt < S.toInt := by have := mt i32_le.mpr c; omega
      have e1 := i32_add1 (i := x5) (by omega)
      have split : ∀ a : Int32, 0 ≤ a.toInt → a.toInt < (x5 + 1).toInt → a.toInt < x5.toInt ∨ a = x5 := fun a _ h => by
        by_cases g : a.toInt < x5.toInt
        · exact .inl g
        · exact .inr (i32_eq.mpr (by omega))
      by_cases d : f_J6_bitCount_0f7a4 x5 = x4
      · rw [if_pos d]
        have hr := hq tlw tkd tbt tph tcn tno x5
        generalize f_X5_isQuietWithout lw kd bt ph cn no ct sc rn lg dn zz tlw tkd tbt tph tcn tno x5 n v = p at hr ⊢
        obtain ⟨p0, p1, p2, p3, p4, p5, p6, p7, p8, p9, p10, p11, p12⟩ := p
        have hr0 : p0 = q x5 := hr
        rw [pr13_mk, hr0]
        by_cases f : q x5 = 0
        · rw [if_pos f]
          refine ih _ _ _ _ _ _ _ _ _ _ _ _ _ (by omega) (by omega) (by omega) (fun a a0 a1 g => ?_)
          rcases split a a0 a1 with g2 | g2
          · exact hp a a0 g2 g
          · rw [g2] at g; exact absurd f g
        · rw [if_neg f]
          exact .inr ⟨_, rfl, h0, c', f, d, hp⟩
      · rw [if_neg d]
        refine ih _ _ _ _ _ _ _ _ _ _ _ _ _ (by omega) (by omega) (by omega) (fun a a0 a1 g => ?_)
        rcases split a a0 a1 with g2 | g2
        · exact hp a a0 g2 g
        · rw [g2]; exact d
theorem aw35 (hS : S.toInt ≤ 256) (hc : 0 ≤ ct.toInt ∧ ct.toInt ≤ 8) (hb : ∀ a : Int32, 0 ≤ a.toInt → a.toInt < S.toInt → (f_J6_bitCount_0f7a4 a).toInt ≤ ct.toInt) (hS0 : 0 ≤ S.toInt) (hq : ∀ (tlw tkd tbt tph tcn tno : Nat → Int32) (a : Int32), (f_X5_isQuietWithout lw kd bt ph cn no ct sc rn lg dn zz tlw tkd tbt tph tcn tno a n v).1 = q a) (g : Int32 × (Nat → Int32) × (Nat → Int32) × (Nat → Int32) × (Nat → Int32) × (Nat → Int32) × (Nat → Int32) × Int32 × Int32 × Int32 × Int32 × Int32 × Int32 → T13) (hg : ∀ z, (g z).1 = -3) : ∀ (N : Nat) (x4 : Int32) (tlw tkd tbt tph tcn tno : Nat → Int32) (tct tsc trn tlg tdn tzz : Int32), 0 ≤ x4.toInt → x4.toInt ≤ ct.toInt + 1 → (ct.toInt + 1 - x4.toInt).toNat < N → (∀ a : Int32, 0 ≤ a.toInt → a.toInt < S.toInt → ¬ q a = 0 → x4.toInt ≤ (f_J6_bitCount_0f7a4 a).toInt) → awP q S.toInt (sm (l_X5_awayFor_35 lw kd bt ph cn no ct sc rn lg dn zz n v S N x4 tlw tkd tbt tph tcn tno tct tsc trn tlg tdn tzz) g (fun X => X)).1 := by
  intro N
  induction N with
  | zero => intro x4 tlw tkd tbt tph tcn tno tct tsc trn tlg tdn tzz _ _ h; exact absurd h (Nat.not_lt_zero _)
  | succ N ih =>
    intro x4 tlw tkd tbt tph tcn tno tct tsc trn tlg tdn tzz h0 h1 hN hp
    rw [l_X5_awayFor_35]
    by_cases c : ct < x4
    · rw [if_pos c, sm_inl]
      have c' := i32_lt.mp c
      refine .inl ⟨hg _, fun a a0 a1 => ?_⟩
      by_cases f : q a = 0
      · exact f
      · have p1 := hp a a0 a1 f
        have p2 := hb a a0 a1
        omega
    · rw [if_neg c]
      have c' : x4.toInt ≤ ct.toInt := by rw [i32_lt] at c; omega
      have e1 := i32_add1 (i := x4) (by omega)
      rcases aw50 (x4 := x4) hS hq 300 0 tlw tkd tbt tph tcn tno tct tsc trn tlg tdn tzz (by decide) hS0 (by rw [z0I]; omega) (fun a a0 a1 => by rw [z0I] at a1; omega) with ⟨z, e, hz⟩ | ⟨X, e, x0, x1, hx, hx4, hz⟩
      · rw [e, sm_inl]
        obtain ⟨z0, z1, z2, z3, z4, z5, z6, z7, z8, z9, z10, z11, z12⟩ := z
        rw [pr13_mk]
        refine ih _ _ _ _ _ _ _ _ _ _ _ _ _ (by omega) (by omega) (by omega) (fun a a0 a1 f => ?_)
        have p1 := hp a a0 a1 f
        have p2 : ¬ (f_J6_bitCount_0f7a4 a).toInt = x4.toInt := fun w => hz a a0 a1 f (i32_eq.mpr w)
        omega
      · rw [e, sm_inr, sm_inr]
        refine .inr ⟨x0, x1, hx, fun a a0 a1 f => ?_⟩
        have p1 := hp a a0 a1 f
        rw [size_eq (bS_rng x0 (by omega)), size_eq (bS_rng a0 (by omega)), hx4]
        by_cases w : (f_J6_bitCount_0f7a4 a).toInt = x4.toInt
        · refine .inr ⟨w.symm, ?_⟩
          by_cases l : a.toInt < X.1.toInt
          · exact absurd (i32_eq.mpr w) (hz a a0 l f)
          · omega
        · exact .inl (by omega)
end PU11
theorem shl_nn {c : Int32} (h0 : 0 ≤ c.toInt) (h : c.toInt ≤ 8) : 0 ≤ ((1 : Int32) <<< (c &&& 31)).toInt := by
  rcases nine_of h0 h with rfl | rfl | rfl | rfl | rfl | rfl | rfl | rfl | rfl <;> decide
theorem e_awayFor {lw kd bt ph cn no s mas : Nat → Int32} {ct sc rn lg dn zz : Int32} {tlw tkd tbt tph tcn tno : Nat → Int32} {tct tsc trn tlg tdn tzz : Int32} (h : RT lw kd bt ph cn no ct sc rn lg dn zz s) (x1 x2 : Int32) : (f_X5_awayFor lw kd bt ph cn no ct sc rn lg dn zz tlw tkd tbt tph tcn tno tct tsc trn tlg tdn tzz x1 x2).1 = (f_X6_awayFor s mas x1 x2).1 ∧ ∀ k, k < 50 → (f_X6_awayFor s mas x1 x2).2.1 k = s k := by
  unfold f_X5_awayFor f_X6_awayFor f_X6_isShort
  rw [isin_eq (x := x1) (l := 1) (h := 30) rfl rfl, isin_eq (x := x2) (l := 0) (h := 99) rfl rfl]
  by_cases c1 : f_X5_isIn x1 1 30 = 0
  · rw [if_pos c1, if_pos c1]; exact ⟨rfl, fun _ _ => rfl⟩
  · rw [if_neg c1, if_neg c1]
    by_cases c2 : f_X5_isIn x2 0 99 = 0
    · rw [if_pos c2, if_pos c2]; exact ⟨rfl, fun _ _ => rfl⟩
    · rw [if_neg c2, if_neg c2]
      have a1 := in_isIn c1
      have a2 := in_isIn c2
      rw [z1I, show (30 : Int32).toInt = 30 from rfl] at a1
      rw [z0I] at a2
      have hct := h.2.2.1
      have hS := shl_le hct.1 hct.2
      have hS0 := shl_nn hct.1 hct.2
      have hq1 : ∀ (tlw tkd tbt tph tcn tno : Nat → Int32) (a : Int32), (f_X5_isQuietWithout lw kd bt ph cn no ct sc rn lg dn zz tlw tkd tbt tph tcn tno a x1 x2).1 = (fun a => if (f_X6_lengthBy s mas x1 a).1 < x2 then (0 : Int32) else (1 : Int32)) a := fun tlw tkd tbt tph tcn tno a => rt_quiet h ⟨a1.1, by omega⟩ a2.1
      have hq2 : ∀ (t mas2 : Nat → Int32) (a : Int32), (∀ k, k < 50 → t k = s k) → ((f_X6_lengthBy t mas2 x1 a).1 < x2 ↔ (fun a => if (f_X6_lengthBy s mas x1 a).1 < x2 then (0 : Int32) else (1 : Int32)) a = 0) := fun t mas2 a ht => by
        have e1 := rt_quiet (mas := mas2) (x1 := a) (tlw := lw) (tkd := kd) (tbt := bt) (tph := ph) (tcn := cn) (tno := no) (rt_same h ht) ⟨a1.1, by omega⟩ a2.1
        have e2 := hq1 lw kd bt ph cn no a
        rw [e1] at e2
        rw [← e2]
        by_cases d : (f_X6_lengthBy t mas2 x1 a).1 < x2
        · rw [if_pos d]; exact ⟨fun _ => rfl, fun _ => d⟩
        · rw [if_neg d]; exact ⟨fun w => absurd w d, fun w => absurd w (by decide)⟩
      generalize (fun a => if (f_X6_lengthBy s mas x1 a).1 < x2 then (0 : Int32) else (1 : Int32)) = q at hq1 hq2
      have hm := awM h.1.1 hS hq2 300 (-3) 0 s mas (by decide) hS0 (by rw [z0I]; omega) (fun _ _ => rfl) (.inl ⟨rfl, fun a a0 a1 => by rw [z0I] at a1; omega⟩)
      have hx := aw35 hS hct (fun a a0 a1 => bit_le hct.1 hct.2 a0 a1) hS0 hq1 (fun (z5 : Int32 × (Nat → Int32) × (Nat → Int32) × (Nat → Int32) × (Nat → Int32) × (Nat → Int32) × (Nat → Int32) × Int32 × Int32 × Int32 × Int32 × Int32 × Int32) => pr13 z5 (fun x4_5 tlw_5 tkd_5 tbt_5 tph_5 tcn_5 tno_5 tct_5 tsc_5 trn_5 tlg_5 tdn_5 tzz_5 => (((-3) : Int32), tlw_5, tkd_5, tbt_5, tph_5, tcn_5, tno_5, tct_5, tsc_5, trn_5, tlg_5, tdn_5, tzz_5))) (fun z => rfl) 300 0 tlw tkd tbt tph tcn tno tct tsc trn tlg tdn tzz (by decide) (by rw [z0I]; omega) (by rw [z0I]; omega) (fun a a0 a1 _ => by rw [z0I, ← size_eq (bS_rng a0 (by omega))]; exact (size_rng (bS_rng a0 (by omega))).1)
      generalize l_X6_awayFor_27 x1 x2 300 (-3) 0 s mas = r at hm ⊢
      obtain ⟨r0, r1, r2, r3⟩ := r
      rw [pr4_mk]
      exact ⟨awP_uniq hx hm.1, hm.2⟩
/-! rows of seconds, and the reader; what a sheet tells -/
theorem one_bit : ∀ i : Fin 32, (1#32).getLsbD i.val = decide (i.val = 0) := by decide +kernel
theorem bit_gen {r v : Int32} {k : Nat} (hk : (v.toBitVec.smod 32).toNat = k) (h8 : k < 8) : (r >>> v) &&& 1 = if r.toBitVec.getLsbD k = true then 1 else 0 := by
  apply Int32.toBitVec_inj.mp
  rw [Int32.toBitVec_and, Int32.toBitVec_shiftRight]
  unfold BitVec.sshiftRight'
  rw [hk]
  apply BitVec.eq_of_getLsbD_eq
  intro i hi
  rw [BitVec.getLsbD_and, BitVec.getLsbD_sshiftRight, show (1 : Int32).toBitVec = 1#32 from rfl, one_bit ⟨i, hi⟩]
  by_cases h0 : i = 0
  · subst h0
    rw [if_pos (by omega), Nat.add_zero]
    by_cases hb : r.toBitVec.getLsbD k = true
    · rw [if_pos hb, hb]; rfl
    · rw [if_neg hb, Bool.not_eq_true _ ▸ hb]; rfl
  · have hf : decide (i = 0) = false := decide_eq_false h0
    show (_ && decide (i = 0)) = _
    rw [hf, Bool.and_false]
    split
    · rw [show (1 : Int32).toBitVec = 1#32 from rfl, one_bit ⟨i, hi⟩]; exact hf.symm
    · rw [show (0 : Int32).toBitVec = 0#32 from rfl, BitVec.getLsbD_zero]
theorem bit_at {r x : Int32} (hx : 0 ≤ x.toInt ∧ x.toInt < 8) : (r >>> (x &&& 31)) &&& 1 = if r.toBitVec.getLsbD x.toNatClampNeg = true then 1 else 0 := by
  rcases eight_of (vpI hx.1 hx.2) with rfl | rfl | rfl | rfl | rfl | rfl | rfl | rfl
  · exact bit_gen (k := 0) (by decide) (by decide)
  · exact bit_gen (k := 1) (by decide) (by decide)
  · exact bit_gen (k := 2) (by decide) (by decide)
  · exact bit_gen (k := 3) (by decide) (by decide)
  · exact bit_gen (k := 4) (by decide) (by decide)
  · exact bit_gen (k := 5) (by decide) (by decide)
  · exact bit_gen (k := 6) (by decide) (by decide)
  · exact bit_gen (k := 7) (by decide) (by decide)
theorem shl_bit : ∀ w x : Fin 8, ((1 : Int32) <<< (Int32.ofNat w.val &&& 31)).toBitVec.getLsbD x.val = decide (w = x) := by decide +kernel
theorem bit_or {n w x : Int32} (hw : 0 ≤ w.toInt ∧ w.toInt < 8) (hx : 0 ≤ x.toInt ∧ x.toInt < 8) : ((n ||| ((1 : Int32) <<< (w &&& 31))) >>> (x &&& 31)) &&& 1 = if w = x then 1 else (n >>> (x &&& 31)) &&& 1 := by
  obtain ⟨a, e1, q1⟩ := ofI (x := w) (B := 8) hw.1 hw.2
  obtain ⟨b, e2, q2⟩ := ofI (x := x) (B := 8) hx.1 hx.2
  have t := shl_bit a b
  rw [← e1] at t
  have hb : x.toNatClampNeg = b.val := by have := cl_nn hx.1; omega
  rw [bit_at hx, bit_at hx, Int32.toBitVec_or, BitVec.getLsbD_or, hb, t]
  by_cases c : w = x
  · have d : a = b := Fin.ext (by have := i32_eq.mp c; omega)
    rw [if_pos c, decide_eq_true d, Bool.or_true, if_pos rfl]
  · have d : ¬ a = b := fun d => c (by rw [e1, e2, d])
    rw [if_neg c, decide_eq_false d, Bool.or_false]
theorem snd_bitL {s : Nat → Int32} {x : Int32} (hok : okS s) (hx : 0 ≤ x.toInt ∧ x.toInt < 8) : ∀ (N : Nat) (x1 x2 : Int32), bS x1 → 0 ≤ x2.toInt → ((s 0).toInt - x2.toInt).toNat < N → ((l_X6_sounding_4 s N x1 x2).1 >>> (x &&& 31)) &&& 1 = if x2.toInt ≤ x.toInt ∧ x.toInt < (s 0).toInt ∧ ¬ f_X6_sounds s x = 0 then 1 else (x1 >>> (x &&& 31)) &&& 1 := by
  intro N
  induction N with
  | zero => intro x1 x2 _ _ h; exact absurd h (Nat.not_lt_zero _)
  | succ N ih =>
    intro x1 x2 hb h0 hN
    rw [l_X6_sounding_4]
    by_cases c : s 0 ≤ x2
    · have c' := i32_le.mp c
      rw [if_pos c, if_neg (by omega)]
    · rw [if_neg c, pr1_mk]
      have hs := cnt_step (B := 8) h0 hok.2.1 (by decide) c
      have c' : x2.toInt < (s 0).toInt := by have := mt i32_le.mpr c; omega
      have e1 := i32_add1 (i := x2) (by omega)
      have hw : vp_in x2 8 := vpI h0 hs.2.2.2
      rw [ih _ _ (bS_or hb (by split; exact bS0; exact bS_shl hw)) hs.1 (by omega), e1]
      by_cases d : f_X6_sounds s x2 = 0
      · rw [if_pos d, Int32.or_zero]
        by_cases e : x2 = x
        · subst e
          rw [if_neg (by omega), if_neg (fun q => q.2.2 d)]
        · have e' : ¬ x2.toInt = x.toInt := fun q => e (i32_eq.mpr q)
          by_cases f : x2.toInt ≤ x.toInt ∧ x.toInt < (s 0).toInt ∧ ¬ f_X6_sounds s x = 0
          · rw [if_pos f, if_pos ⟨by omega, f.2⟩]
          · rw [if_neg f, if_neg (fun q => f ⟨by omega, q.2⟩)]
      · rw [if_neg d, bit_or ⟨h0, hs.2.2.2⟩ hx]
        by_cases e : x2 = x
        · subst e
          rw [if_neg (by omega), if_pos rfl, if_pos ⟨Int.le_refl _, c', d⟩]
        · have e' : ¬ x2.toInt = x.toInt := fun q => e (i32_eq.mpr q)
          rw [if_neg e]
          by_cases f : x2.toInt ≤ x.toInt ∧ x.toInt < (s 0).toInt ∧ ¬ f_X6_sounds s x = 0
          · rw [if_pos f, if_pos ⟨by omega, f.2⟩]
          · rw [if_neg f, if_neg (fun q => f ⟨by omega, q.2⟩)]
theorem z_bit {x : Int32} (hx : 0 ≤ x.toInt ∧ x.toInt < 8) : ((0 : Int32) >>> (x &&& 31)) &&& 1 = 0 := by
  rcases eight_of (vpI hx.1 hx.2) with rfl | rfl | rfl | rfl | rfl | rfl | rfl | rfl <;> decide
theorem snd_bit {s : Nat → Int32} {x : Int32} (hok : okS s) (h0 : 0 ≤ x.toInt) (h1 : x.toInt < (s 0).toInt) : (f_X6_sounding s >>> (x &&& 31)) &&& 1 = if f_X6_sounds s x = 0 then 0 else 1 := by
  have h8 := hok.2.1
  have hl := snd_bitL (x := x) hok ⟨h0, by omega⟩ 300 0 0 bS0 (by decide) (by rw [z0I]; have := hok.1; omega)
  unfold f_X6_sounding
  generalize l_X6_sounding_4 s 300 0 0 = p at hl ⊢
  obtain ⟨p0, p1⟩ := p
  rw [pr2_mk]
  have hl' : (p0 >>> (x &&& 31)) &&& 1 = if (0 : Int32).toInt ≤ x.toInt ∧ x.toInt < (s 0).toInt ∧ ¬ f_X6_sounds s x = 0 then 1 else ((0 : Int32) >>> (x &&& 31)) &&& 1 := hl
  rw [hl']
  by_cases c : f_X6_sounds s x = 0
  · rw [if_pos c, if_neg (fun q => q.2.2 c), z_bit ⟨h0, by omega⟩]
  · rw [if_neg c, if_pos ⟨by rw [z0I]; exact h0, h1, c⟩]
theorem upd3_eq {f g : Nat → Int32} {a b c k : Nat} {u v w : Int32} (h : k ≠ a → k ≠ b → k ≠ c → f k = g k) : upd (upd (upd f a u) b v) c w k = upd (upd (upd g a u) b v) c w k := by
  by_cases e1 : k = c
  · rw [e1, pk_us, pk_us]
  · rw [pk_un e1, pk_un e1]
    by_cases e2 : k = b
    · rw [e2, pk_us, pk_us]
    · rw [pk_un e2, pk_un e2]
      by_cases e3 : k = a
      · rw [e3, pk_us, pk_us]
      · rw [pk_un e3, pk_un e3]; exact h e3 e2 e1
theorem ix3n {i : Int32} (h0 : 0 ≤ i.toInt) (h : i.toInt < 10) : ((i * 3).toNatClampNeg : Int) = 3 * i.toInt ∧ ((i * 3 + 1).toNatClampNeg : Int) = 3 * i.toInt + 1 ∧ ((i * 3 + 2).toNatClampNeg : Int) = 3 * i.toInt + 2 := by
  have e3 : (3 : Int32).toInt = 3 := rfl
  have e2 : (2 : Int32).toInt = 2 := rfl
  have m1 : (i * 3).toInt = i.toInt * 3 := i32_mulE (a := i) (b := 3) (by rw [e3]; omega) (by rw [e3]; omega)
  have m2 : (i * 3 + 1).toInt = (i * 3).toInt + 1 := i32_add1 (by omega)
  have m3 : (i * 3 + 2).toInt = (i * 3).toInt + 2 := i32_addE (a := i * 3) (b := 2) (by rw [e2]; omega) (by rw [e2]; omega)
  rw [cl_nn (by omega), cl_nn (by omega), cl_nn (by omega)]
  omega
section PU12
variable {lw kd bt ph cn : Nat → Int32} {ct zz : Int32}
theorem proveL {x1 x2 : Int32} (hx : 0 ≤ x1.toInt ∧ x1.toInt < ct.toInt) (h2 : x2.toInt ≤ 10) : ∀ (N : Nat) (x3 : Int32) (rws mrw no : Nat → Int32) (sc rn lg dn : Int32) (s : Nat → Int32), RT lw kd bt ph cn no ct sc rn lg dn zz s → 0 ≤ x3.toInt → x3.toInt ≤ x2.toInt → (x2.toInt - x3.toInt).toNat < N → (∀ k : Nat, (k : Int) < 3 * x3.toInt → rws k = mrw k) → ∀ k : Nat, (k : Int) < 3 * x2.toInt → (l_X5_prove_26 lw kd bt ph cn ct x1 x2 N x3 rws no sc rn lg dn).2.1 k = (l_X6_prove_35 x1 x2 N x3 s mrw).2.2 k := by
  intro N
  induction N with
  | zero => intro x3 rws mrw no sc rn lg dn s _ _ _ h; exact absurd h (Nat.not_lt_zero _)
  | succ N ih =>
    intro x3 rws mrw no sc rn lg dn s h h0 h1 hN hr k hk
    rw [l_X5_prove_26, l_X6_prove_35]
    by_cases c : x2 ≤ x3
    · have c' := i32_le.mp c
      rw [if_pos c, if_pos c]
      exact hr k (by omega)
    · rw [if_neg c, if_neg c]
      have c' : x3.toInt < x2.toInt := by have := mt i32_le.mpr c; omega
      have e1 := i32_add1 (i := x3) (by omega)
      have hct := h.2.2.1
      have hb := snd_bit (rt_ok h) hx.1 (by rw [h.1.1]; exact hx.2)
      have hp := rt_passS h
      generalize f_X4_pass lw kd bt ph cn no ct sc rn lg dn = p at hp ⊢
      obtain ⟨p0, p1, p2, p3, p4, p5⟩ := p
      have hp0 : p0 = f_X6_sounding s := hp.1
      have hp1 : RT lw kd bt ph cn p1 ct p2 p3 p4 p5 zz (f_X6_goesBy s (f_X6_sounding s)) := hp.2
      have e3 : f_X6_goesBy s (f_X6_sounding s) 3 = p3 := hp1.1.2.2.2.1
      obtain ⟨-, -, -, -, i4⟩ := rp_its hx.1 (by omega) (rt_p hp1 hx.1 hx.2)
      rw [pr6_mk, pr1_mk, pr1_mk, goes1, and_m1, e3, i4, hp0, hb, Int32.mul_comm 3 x3]
      obtain ⟨n1, n2, n3⟩ := ix3n h0 (show x3.toInt < 10 by omega)
      exact ih _ _ _ _ _ _ _ _ _ hp1 (by omega) (by omega) (by omega) (fun j hj => upd3_eq (fun q1 q2 q3 => hr j (by omega))) k hk
theorem e_prove {no s mas rws mrw : Nat → Int32} {sc rn lg dn rc mrn : Int32} {tlw tkd tbt tph tcn tno : Nat → Int32} {tct tsc trn tlg tdn tzz : Int32} (h : RT lw kd bt ph cn no ct sc rn lg dn zz s) (hrc : rc = mrn) (hc : 0 ≤ rc.toInt ∧ rc.toInt ≤ 10) (hr : ∀ k : Nat, (k : Int) < 3 * rc.toInt → rws k = mrw k) (x1 x2 : Int32) : (f_X5_prove rws rc lw kd bt ph cn no ct sc rn lg dn zz tlw tkd tbt tph tcn tno tct tsc trn tlg tdn tzz x1 x2).1 = (f_X6_prove s mas mrw mrn x1 x2).1 ∧ (∀ k, k < 50 → (f_X6_prove s mas mrw mrn x1 x2).2.1 k = s k) ∧ (f_X5_prove rws rc lw kd bt ph cn no ct sc rn lg dn zz tlw tkd tbt tph tcn tno tct tsc trn tlg tdn tzz x1 x2).2.2.1 = (f_X6_prove s mas mrw mrn x1 x2).2.2.2.2 ∧ (0 ≤ (f_X6_prove s mas mrw mrn x1 x2).2.2.2.2.toInt ∧ (f_X6_prove s mas mrw mrn x1 x2).2.2.2.2.toInt ≤ 10) ∧ ∀ k : Nat, (k : Int) < 3 * (f_X6_prove s mas mrw mrn x1 x2).2.2.2.2.toInt → (f_X5_prove rws rc lw kd bt ph cn no ct sc rn lg dn zz tlw tkd tbt tph tcn tno tct tsc trn tlg tdn tzz x1 x2).2.1 k = (f_X6_prove s mas mrw mrn x1 x2).2.2.2.1 k := by
  subst hrc
  unfold f_X5_prove f_X6_prove f_X5_isTrial
  rw [rt_has h, isin_eq (x := x2) (l := 1) (h := 10) rfl rfl]
  by_cases c1 : f_X4_has ct x1 = 0
  · rw [if_pos c1, if_pos c1, if_pos rfl]; exact ⟨rfl, fun _ _ => rfl, rfl, hc, hr⟩
  · rw [if_neg c1, if_neg c1]
    have hx := rt_in h c1
    by_cases c2 : f_X5_isIn x2 1 10 = 0
    · rw [if_pos c2, if_pos c2, if_pos rfl]; exact ⟨rfl, fun _ _ => rfl, rfl, hc, hr⟩
    · rw [if_neg c2, if_neg c2, if_neg i1n0]
      have a2 := in_isIn c2
      rw [z1I, show (10 : Int32).toInt = 10 from rfl] at a2
      have hp := proveL (x1 := x1) (x2 := x2) ⟨hx.1, hx.2.1⟩ a2.2 300 0 rws mrw _ sc rn lg dn s (rt_cpy (lw' := tlw) (kd' := tkd) (bt' := tbt) (ph' := tph) (cn' := tcn) (no' := tno) h) (by decide) (by rw [z0I]; omega) (by rw [z0I]; omega) (fun k hk => by rw [z0I] at hk; omega)
      generalize l_X5_prove_26 (va_cpy lw tlw 0 0 4) (va_cpy kd tkd 0 0 8) (va_cpy bt tbt 0 0 8) (va_cpy ph tph 0 0 8) (va_cpy cn tcn 0 0 8) ct x1 x2 300 0 rws (va_cpy no tno 0 0 8) sc rn lg dn = p at hp ⊢
      obtain ⟨p0, p1, p2, p3, p4, p5, p6⟩ := p
      generalize l_X6_prove_35 x1 x2 300 0 s mrw = q at hp ⊢
      obtain ⟨q0, q1, q2⟩ := q
      simp only [pr7_mk, pr3_mk, pr1_mk]
      exact ⟨trivial, back_s _, trivial, ⟨by omega, a2.2⟩, hp⟩
theorem judgeL {rws mrw : Nat → Int32} {rc x1 tz : Int32} (hx : 0 ≤ x1.toInt ∧ x1.toInt < ct.toInt) (hc : 0 ≤ rc.toInt ∧ rc.toInt ≤ 10) (hr : ∀ k : Nat, (k : Int) < 3 * rc.toInt → rws k = mrw k) (g : Int32 × (Nat → Int32) × Int32 × Int32 × Int32 × Int32 → T13) (hg : ∀ z, (g z).1 = 0) : ∀ (N : Nat) (x2 : Int32) (no : Nat → Int32) (sc rn lg dn : Int32) (s : Nat → Int32), RT lw kd bt ph cn no ct sc rn lg dn zz s → 0 ≤ x2.toInt → x2.toInt ≤ rc.toInt → (rc.toInt + 1 - x2.toInt).toNat < N → (sm (l_X5_judge_26 rws rc lw kd bt ph cn ct tz x1 N x2 no sc rn lg dn) g (fun X => X)).1 = if (l_X6_judge_25 mrw rc x1 N x2 1 s).2.1 = 0 then (l_X6_judge_25 mrw rc x1 N x2 1 s).1 else 0 := by
  intro N
  induction N with
  | zero => intro x2 no sc rn lg dn s _ _ _ h; exact absurd h (Nat.not_lt_zero _)
  | succ N ih =>
    intro x2 no sc rn lg dn s h h0 h1 hN
    by_cases c : rc ≤ x2
    · rw [l_X5_judge_26, l_X6_judge_25, if_pos c, if_pos c, sm_inl, if_neg (show ¬ ((x2, (1 : Int32), s) : Int32 × Int32 × (Nat → Int32)).2.1 = 0 from i1n0)]
      exact hg _
    · rw [l_X5_judge_26, if_neg c]
      have c' : x2.toInt < rc.toInt := by have := mt i32_le.mpr c; omega
      have e1 := i32_add1 (i := x2) (by omega)
      have hct := h.2.2.1
      have hb := snd_bit (rt_ok h) hx.1 (by rw [h.1.1]; exact hx.2)
      have hp := rt_passS h
      generalize f_X4_pass lw kd bt ph cn no ct sc rn lg dn = p at hp ⊢
      obtain ⟨p0, p1, p2, p3, p4, p5⟩ := p
      have hp0 : p0 = f_X6_sounding s := hp.1
      have hp1 : RT lw kd bt ph cn p1 ct p2 p3 p4 p5 zz (f_X6_goesBy s (f_X6_sounding s)) := hp.2
      have e3 : f_X6_goesBy s (f_X6_sounding s) 3 = p3 := hp1.1.2.2.2.1
      obtain ⟨-, -, -, -, i4⟩ := rp_its hx.1 (by omega) (rt_p hp1 hx.1 hx.2)
      obtain ⟨n1, n2, n3⟩ := ix3n h0 (show x2.toInt < 10 by omega)
      have hM : l_X6_judge_25 mrw rc x1 (N + 1) x2 1 s = l_X6_judge_25 mrw rc x1 N (x2 + 1) (if (if rws (x2 * 3).toNatClampNeg = (if f_X6_sounds s x1 = 0 then (0 : Int32) else (1 : Int32)) then (1 : Int32) else (0 : Int32)) = 0 then (0 : Int32) else (if rws (x2 * 3 + 1).toNatClampNeg = p3 then (if rws (x2 * 3 + 2).toNatClampNeg = p1 x1.toNatClampNeg then (1 : Int32) else (0 : Int32)) else (0 : Int32))) (f_X6_goesBy s (f_X6_sounding s)) := by
        rw [l_X6_judge_25, if_neg c, if_neg i1n0, pr1_mk, pr1_mk, pr1_mk, pr1_mk, goes1, and_m1, e3, i4, Int32.mul_comm 3 x2, hr (x2 * 3).toNatClampNeg (by omega), hr (x2 * 3 + 1).toNatClampNeg (by omega), hr (x2 * 3 + 2).toNatClampNeg (by omega)]
      rw [pr6_mk, hp0, hb, hM]
      obtain ⟨M, rfl⟩ : ∃ M, N = M + 1 := ⟨N - 1, by omega⟩
      have el : ∀ t : Nat → Int32, l_X6_judge_25 mrw rc x1 (M + 1) (x2 + 1) 0 t = (x2 + 1, 0, t) := fun t => by
        rw [l_X6_judge_25]
        split
        · rfl
        · rw [if_pos rfl]
      generalize (if f_X6_sounds s x1 = 0 then (0 : Int32) else (1 : Int32)) = j0
      by_cases d1 : rws (x2 * 3).toNatClampNeg = j0
      · rw [if_pos d1, if_pos d1, if_neg i1n0]
        by_cases d2 : rws (x2 * 3 + 1).toNatClampNeg = p3
        · rw [if_pos d2, if_pos d2]
          by_cases d3 : rws (x2 * 3 + 2).toNatClampNeg = p1 x1.toNatClampNeg
          · rw [if_pos d3, if_pos d3]
            exact ih _ _ _ _ _ _ _ hp1 (by omega) (by omega) (by omega)
          · rw [if_neg d3, if_neg d3, el, sm_inr]; rfl
        · rw [if_neg d2, if_neg d2, el, sm_inr]; rfl
      · rw [if_neg d1, if_neg d1, if_pos rfl, el, sm_inr]; rfl
theorem e_judge {no s mas rws mrw : Nat → Int32} {sc rn lg dn rc mrn : Int32} {tlw tkd tbt tph tcn tno : Nat → Int32} {tct tsc trn tlg tdn tzz : Int32} (h : RT lw kd bt ph cn no ct sc rn lg dn zz s) (hrc : rc = mrn) (hc : 0 ≤ rc.toInt ∧ rc.toInt ≤ 10) (hr : ∀ k : Nat, (k : Int) < 3 * rc.toInt → rws k = mrw k) (x1 : Int32) : (f_X5_judge rws rc lw kd bt ph cn no ct sc rn lg dn zz tlw tkd tbt tph tcn tno tct tsc trn tlg tdn tzz x1).1 = (f_X6_judge s mas mrw mrn x1).1 ∧ ∀ k, k < 50 → (f_X6_judge s mas mrw mrn x1).2.1 k = s k := by
  subst hrc
  unfold f_X5_judge f_X6_judge
  rw [rt_has h]
  by_cases c1 : f_X4_has ct x1 = 0
  · rw [if_pos c1, if_pos c1]; exact ⟨rfl, fun _ _ => rfl⟩
  · rw [if_neg c1, if_neg c1]
    have hx := rt_in h c1
    have hp := judgeL (x1 := x1) (tz := zz) ⟨hx.1, hx.2.1⟩ hc hr (fun (z4 : Int32 × (Nat → Int32) × Int32 × Int32 × Int32 × Int32) => pr6 z4 (fun x2_4 tno_4 tsc_4 trn_4 tlg_4 tdn_4 => ((0 : Int32), (va_cpy lw tlw 0 0 4), (va_cpy kd tkd 0 0 8), (va_cpy bt tbt 0 0 8), (va_cpy ph tph 0 0 8), (va_cpy cn tcn 0 0 8), tno_4, ct, tsc_4, trn_4, tlg_4, tdn_4, zz))) (fun z => rfl) 300 0 _ sc rn lg dn s (rt_cpy (lw' := tlw) (kd' := tkd) (bt' := tbt) (ph' := tph) (cn' := tcn) (no' := tno) h) (by decide) (by rw [z0I]; exact hc.1) (by rw [z0I]; omega)
    have hb := fun t => back_s (s := s) (mas := mas) t
    rw [hp]
    generalize l_X6_judge_25 mrw rc x1 300 0 1 s = q
    obtain ⟨q0, q1, q2⟩ := q
    simp only [pr3_mk, pr1_mk]
    by_cases d : q1 = 0
    · rw [if_pos d, if_pos d]; exact ⟨rfl, hb _⟩
    · rw [if_neg d, if_neg d]; exact ⟨rfl, hb _⟩
end PU12
theorem lgc_eq {a b : Int64} : lg_cmp a b = 0 ↔ a = b := by
  unfold lg_cmp
  by_cases h : b < a
  · rw [if_pos h]
    exact ⟨fun c => absurd c (by decide), fun e => by rw [e] at h; exact absurd h (Int64.lt_irrefl)⟩
  · rw [if_neg h]
    by_cases e : a = b
    · rw [if_pos e]; exact ⟨fun _ => e, fun _ => rfl⟩
    · rw [if_neg e]; exact ⟨fun c => absurd c (by decide), fun q => absurd q e⟩
theorem i64_inj {a b : Int32} (h : a.toInt64 = b.toInt64) : a = b := by
  have e := congrArg Int64.toInt32 h
  rw [Int32.toInt32_toInt64, Int32.toInt32_toInt64] at e
  exact e
theorem lgc_m1 {a : Int32} : lg_cmp a.toInt64 (-1) = 0 ↔ a = -1 := by
  rw [lgc_eq]
  exact ⟨fun e => i64_inj (e.trans (show (-1 : Int64) = (-1 : Int32).toInt64 by decide)), fun e => by rw [e]; decide⟩
theorem lgc_ii {a b : Int32} : lg_cmp a.toInt64 b.toInt64 = 0 ↔ a = b := by
  rw [lgc_eq]
  exact ⟨i64_inj, fun e => by rw [e]⟩
/-- the sheets -/
def RS (sit : Nat → Nat → Int64) (ssr ssi mso msz mnu : Nat → Int32) : Prop := (∀ i : Nat, 0 ≤ (ssi i).toInt ∧ (ssi i).toInt ≤ 40) ∧ (∀ i : Nat, 0 ≤ (msz i).toInt ∧ (msz i).toInt ≤ 40) ∧ ∀ i : Nat, i < 4 → (ssr i = mso i ∧ ssi i = msz i) ∧ (-1 ≤ (ssr i).toInt ∧ (ssr i).toInt ≤ 3) ∧ ∀ k : Nat, k < 40 → sit i k = (mnu (40 * i + k)).toInt64
theorem nu_ix {x y : Int32} (h : vp_in x 4) (y0 : 0 ≤ y.toInt) (y1 : y.toInt < 40) : ((40 : Int32) * x + y).toNatClampNeg = 40 * x.toNatClampNeg + y.toNatClampNeg ∧ x.toNatClampNeg < 4 ∧ y.toNatClampNeg < 40 := by
  have h' := vp_in_iff.mp h
  have e40 : (40 : Int32).toInt = 40 := rfl
  have m1 : ((40 : Int32) * x).toInt = 40 * x.toInt := i32_mulE (a := 40) (b := x) (by rw [e40]; omega) (by rw [e40]; omega)
  have m2 : ((40 : Int32) * x + y).toInt = ((40 : Int32) * x).toInt + y.toInt := i32_addE (by omega) (by omega)
  have c1 := cl_nn h'.1
  have c2 := cl_nn y0
  have c3 := cl_nn (x := (40 : Int32) * x + y) (by omega)
  omega
section PU13
variable {lw kd bt ph cn : Nat → Int32} {ct zz : Int32}
theorem toldL {it : Nat → Int64} {si tz x1 : Int32} {tcn tno msz mnu : Nat → Int32} (hv : vp_in x1 4) (hsz : msz x1.toNatClampNeg = si) (hsi : si.toInt ≤ 40) (hit : ∀ k : Nat, k < 40 → it k = (mnu (40 * x1.toNatClampNeg + k)).toInt64) (g : Int32 × Int32 × Int32 × Int32 × Int32 → T13) (hg : ∀ z, (g z).1 = 1) : ∀ (N : Nat) (x4 : Int32) (no : Nat → Int32) (sc rn lg dn : Int32) (s : Nat → Int32), RT lw kd bt ph cn no ct sc rn lg dn zz s → 0 ≤ x4.toInt → ((41 : Int) - x4.toInt).toNat < N → (sm (l_X5_isTold_24 lw kd bt ph tcn tno ct tz it si N x4 sc rn lg dn) g (fun X => X)).1 = (l_X6_isTold_15 msz mnu x1 N 1 x4 s).1 := by
  intro N
  induction N with
  | zero => intro x4 no sc rn lg dn s _ _ h; exact absurd h (Nat.not_lt_zero _)
  | succ N ih =>
    intro x4 no sc rn lg dn s h h0 hN
    rw [l_X5_isTold_24, l_X6_isTold_15, hsz]
    by_cases c : si ≤ x4
    · rw [if_pos c, if_pos c, sm_inl]; exact hg _
    · rw [if_neg c, if_neg c, if_neg i1n0, pr1_mk, goes1, and_m1, rt_sounding h]
      have c' : x4.toInt < si.toInt := by have := mt i32_le.mpr c; omega
      have e1 := i32_add1 (i := x4) (by omega)
      have hp := rt_goesBy (f_X4_soundingSet lw kd bt ph ct sc rn) h
      obtain ⟨n1, n2, n3⟩ := nu_ix hv h0 (show x4.toInt < 40 by omega)
      generalize f_X4_endSecond lw sc rn lg dn (f_X4_soundingSet lw kd bt ph ct sc rn) = p at hp ⊢
      obtain ⟨p0, p1, p2, p3⟩ := p
      have e3 : f_X6_goesBy s (f_X4_soundingSet lw kd bt ph ct sc rn) 3 = p1 := hp.1.2.2.2.1
      rw [pr4_mk, hit _ n3, n1, e3]
      obtain ⟨M, rfl⟩ : ∃ M, N = M + 1 := ⟨N - 1, by omega⟩
      by_cases d1 : mnu (40 * x1.toNatClampNeg + x4.toNatClampNeg) = -1
      · rw [if_pos (lgc_m1.mpr d1), if_pos d1, pr1_mk]
        exact ih _ _ _ _ _ _ _ hp (by omega) (by omega)
      · rw [if_neg (fun q => d1 (lgc_m1.mp q)), if_neg d1]
        by_cases d2 : mnu (40 * x1.toNatClampNeg + x4.toNatClampNeg) = p1
        · rw [if_pos (lgc_ii.mpr d2), if_pos d2, pr1_mk]
          exact ih _ _ _ _ _ _ _ hp (by omega) (by omega)
        · rw [if_neg (fun q => d2 (lgc_ii.mp q)), if_neg d2, pr1_mk, sm_inr, l_X6_isTold_15]
          split
          · rfl
          · rw [if_pos rfl]
theorem rt_told {no s mas msz mnu : Nat → Int32} {sc rn lg dn si x1 x2 x3 : Int32} {it : Nat → Int64} {tlw tkd tbt tph tcn tno : Nat → Int32} (h : RT lw kd bt ph cn no ct sc rn lg dn zz s) (hv : vp_in x1 4) (hsz : msz x1.toNatClampNeg = si) (hsi : si.toInt ≤ 40) (hit : ∀ k : Nat, k < 40 → it k = (mnu (40 * x1.toNatClampNeg + k)).toInt64) (hx : 0 ≤ x2.toInt ∧ x2.toInt < ct.toInt) (h3 : 0 ≤ x3.toInt ∧ x3.toInt ≤ 8) {ss : Nat → Int32} (hs : ∀ k, k < 50 → k ≠ 10 + 5 * x2.toNatClampNeg + 2 → ss k = s k) : (f_X5_isTold lw kd bt ph cn no ct sc rn lg dn zz tlw tkd tbt tph tcn tno it si x2 x3).1 = (f_X6_isTold (upd ss (10 + 5 * x2.toNatClampNeg + 2) x3) mas msz mnu x1).1 := by
  have h2 := rt_ph (rt_cpy (lw' := tlw) (kd' := tkd) (bt' := tbt) (ph' := tph) (cn' := tcn) (no' := tno) h) (k0 := x2.toNatClampNeg) (v := x3) (by rw [cl_nn hx.1]; exact hx.2) h3
  have h4 := rt_same h2 (upd_agree hs)
  have hm : (f_X6_isTold (upd ss (10 + 5 * x2.toNatClampNeg + 2) x3) mas msz mnu x1).1 = (l_X6_isTold_15 msz mnu x1 300 1 0 (upd ss (10 + 5 * x2.toNatClampNeg + 2) x3)).1 := by
    unfold f_X6_isTold
    generalize l_X6_isTold_15 msz mnu x1 300 1 0 (upd ss (10 + 5 * x2.toNatClampNeg + 2) x3) = q
    obtain ⟨q0, q1, q2⟩ := q
    rw [pr1_mk, pr3_mk, pr1_mk]
  rw [hm]
  unfold f_X5_isTold
  exact toldL hv hsz hsi hit _ (fun z => by obtain ⟨z0, z1, z2, z3, z4⟩ := z; rw [pr5_mk]) 300 0 _ sc rn lg dn _ h4 (by decide) (by decide)
end PU13
theorem told_kp {ss mas msz mnu : Nat → Int32} {x1 : Int32} : ∀ k, k < 50 → (f_X6_isTold ss mas msz mnu x1).2.1 k = ss k := told_keep (r := (f_X6_isTold ss mas msz mnu x1).1) (s2 := (f_X6_isTold ss mas msz mnu x1).2.1) (m2 := (f_X6_isTold ss mas msz mnu x1).2.2) rfl
theorem fit_tab : ∀ n : Fin 256, (f_J6_bitCount_0f7a4 (Int32.ofNat n.val * 2 + 0) = f_J6_bitCount_0f7a4 (Int32.ofNat n.val) + 0 ∧ f_J6_bitCount_0f7a4 (Int32.ofNat n.val * 2 + 1) = f_J6_bitCount_0f7a4 (Int32.ofNat n.val) + 1) ∧ f_J6_numberOfTrailingZeros_0f7a4 (Int32.ofNat n.val * 2 + 1) = 0 ∧ ((Int32.ofNat n.val * 2 + 0).toInt = 2 * (n.val : Int) ∧ (Int32.ofNat n.val * 2 + 1).toInt = 2 * (n.val : Int) + 1) ∧ (n.val ≠ 0 → f_J6_numberOfTrailingZeros_0f7a4 (Int32.ofNat n.val * 2 + 0) = f_J6_numberOfTrailingZeros_0f7a4 (Int32.ofNat n.val) + 1) := by decide +kernel
theorem fit_at {f : Int32} (h0 : 0 ≤ f.toInt) (h : f.toInt < 256) : (f_J6_bitCount_0f7a4 (f * 2 + 0) = f_J6_bitCount_0f7a4 f + 0 ∧ f_J6_bitCount_0f7a4 (f * 2 + 1) = f_J6_bitCount_0f7a4 f + 1) ∧ f_J6_numberOfTrailingZeros_0f7a4 (f * 2 + 1) = 0 ∧ ((f * 2 + 0).toInt = 2 * f.toInt ∧ (f * 2 + 1).toInt = 2 * f.toInt + 1) ∧ (¬ f = 0 → f_J6_numberOfTrailingZeros_0f7a4 (f * 2 + 0) = f_J6_numberOfTrailingZeros_0f7a4 f + 1) := by
  obtain ⟨n, e, q⟩ := ofI (x := f) (B := 256) h0 h
  have t := fit_tab n
  rw [← e, q] at t
  exact ⟨t.1, t.2.1, t.2.2.1, fun hf => t.2.2.2 (fun q2 => hf (by rw [e, q2]; rfl))⟩
section PU14
variable {lw kd bt ph cn no s mso msz mnu ssr ssi : Nat → Int32} {ct sc rn lg dn zz : Int32} {sit : Nat → Nat → Int64}
theorem fitsL {x1 x2 ix : Int32} (h : RT lw kd bt ph cn no ct sc rn lg dn zz s) (hS : RS sit ssr ssi mso msz mnu) (hv : vp_in x1 4) (hx : 0 ≤ x2.toInt ∧ x2.toInt < ct.toInt) (hix : ix.toNatClampNeg = 10 + 5 * x2.toNatClampNeg + 2) : ∀ (n N : Nat) (x4 x5 y6 y7 : Int32) (tlw tkd tbt tph tcn tno : Nat → Int32) (tct tsc trn tlg tdn tzz : Int32) (ss mas : Nat → Int32), x5.toInt + 1 = n → n ≤ 9 → n < N → 0 ≤ x4.toInt → x4.toInt < (2 ^ (9 - n) : Nat) → y6 = f_J6_bitCount_0f7a4 x4 → (x4 = 0 → y7 = -3) → (¬ x4 = 0 → y7 = f_J6_numberOfTrailingZeros_0f7a4 x4 + (x5 + 1)) → (∀ k, k < 50 → k ≠ 10 + 5 * x2.toNatClampNeg + 2 → ss k = s k) → ((l_X6_fits_69 msz mnu x1 ix N y6 y7 x5 ss mas).1 = f_J6_bitCount_0f7a4 (l_X5_fits_52 lw kd bt ph cn no ct sc rn lg dn zz sit ssi x1 x2 N x4 x5 tlw tkd tbt tph tcn tno tct tsc trn tlg tdn tzz).1 ∧ (l_X6_fits_69 msz mnu x1 ix N y6 y7 x5 ss mas).2.1 = if (l_X5_fits_52 lw kd bt ph cn no ct sc rn lg dn zz sit ssi x1 x2 N x4 x5 tlw tkd tbt tph tcn tno tct tsc trn tlg tdn tzz).1 = 0 then -3 else f_J6_numberOfTrailingZeros_0f7a4 (l_X5_fits_52 lw kd bt ph cn no ct sc rn lg dn zz sit ssi x1 x2 N x4 x5 tlw tkd tbt tph tcn tno tct tsc trn tlg tdn tzz).1) ∧ ∀ k, k < 50 → k ≠ 10 + 5 * x2.toNatClampNeg + 2 → (l_X6_fits_69 msz mnu x1 ix N y6 y7 x5 ss mas).2.2.2.1 k = s k := by
  intro n
  induction n with
  | zero =>
    intro N x4 x5 y6 y7 tlw tkd tbt tph tcn tno tct tsc trn tlg tdn tzz ss mas h5 hn hN h40 h4 h6 h7 h8 hs
    obtain ⟨N', rfl⟩ : ∃ M, N = M + 1 := ⟨N - 1, by omega⟩
    have e5 : x5 = -1 := i32_eq.mpr (by rw [show (-1 : Int32).toInt = -1 from rfl]; omega)
    have c : x5 < 0 := by rw [e5]; decide
    rw [l_X5_fits_52, l_X6_fits_69, if_pos c, if_pos c]
    refine ⟨⟨h6, ?_⟩, hs⟩
    show y7 = if x4 = 0 then -3 else f_J6_numberOfTrailingZeros_0f7a4 x4
    by_cases d : x4 = 0
    · rw [if_pos d]; exact h7 d
    · rw [if_neg d, h8 d, e5, show (-1 : Int32) + 1 = 0 from rfl, Int32.add_zero]
  | succ n ih =>
    intro N x4 x5 y6 y7 tlw tkd tbt tph tcn tno tct tsc trn tlg tdn tzz ss mas h5 hn hN h40 h4 h6 h7 h8 hs
    obtain ⟨N', rfl⟩ : ∃ M, N = M + 1 := ⟨N - 1, by omega⟩
    have hpw : 2 ^ (9 - n) = 2 * 2 ^ (9 - (n + 1)) := by rw [show 9 - n = (9 - (n + 1)) + 1 by omega, Nat.pow_succ, Nat.mul_comm]
    have hpl : 2 ^ (9 - (n + 1)) ≤ 2 ^ 8 := Nat.pow_le_pow_right (by decide) (by omega)
    have hpl2 : (2 : Nat) ^ 8 = 256 := rfl
    have c : ¬ x5 < 0 := by rw [i32_lt, z0I]; omega
    have ed := i32_dec (i := x5) (by omega)
    have e51 := i32_add1 (i := x5) (by omega)
    have hv' := vp_in_iff.mp hv
    have hvn : x1.toNatClampNeg < 4 := by have := cl_nn hv'.1; omega
    obtain ⟨⟨-, q2⟩, -, q4⟩ := hS.2.2 _ hvn
    have hq5 : x5 + -1 + 1 = x5 := i32_eq.mpr (by rw [i32_add1 (by omega)]; omega)
    rw [l_X5_fits_52, l_X6_fits_69, if_neg c, if_neg c, hix]
    have ht := rt_told (mas := mas) (x3 := x5) (tlw := tlw) (tkd := tkd) (tbt := tbt) (tph := tph) (tcn := tcn) (tno := tno) h hv q2.symm (hS.1 _).2 q4 hx ⟨by omega, by omega⟩ hs
    have hk := told_kp (ss := upd ss (10 + 5 * x2.toNatClampNeg + 2) x5) (mas := mas) (msz := msz) (mnu := mnu) (x1 := x1)
    generalize f_X5_isTold lw kd bt ph cn no ct sc rn lg dn zz tlw tkd tbt tph tcn tno (sit x1.toNatClampNeg) (ssi x1.toNatClampNeg) x2 x5 = p at ht ⊢
    obtain ⟨p0, p1, p2, p3, p4, p5, p6, p7, p8, p9, p10, p11, p12⟩ := p
    generalize f_X6_isTold (upd ss (10 + 5 * x2.toNatClampNeg + 2) x5) mas msz mnu x1 = r at ht hk ⊢
    obtain ⟨r0, r1, r2⟩ := r
    have e0 : p0 = r0 := ht
    have hs2 : ∀ k, k < 50 → k ≠ 10 + 5 * x2.toNatClampNeg + 2 → r1 k = s k := fun k hk2 hne => by
      have q := hk k hk2
      rw [pk_un hne] at q
      exact q.trans (hs k hk2 hne)
    obtain ⟨⟨t0, t1⟩, t2, ⟨t3, t4⟩, t5⟩ := fit_at (f := x4) h40 (by omega)
    rw [pr13_mk, pr3_mk, e0]
    by_cases d : r0 = 0
    · rw [if_pos d, if_pos d]
      simp only [pr1_mk]
      refine ih N' _ _ _ _ _ _ _ _ _ _ _ _ _ _ _ _ _ _ (by omega) (by omega) (by omega) (by omega) (by omega) (by rw [t0, h6]) (fun q => h7 (i32_eq.mpr (by have := i32_eq.mp q; rw [z0I] at this ⊢; omega))) (fun q => ?_) hs2
      have x4n : ¬ x4 = 0 := fun w => q (by rw [w]; decide)
      rw [h8 x4n, t5 x4n, hq5, Int32.add_assoc, Int32.add_comm 1 x5]
    · rw [if_neg d, if_neg d]
      simp only [pr1_mk]
      refine ih N' _ _ _ _ _ _ _ _ _ _ _ _ _ _ _ _ _ _ (by omega) (by omega) (by omega) (by omega) (by omega) (by rw [t1, h6]) (fun q => absurd (i32_eq.mp q) (by rw [z0I]; omega)) (fun q => ?_) hs2
      rw [t2, hq5, Int32.zero_add]
theorem neg_sort {i : Nat} (hS : RS sit ssr ssi mso msz mnu) (hi : i < 4) : (ssr i = -1 ↔ ¬ (0 : Int32) ≤ mso i) ∧ (ssr i = -1 ↔ mso i < 0) := by
  obtain ⟨⟨q1, -⟩, q3, -⟩ := hS.2.2 i hi
  rw [← q1, i32_eq, i32_le, i32_lt, z0I, show (-1 : Int32).toInt = -1 from rfl]
  constructor <;> constructor <;> intro q <;> omega
theorem e_fits {mas : Nat → Int32} {tlw tkd tbt tph tcn tno : Nat → Int32} {tct tsc trn tlg tdn tzz : Int32} (h : RT lw kd bt ph cn no ct sc rn lg dn zz s) (hS : RS sit ssr ssi mso msz mnu) (x1 x2 x3 : Int32) : (f_X5_fits lw kd bt ph cn no ct sc rn lg dn zz tlw tkd tbt tph tcn tno tct tsc trn tlg tdn tzz sit ssr ssi x1 x2 x3).1 = (f_X6_fits s mas mso msz mnu x1 x2 x3).1 ∧ ∀ k, k < 50 → (f_X6_fits s mas mso msz mnu x1 x2 x3).2.1 k = s k := by
  unfold f_X5_fits f_X6_fits f_X5_isSheet f_X6_isSheet
  rw [isin_eq (x := x1) (l := 0) (h := 3) rfl rfl, rt_has h, isin_eq (x := x3) (l := 0) (h := 1) rfl rfl]
  by_cases c1 : f_X5_isIn x1 0 3 = 0
  · rw [if_pos c1, if_pos c1]; exact ⟨rfl, fun _ _ => rfl⟩
  · rw [if_neg c1, if_neg c1]
    have hv := in_isIn4 c1
    have hvn : x1.toNatClampNeg < 4 := by have := vp_in_iff.mp hv; have := cl_nn this.1; omega
    by_cases c2 : f_X4_has ct x2 = 0
    · rw [if_pos c2, if_pos c2]; exact ⟨rfl, fun _ _ => rfl⟩
    · rw [if_neg c2, if_neg c2]
      have hx := rt_in h c2
      by_cases c3 : f_X5_isIn x3 0 1 = 0
      · rw [if_pos c3, if_pos c3]; exact ⟨rfl, fun _ _ => rfl⟩
      · rw [if_neg c3, if_neg c3]
        by_cases c4 : ssr x1.toNatClampNeg = -1
        · rw [if_pos c4, if_neg ((neg_sort hS hvn).1.mp c4)]; exact ⟨rfl, fun _ _ => rfl⟩
        · rw [if_neg c4, if_pos (Decidable.byContradiction (fun q => c4 ((neg_sort hS hvn).1.mpr q)))]
          have ei := its_ix (o := x2) (w := 2) hx.1 hx.2.2 (by decide) (by decide)
          rw [show (2 : Int32).toNatClampNeg = 2 from rfl] at ei
          have hp := fitsL (x1 := x1) (x2 := x2) h hS hv ⟨hx.1, hx.2.1⟩ ei 9 300 0 8 0 (-3) tlw tkd tbt tph tcn tno tct tsc trn tlg tdn tzz s mas (by decide) (by decide) (by decide) (by decide) (by decide) (by decide) (fun _ => rfl) (fun q => absurd rfl q) (fun _ _ _ => rfl)
          rw [ei]
          generalize l_X5_fits_52 lw kd bt ph cn no ct sc rn lg dn zz sit ssi x1 x2 300 0 8 tlw tkd tbt tph tcn tno tct tsc trn tlg tdn tzz = p at hp ⊢
          obtain ⟨p0, p1, p2, p3, p4, p5, p6, p7, p8, p9, p10, p11, p12, p13⟩ := p
          generalize l_X6_fits_69 msz mnu x1 (((10 : Int32) + ((5 : Int32) * x2)) + 2) 300 0 (-3) 8 s mas = q at hp ⊢
          obtain ⟨q0, q1, q2, q3, q4⟩ := q
          obtain ⟨⟨a1, a2⟩, a3⟩ := hp
          have a1' : q0 = f_J6_bitCount_0f7a4 p0 := a1
          have a2' : q1 = if p0 = 0 then -3 else f_J6_numberOfTrailingZeros_0f7a4 p0 := a2
          have hb : ∀ k, k < 50 → upd q3 (10 + 5 * x2.toNatClampNeg + 2) (s (10 + 5 * x2.toNatClampNeg + 2)) k = s k := fun k hk => by
            by_cases e : k = 10 + 5 * x2.toNatClampNeg + 2
            · rw [e, pk_us]
            · rw [pk_un e]; exact a3 k hk e
          rw [pr14_mk, pr5_mk]
          by_cases d : x3 = 0
          · rw [if_pos d, if_pos d]; exact ⟨a1'.symm, hb⟩
          · rw [if_neg d, if_neg d]
            by_cases f : p0 = 0
            · rw [if_pos f] at a2' ⊢; exact ⟨a2'.symm, hb⟩
            · rw [if_neg f] at a2' ⊢; exact ⟨a2'.symm, hb⟩
end PU14
/-! sheets, shelves, odds, the tape -/
theorem within_eq {x : Int32} : (if (0 : Int32) < (if x < (8 : Int32) then x else (8 : Int32)) then (if x < (8 : Int32) then x else (8 : Int32)) else (0 : Int32)) = f_X6_within x ∧ 0 ≤ (f_X6_within x).toInt ∧ (f_X6_within x).toInt ≤ 8 := by
  unfold f_X6_within
  have e8 : (8 : Int32).toInt = 8 := rfl
  by_cases c0 : (0 : Int32) ≤ x
  · have c0' := i32_le.mp c0
    rw [z0I] at c0'
    rw [if_pos c0]
    by_cases c1 : x < (8 : Int32)
    · have c1' := i32_lt.mp c1
      rw [e8] at c1'
      have c2 : x ≤ (8 : Int32) := i32_le.mpr (by rw [e8]; omega)
      rw [if_pos c1, if_pos c2]
      refine ⟨?_, by omega, by omega⟩
      by_cases c3 : (0 : Int32) < x
      · rw [if_pos c3]
      · rw [if_neg c3]
        rw [i32_lt, z0I] at c3
        exact i32_eq.mpr (by rw [z0I]; omega)
    · rw [if_neg c1, if_pos (by decide)]
      rw [i32_lt, e8] at c1
      by_cases c2 : x ≤ (8 : Int32)
      · have c2' := i32_le.mp c2
        rw [e8] at c2'
        rw [if_pos c2]
        exact ⟨i32_eq.mpr (by rw [e8]; omega), by omega, by omega⟩
      · rw [if_neg c2]
        exact ⟨rfl, by decide, by decide⟩
  · rw [if_neg c0]
    rw [i32_le, z0I] at c0
    have c1 : x < (8 : Int32) := i32_lt.mpr (by rw [e8]; omega)
    rw [if_pos c1, if_neg (by rw [i32_lt, z0I]; omega)]
    exact ⟨rfl, by decide, by decide⟩
section PU15
variable {lw kd bt cn no : Nat → Int32} {ct sc rn lg dn zz : Int32} {sit : Nat → Nat → Int64} {mso msz mnu ssr ssi : Nat → Int32}
theorem mindsL {x1 x2 x3 x4 : Int32} (hS : RS sit ssr ssi mso msz mnu) (hv : vp_in x1 4) (h3 : 0 ≤ x3.toInt ∧ x3.toInt + x4.toInt ≤ ct.toInt ∧ x4.toInt ≤ 8) (h2 : 0 ≤ x2.toInt ∧ x2.toInt + x4.toInt ≤ 40) : ∀ (N : Nat) (x6 : Int32) (ph s : Nat → Int32), RT lw kd bt ph cn no ct sc rn lg dn zz s → 0 ≤ x6.toInt → RT lw kd bt (l_X5_minds_107 sit x1 x2 x3 x4 N x6 ph).2 cn no ct sc rn lg dn zz (l_X6_minds_98 mnu x1 x2 x3 x4 N x6 s).2 := by
  have hv' := vp_in_iff.mp hv
  have hvn : x1.toNatClampNeg < 4 := by have := cl_nn hv'.1; omega
  obtain ⟨-, -, q4⟩ := hS.2.2 _ hvn
  intro N
  induction N with
  | zero => intro x6 ph s h _; rw [l_X5_minds_107, l_X6_minds_98]; exact h
  | succ N ih =>
    intro x6 ph s h h0
    rw [l_X5_minds_107, l_X6_minds_98]
    by_cases c : x4 ≤ x6
    · rw [if_pos c, if_pos c]; exact h
    · rw [if_neg c, if_neg c]
      have c' : x6.toInt < x4.toInt := by have := mt i32_le.mpr c; omega
      have hct := h.2.2.1
      have e1 := i32_add1 (i := x6) (by omega)
      have e2 : (x2 + x6).toInt = x2.toInt + x6.toInt := i32_addE (by omega) (by omega)
      have e3 : (x3 + x6).toInt = x3.toInt + x6.toInt := i32_addE (by omega) (by omega)
      have ei := its_ix (o := x3 + x6) (w := 2) (by omega) (by omega) (by decide) (by decide)
      rw [show (2 : Int32).toNatClampNeg = 2 from rfl] at ei
      obtain ⟨n1, n2, n3⟩ := nu_ix hv (show 0 ≤ (x2 + x6).toInt by omega) (show (x2 + x6).toInt < 40 by omega)
      have ea : (40 : Int32) * x1 + x2 + x6 = (40 : Int32) * x1 + (x2 + x6) := Int32.add_assoc _ _ _
      have hw := within_eq (x := mnu (40 * x1.toNatClampNeg + (x2 + x6).toNatClampNeg))
      rw [q4 _ n3, Int32.toInt32_toInt64, ea, n1, ei, hw.1]
      exact ih _ _ _ (rt_ph h (by rw [cl_nn (by omega)]; omega) hw.2) (by omega)
theorem lacks_eq {i x1 x2 : Int32} (hS : RS sit ssr ssi mso msz mnu) (hv : vp_in x1 4) (h2 : 0 ≤ x2.toInt) : f_X6_lacks mso x1 x2 = if ssr x1.toNatClampNeg = -1 then -11 else if ssr x1.toNatClampNeg = x2 then 0 else -13 := by
  have hv' := vp_in_iff.mp hv
  have hvn : x1.toNatClampNeg < 4 := by have := cl_nn hv'.1; omega
  obtain ⟨⟨q1, -⟩, -, -⟩ := hS.2.2 _ hvn
  unfold f_X6_lacks
  by_cases c : ssr x1.toNatClampNeg = -1
  · rw [if_pos c, if_neg ((neg_sort hS hvn).1.mp c)]
  · rw [if_neg c, if_pos (Decidable.byContradiction (fun q => c ((neg_sort hS hvn).1.mpr q))), q1]
theorem e_minds {ph s : Nat → Int32} (h : RT lw kd bt ph cn no ct sc rn lg dn zz s) (hS : RS sit ssr ssi mso msz mnu) (x1 x2 x3 x4 : Int32) : (f_X5_minds ph ct sit ssr ssi x1 x2 x3 x4).1 = (f_X6_minds s mso msz mnu x1 x2 x3 x4).1 ∧ RT lw kd bt (f_X5_minds ph ct sit ssr ssi x1 x2 x3 x4).2 cn no ct sc rn lg dn zz (f_X6_minds s mso msz mnu x1 x2 x3 x4).2 := by
  unfold f_X5_minds f_X6_minds f_X5_isSheet f_X6_isSheet
  rw [isin_eq (x := x1) (l := 0) (h := 3) rfl rfl, rt_has h, isin_eq (x := x4) (l := 0) (h := 8) rfl rfl, h.1.1]
  by_cases c1 : f_X5_isIn x1 0 3 = 0
  · rw [if_pos c1, if_pos c1]; exact ⟨rfl, h⟩
  · rw [if_neg c1, if_neg c1]
    have hv := in_isIn4 c1
    have hv' := vp_in_iff.mp hv
    have hvn : x1.toNatClampNeg < 4 := by have := cl_nn hv'.1; omega
    obtain ⟨⟨-, q2⟩, -, -⟩ := hS.2.2 _ hvn
    by_cases c2 : f_X4_has ct x3 = 0
    · rw [if_pos c2, if_pos c2]; exact ⟨rfl, h⟩
    · rw [if_neg c2, if_neg c2]
      have hx := rt_in h c2
      by_cases c3 : f_X5_isIn x4 0 8 = 0
      · rw [if_pos c3, if_pos c3]; exact ⟨rfl, h⟩
      · rw [if_neg c3, if_neg c3]
        have a3 := in_isIn c3
        rw [z0I, show (8 : Int32).toInt = 8 from rfl] at a3
        by_cases c4 : x3 + x4 ≤ ct
        · rw [if_pos c4, if_pos c4, lacks_eq (i := 0) hS hv (by decide)]
          have e34 : (x3 + x4).toInt = x3.toInt + x4.toInt := i32_addE (by omega) (by omega)
          have c4' := i32_le.mp c4
          by_cases c5 : ssr x1.toNatClampNeg = -1
          · rw [if_pos c5, if_pos c5, if_neg (by decide)]; exact ⟨rfl, h⟩
          · rw [if_neg c5, if_neg c5]
            by_cases c6 : ssr x1.toNatClampNeg = 0
            · rw [if_pos c6, if_pos c6, if_pos rfl, isin_eq (x := x2) (l := 0) (h := msz x1.toNatClampNeg) rfl (Int32.toInt_toInt64 _), ← q2]
              by_cases c7 : f_X5_isIn x2 0 (ssi x1.toNatClampNeg) = 0
              · rw [if_pos c7, if_pos c7]; exact ⟨rfl, h⟩
              · rw [if_neg c7, if_neg c7]
                have a7 := in_isIn c7
                rw [z0I] at a7
                have b7 := hS.1 x1.toNatClampNeg
                have e24 : (x2 + x4).toInt = x2.toInt + x4.toInt := i32_addE (by omega) (by omega)
                have e24' : (x2.toInt64 + x4.toInt64).toInt = x2.toInt + x4.toInt := by
                  rw [i64_addE (by rw [Int32.toInt_toInt64, Int32.toInt_toInt64]; omega) (by rw [Int32.toInt_toInt64, Int32.toInt_toInt64]; omega), Int32.toInt_toInt64, Int32.toInt_toInt64]
                by_cases c8 : x2 + x4 ≤ ssi x1.toNatClampNeg
                · have c8' := i32_le.mp c8
                  have c9 : lg_cmp (x2.toInt64 + x4.toInt64) (ssi x1.toNatClampNeg).toInt64 ≤ 0 := by
                    rw [← Int32.not_lt, lgc_gt, e24', Int32.toInt_toInt64]; omega
                  rw [if_pos c8, if_pos c9]
                  have hp := mindsL (x1 := x1) (x2 := x2) (x3 := x3) (x4 := x4) hS hv ⟨hx.1, by omega, a3.2⟩ ⟨a7.1, by omega⟩ 300 0 ph s h (by decide)
                  generalize l_X5_minds_107 sit x1 x2 x3 x4 300 0 ph = p at hp ⊢
                  obtain ⟨p0, p1⟩ := p
                  generalize l_X6_minds_98 mnu x1 x2 x3 x4 300 0 s = r at hp ⊢
                  obtain ⟨r0, r1⟩ := r
                  rw [pr2_mk, pr2_mk]
                  exact ⟨rfl, hp⟩
                · have c8' := mt i32_le.mpr c8
                  have c9 : ¬ lg_cmp (x2.toInt64 + x4.toInt64) (ssi x1.toNatClampNeg).toInt64 ≤ 0 := by
                    rw [Int32.not_le, lgc_gt, e24', Int32.toInt_toInt64]; omega
                  rw [if_neg c8, if_neg c9]; exact ⟨rfl, h⟩
            · rw [if_neg c6, if_neg c6, if_neg (by decide)]; exact ⟨rfl, h⟩
        · rw [if_neg c4, if_neg c4]; exact ⟨rfl, h⟩
theorem e_item (hS : RS sit ssr ssi mso msz mnu) (x1 x2 x3 : Int32) : f_X5_item sit ssr ssi x1 x2 x3 = f_X6_item mso msz mnu x1 x2 x3 := by
  unfold f_X5_item f_X6_item f_X5_isSheet f_X6_isSheet
  rw [isin_eq (x := x1) (l := 0) (h := 3) rfl rfl, isin_eq (x := x2) (l := 0) (h := 3) rfl rfl]
  by_cases c1 : f_X5_isIn x1 0 3 = 0
  · rw [if_pos c1, if_pos c1]
  · rw [if_neg c1, if_neg c1]
    have hv := in_isIn4 c1
    have hv' := vp_in_iff.mp hv
    have hvn : x1.toNatClampNeg < 4 := by have := cl_nn hv'.1; omega
    obtain ⟨⟨-, q2⟩, -, q4⟩ := hS.2.2 _ hvn
    by_cases c2 : f_X5_isIn x2 0 3 = 0
    · rw [if_pos c2, if_pos c2]
    · rw [if_neg c2, if_neg c2, lacks_eq (i := 0) hS hv (by have := (in_isIn c2).1; rw [z0I] at this; exact this)]
      by_cases c5 : ssr x1.toNatClampNeg = -1
      · rw [if_pos c5, if_pos c5, if_neg (by decide)]
      · rw [if_neg c5, if_neg c5]
        by_cases c6 : ssr x1.toNatClampNeg = x2
        · rw [if_pos c6, if_pos c6, if_pos rfl, isin_eq (x := x3) (l := 0) (h := msz x1.toNatClampNeg - 1) rfl (Int32.toInt_toInt64 _), ← q2]
          by_cases c7 : f_X5_isIn x3 0 (ssi x1.toNatClampNeg - 1) = 0
          · rw [if_pos c7, if_pos c7]
          · rw [if_neg c7, if_neg c7]
            have a7 := in_isIn c7
            have b7 := hS.1 x1.toNatClampNeg
            rw [i32_sub1 b7.1, z0I] at a7
            obtain ⟨n1, -, n3⟩ := nu_ix hv a7.1 (show x3.toInt < 40 by omega)
            rw [q4 _ n3, Int32.toInt32_toInt64, n1]
        · rw [if_neg c6, if_neg c6, if_neg (by decide)]
theorem updL_at {f : Nat → Int64} {k j : Nat} {v : Int64} : vp_updL f k v j = if j = k then v else f j := rfl
theorem upS_at {f : Nat → Nat → Int64} {k j : Nat} {r : Nat → Int64} : upS f k r j = if j = k then r else f j := rfl
theorem rs_put {t k : Nat} {v : Int32} (hS : RS sit ssr ssi mso msz mnu) (ht : t < 4) (hk : k < 40) : RS (upS sit t (vp_updL (sit t) k v.toInt64)) ssr ssi mso msz (upd mnu (40 * t + k) v) := by
  refine ⟨hS.1, hS.2.1, fun i hi => ?_⟩
  obtain ⟨q1, q3, q4⟩ := hS.2.2 i hi
  refine ⟨q1, q3, fun j hj => ?_⟩
  rw [upS_at]
  by_cases e : i = t
  · subst e
    rw [if_pos rfl, updL_at]
    by_cases f : j = k
    · subst f; rw [if_pos rfl, pk_us]
    · rw [if_neg f, pk_un (by omega)]; exact q4 j hj
  · rw [if_neg e, pk_un (by omega)]; exact q4 j hj
theorem e_put (hS : RS sit ssr ssi mso msz mnu) (x1 x2 x3 : Int32) : (f_X5_put sit ssr ssi x1 x2 x3).1 = (f_X6_put mso msz mnu x1 x2 x3).1 ∧ RS (f_X5_put sit ssr ssi x1 x2 x3).2 ssr ssi mso msz (f_X6_put mso msz mnu x1 x2 x3).2 := by
  unfold f_X5_put f_X6_put f_X5_isSheet f_X6_isSheet f_X1_narrowed
  rw [isin_eq (x := x1) (l := 0) (h := 3) rfl rfl]
  by_cases c1 : f_X5_isIn x1 0 3 = 0
  · rw [if_pos c1, if_pos c1]; exact ⟨rfl, hS⟩
  · rw [if_neg c1, if_neg c1]
    have hv := in_isIn4 c1
    have hv' := vp_in_iff.mp hv
    have hvn : x1.toNatClampNeg < 4 := by have := cl_nn hv'.1; omega
    obtain ⟨⟨q1, q2⟩, -, q4⟩ := hS.2.2 _ hvn
    by_cases c5 : ssr x1.toNatClampNeg = -1
    · rw [if_pos c5, if_neg ((neg_sort hS hvn).1.mp c5)]; exact ⟨rfl, hS⟩
    · rw [if_neg c5, if_pos (Decidable.byContradiction (fun q => c5 ((neg_sort hS hvn).1.mpr q))), isin_eq (x := x2) (l := 0) (h := msz x1.toNatClampNeg - 1) rfl (Int32.toInt_toInt64 _), ← q2]
      by_cases c7 : f_X5_isIn x2 0 (ssi x1.toNatClampNeg - 1) = 0
      · rw [if_pos c7, if_pos c7]; exact ⟨rfl, hS⟩
      · rw [if_neg c7, if_neg c7]
        have a7 := in_isIn c7
        have b7 := hS.1 x1.toNatClampNeg
        rw [i32_sub1 b7.1, z0I] at a7
        obtain ⟨n1, -, n3⟩ := nu_ix hv a7.1 (show x2.toInt < 40 by omega)
        rw [n1, ← q1, pr1_mk]
        refine ⟨rfl, ?_⟩
        by_cases d0 : ssr x1.toNatClampNeg = 0
        · rw [if_pos d0, if_pos d0]; exact rs_put hS hvn n3
        · rw [if_neg d0, if_neg d0]
          by_cases d1 : ssr x1.toNatClampNeg = 1
          · rw [if_pos d1, if_pos d1]; exact rs_put hS hvn n3
          · rw [if_neg d1, if_neg d1]; exact rs_put hS hvn n3
end PU15
theorem becomeL : ∀ (N : Nat) (x3 : Int32) (it : Nat → Int64), 0 ≤ x3.toInt → x3.toInt ≤ 40 → ((40 : Int) - x3.toInt).toNat < N → (∀ k : Nat, (k : Int) < x3.toInt → it k = 0) → ∀ k : Nat, k < 40 → (l_X1_become_21 N x3 it).2 k = 0 := by
  intro N
  induction N with
  | zero => intro x3 it _ _ h; exact absurd h (Nat.not_lt_zero _)
  | succ N ih =>
    intro x3 it h0 h1 hm hq k hk
    rw [l_X1_become_21]
    by_cases c : (40 : Int32) ≤ x3
    · rw [if_pos c]
      rw [i32_le, show (40 : Int32).toInt = 40 from rfl] at c
      exact hq k (by omega)
    · rw [if_neg c]
      have hs := cnt_step (B := 40) h0 (by decide) (by decide) c
      have e1 := i32_add1 (i := x3) (by omega)
      have ec := cl_nn h0
      refine ih _ _ hs.1 hs.2.1 (by omega) (fun j hj => ?_) k hk
      rw [updL_at]
      by_cases ej : j = x3.toNatClampNeg
      · rw [if_pos ej]
      · rw [if_neg ej]; exact hq j (by omega)
theorem sheetL {x1 : Int32} (hv : vp_in x1 4) : ∀ (N : Nat) (x4 : Int32) (mnu : Nat → Int32), 0 ≤ x4.toInt → x4.toInt ≤ 40 → ((40 : Int) - x4.toInt).toNat < N → ∀ i k : Nat, i < 4 → k < 40 → (l_X6_sheet_69 x1 N x4 mnu).2 (40 * i + k) = if i = x1.toNatClampNeg ∧ x4.toInt ≤ k then 0 else mnu (40 * i + k) := by
  intro N
  induction N with
  | zero => intro x4 mnu _ _ h; exact absurd h (Nat.not_lt_zero _)
  | succ N ih =>
    intro x4 mnu h0 h1 hm i k hi hk
    rw [l_X6_sheet_69]
    by_cases c : (40 : Int32) ≤ x4
    · rw [if_pos c]
      rw [i32_le, show (40 : Int32).toInt = 40 from rfl] at c
      rw [if_neg (by omega)]
    · rw [if_neg c]
      have hs := cnt_step (B := 40) h0 (by decide) (by decide) c
      have e1 := i32_add1 (i := x4) (by omega)
      have ec := cl_nn h0
      obtain ⟨n1, n2, n3⟩ := nu_ix hv h0 hs.2.2.2
      rw [ih _ _ hs.1 hs.2.1 (by omega) i k hi hk, n1, e1]
      by_cases e : i = x1.toNatClampNeg
      · by_cases f : x4.toInt ≤ k
        · by_cases g : k = x4.toNatClampNeg
          · rw [if_neg (show ¬ (i = x1.toNatClampNeg ∧ x4.toInt + 1 ≤ (k : Int)) by omega), if_pos (show i = x1.toNatClampNeg ∧ x4.toInt ≤ (k : Int) from ⟨e, f⟩), e, g, pk_us]
          · rw [if_pos (show i = x1.toNatClampNeg ∧ x4.toInt + 1 ≤ (k : Int) from ⟨e, by omega⟩), if_pos (show i = x1.toNatClampNeg ∧ x4.toInt ≤ (k : Int) from ⟨e, f⟩)]
        · rw [if_neg (show ¬ (i = x1.toNatClampNeg ∧ x4.toInt + 1 ≤ (k : Int)) by omega), if_neg (show ¬ (i = x1.toNatClampNeg ∧ x4.toInt ≤ (k : Int)) by omega), pk_un (by omega)]
      · rw [if_neg (fun q => e q.1), if_neg (fun q => e q.1), pk_un (by omega)]
section PU16
variable {sit : Nat → Nat → Int64} {mso msz mnu ssr ssi : Nat → Int32}
theorem rs_become {x1 x2 j : Int32} {it : Nat → Int64} {nu : Nat → Int32} (hS : RS sit ssr ssi mso msz mnu) (hv : vp_in x1 4) (h2 : -1 ≤ x2.toInt ∧ x2.toInt ≤ 3) (hj : 0 ≤ j.toInt ∧ j.toInt ≤ 40) (hit : ∀ k, k < 40 → it k = 0) (hnu : ∀ i k : Nat, i < 4 → k < 40 → nu (40 * i + k) = if i = x1.toNatClampNeg ∧ (0 : Int32).toInt ≤ k then 0 else mnu (40 * i + k)) : RS (upS sit x1.toNatClampNeg it) (upd ssr x1.toNatClampNeg x2) (upd ssi x1.toNatClampNeg j) (upd mso x1.toNatClampNeg x2) (upd msz x1.toNatClampNeg j) nu := by
  refine ⟨fun i => ?_, fun i => ?_, fun i hi => ?_⟩
  · by_cases e : i = x1.toNatClampNeg
    · rw [e, pk_us]; exact hj
    · rw [pk_un e]; exact hS.1 i
  · by_cases e : i = x1.toNatClampNeg
    · rw [e, pk_us]; exact hj
    · rw [pk_un e]; exact hS.2.1 i
  · obtain ⟨q1, q3, q4⟩ := hS.2.2 i hi
    by_cases e : i = x1.toNatClampNeg
    · refine ⟨?_, ?_, fun k hk => ?_⟩
      · rw [e, pk_us, pk_us, pk_us, pk_us]; exact ⟨rfl, rfl⟩
      · rw [e, pk_us]; exact h2
      · rw [hnu i k hi hk, if_pos ⟨e, by rw [z0I]; omega⟩, upS_at, if_pos e, hit k hk]; decide
    · refine ⟨?_, ?_, fun k hk => ?_⟩
      · rw [pk_un e, pk_un e, pk_un e, pk_un e]; exact q1
      · rw [pk_un e]; exact q3
      · rw [hnu i k hi hk, if_neg (fun q => e q.1), upS_at, if_neg e]; exact q4 k hk
theorem clip40 {x : Int32} (h0 : 0 ≤ x.toInt) (h : x.toInt ≤ 40) : (if (0 : Int32) < (if x < (40 : Int32) then x else (40 : Int32)) then (if x < (40 : Int32) then x else (40 : Int32)) else (0 : Int32)) = x := by
  have e40 : (40 : Int32).toInt = 40 := rfl
  by_cases c1 : x < (40 : Int32)
  · rw [if_pos c1]
    by_cases c2 : (0 : Int32) < x
    · rw [if_pos c2]
    · rw [if_neg c2]
      rw [i32_lt, z0I] at c2
      exact i32_eq.mpr (by rw [z0I]; omega)
  · rw [if_neg c1, if_pos (by decide)]
    rw [i32_lt, e40] at c1
    exact i32_eq.mpr (by rw [e40]; omega)
theorem e_sheet (hS : RS sit ssr ssi mso msz mnu) (x1 x2 x3 : Int32) : (f_X5_sheet sit ssr ssi x1 x2 x3).1 = (f_X6_sheet mso msz mnu x1 x2 x3).1 ∧ RS (f_X5_sheet sit ssr ssi x1 x2 x3).2.1 (f_X5_sheet sit ssr ssi x1 x2 x3).2.2.1 (f_X5_sheet sit ssr ssi x1 x2 x3).2.2.2 (f_X6_sheet mso msz mnu x1 x2 x3).2.1 (f_X6_sheet mso msz mnu x1 x2 x3).2.2.1 (f_X6_sheet mso msz mnu x1 x2 x3).2.2.2 := by
  unfold f_X5_sheet f_X6_sheet f_X5_isSheet f_X6_isSheet f_X1_become
  rw [isin_eq (x := x1) (l := 0) (h := 3) rfl rfl, isin_eq (x := x2) (l := -1) (h := 3) rfl rfl]
  by_cases c1 : f_X5_isIn x1 0 3 = 0
  · rw [if_pos c1, if_pos c1]; exact ⟨rfl, hS⟩
  · rw [if_neg c1, if_neg c1]
    have hv := in_isIn4 c1
    by_cases c2 : f_X5_isIn x2 (-1) 3 = 0
    · rw [if_pos c2, if_pos c2]; exact ⟨rfl, hS⟩
    · rw [if_neg c2, if_neg c2]
      have a2 := in_isIn c2
      rw [show (-1 : Int32).toInt = -1 from rfl, show (3 : Int32).toInt = 3 from rfl] at a2
      have hb := becomeL 300 0 (sit x1.toNatClampNeg) (by decide) (by decide) (by decide) (fun k hk => by rw [z0I] at hk; omega)
      have hl := sheetL hv 300 0 mnu (by decide) (by decide) (by decide)
      generalize l_X1_become_21 300 0 (sit x1.toNatClampNeg) = p at hb ⊢
      obtain ⟨p0, p1⟩ := p
      generalize l_X6_sheet_69 x1 300 0 mnu = q at hl ⊢
      obtain ⟨q0, q1⟩ := q
      simp only [pr2_mk, pr3_mk]
      by_cases c3 : x2 = -1
      · have c4 : x2 < 0 := by rw [c3]; decide
        have c5 : ¬ (0 : Int32) ≤ x2 := by rw [c3]; decide
        rw [if_pos c3, if_pos c3, if_pos c3, if_pos c4, if_pos c4, if_neg c5, pr1_mk, pr1_mk, clip40 (by decide) (by decide)]
        exact ⟨rfl, rs_become hS hv a2 (by decide) hb hl⟩
      · have c3' : ¬ x2.toInt = -1 := fun q => c3 (i32_eq.mpr q)
        have c4 : ¬ x2 < 0 := by rw [i32_lt, z0I]; omega
        have c5 : (0 : Int32) ≤ x2 := by rw [i32_le, z0I]; omega
        rw [if_neg c3, if_neg c3, if_neg c3, if_neg c4, if_neg c4, if_pos c5]
        by_cases c6 : x3 ≤ (40 : Int32)
        · rw [if_pos c6, if_pos c6]
          by_cases c7 : (0 : Int32) ≤ x3
          · have c6' := i32_le.mp c6
            have c7' := i32_le.mp c7
            rw [show (40 : Int32).toInt = 40 from rfl] at c6'
            rw [z0I] at c7'
            rw [if_pos c7, if_pos c7, pr1_mk, pr1_mk, clip40 c7' c6']
            exact ⟨rfl, rs_become hS hv a2 ⟨c7', c6'⟩ hb hl⟩
          · rw [if_neg c7, if_neg c7]; exact ⟨rfl, hS⟩
        · rw [if_neg c6, if_neg c6]; exact ⟨rfl, hS⟩
end PU16
/-- the shelves -/
def RH (shw shn shs shz mhw mhh mhm : Nat → Int32) : Prop := ∀ i : Nat, i < 4 → (shw i = 0 ∧ mhw i = 1 ∧ mhh i = shn i) ∨ (shw i = 1 ∧ mhw i = 2 ∧ mhh i = shs i ∧ mhm i = shz i) ∨ (shw i = 2 ∧ mhw i = 0)
theorem under_tab : ∀ a b : Fin 6, f_X5_isUnder (Int32.ofNat a.val) (Int32.ofNat b.val) = f_X6_isUnder (Int32.ofNat a.val) (Int32.ofNat b.val) := by decide +kernel
theorem under_eq {a b : Int32} (ha : 0 ≤ a.toInt ∧ a.toInt ≤ 5) (hb : 0 ≤ b.toInt ∧ b.toInt ≤ 5) : f_X5_isUnder a b = f_X6_isUnder a b := by
  obtain ⟨m, e1, _⟩ := ofI (x := a) (B := 6) ha.1 (by omega)
  obtain ⟨n, e2, _⟩ := ofI (x := b) (B := 6) hb.1 (by omega)
  rw [e1, e2]
  exact under_tab m n
section PU17
variable {lw kd bt ph cn no s : Nat → Int32} {ct sc rn lg dn zz : Int32} {sit : Nat → Nat → Int64} {mso msz mnu ssr ssi shw shn shs shz mhw mhh mhm : Nat → Int32}
theorem rh_upd {t : Nat} {w n z y a b c : Int32} (hH : RH shw shn shs shz mhw mhh mhm) (h : (w = 0 ∧ a = 1 ∧ b = n) ∨ (w = 1 ∧ a = 2 ∧ b = z ∧ c = y) ∨ (w = 2 ∧ a = 0)) : RH (upd shw t w) (upd shn t n) (upd shs t z) (upd shz t y) (upd mhw t a) (upd mhh t b) (upd mhm t c) := by
  intro i hi
  by_cases e : i = t
  · subst e
    rw [pk_us, pk_us, pk_us, pk_us, pk_us, pk_us, pk_us]; exact h
  · rw [pk_un e, pk_un e, pk_un e, pk_un e, pk_un e, pk_un e, pk_un e]; exact hH i hi
theorem upd_id {f : Nat → Int32} {k : Nat} : upd f k (f k) = f := funext (fun j => upd_self rfl j)
theorem e_shelf (h : RT lw kd bt ph cn no ct sc rn lg dn zz s) (hS : RS sit ssr ssi mso msz mnu) (hH : RH shw shn shs shz mhw mhh mhm) (x1 x2 x3 : Int32) : (f_X5_shelf ct ssr ssi shw shn shs shz x1 x2 x3).1 = (f_X6_shelf s mso msz mhw mhh mhm x1 x2 x3).1 ∧ RH (f_X5_shelf ct ssr ssi shw shn shs shz x1 x2 x3).2.1 (f_X5_shelf ct ssr ssi shw shn shs shz x1 x2 x3).2.2.1 (f_X5_shelf ct ssr ssi shw shn shs shz x1 x2 x3).2.2.2.1 (f_X5_shelf ct ssr ssi shw shn shs shz x1 x2 x3).2.2.2.2 (f_X6_shelf s mso msz mhw mhh mhm x1 x2 x3).2.1 (f_X6_shelf s mso msz mhw mhh mhm x1 x2 x3).2.2.1 (f_X6_shelf s mso msz mhw mhh mhm x1 x2 x3).2.2.2 := by
  unfold f_X5_shelf f_X6_shelf k_X5_shelf_47 f_X5_isSheet f_X6_isSheet f_X5_isShelf f_X6_isShelf f_X2_holdPerson f_X2_holdRow f_X2_holdNothing
  rw [isin_eq (x := x1) (l := 0) (h := 3) rfl rfl, isin_eq (x := x2) (l := 0) (h := 2) rfl rfl, rt_has h, isin_eq (x := x3) (l := 0) (h := 3) rfl rfl]
  by_cases c1 : f_X5_isIn x1 0 3 = 0
  · rw [if_pos c1, if_pos c1]; exact ⟨rfl, hH⟩
  · rw [if_neg c1, if_neg c1]
    by_cases c2 : f_X5_isIn x2 0 2 = 0
    · rw [if_pos c2, if_pos c2]; exact ⟨rfl, hH⟩
    · rw [if_neg c2, if_neg c2]
      simp only [pr1_mk, pr2_mk, pr3_mk]
      by_cases d0 : x2 = 0
      · have d1 : ¬ x2 = 1 := by rw [d0]; decide
        simp only [if_pos d0, if_neg d1]
        by_cases c3 : f_X4_has ct x3 = 0
        · rw [if_pos c3, if_pos c3]; exact ⟨rfl, hH⟩
        · rw [if_neg c3, if_neg c3, if_pos trivial]
          refine ⟨rfl, ?_⟩
          have q := rh_upd (t := x1.toNatClampNeg) (w := 0) (n := x3) (z := shs x1.toNatClampNeg) (y := shz x1.toNatClampNeg) (a := 1) (b := x3) (c := 0) hH (.inl ⟨rfl, rfl, rfl⟩)
          rw [upd_id, upd_id] at q
          exact q
      · by_cases d1 : x2 = 1
        · simp only [if_neg d0, if_pos d1]
          by_cases c3 : f_X5_isIn x3 0 3 = 0
          · rw [if_pos c3, if_pos c3]; exact ⟨rfl, hH⟩
          · rw [if_neg c3, if_neg c3]
            have hv := in_isIn4 c3
            have hvn : x3.toNatClampNeg < 4 := by have := vp_in_iff.mp hv; have := cl_nn this.1; omega
            obtain ⟨⟨q1, q2⟩, -, -⟩ := hS.2.2 _ hvn
            by_cases c4 : ssr x3.toNatClampNeg = -1
            · rw [if_pos c4, if_pos ((neg_sort hS hvn).2.mp c4)]
              simp only [if_pos]
              refine ⟨trivial, ?_⟩
              have q := rh_upd (t := x1.toNatClampNeg) (w := 2) (n := shn x1.toNatClampNeg) (z := shs x1.toNatClampNeg) (y := shz x1.toNatClampNeg) (a := 0) (b := 0) (c := 0) hH (.inr (.inr ⟨rfl, rfl⟩))
              rw [upd_id, upd_id, upd_id] at q
              exact q
            · rw [if_neg c4, if_neg (fun q => c4 ((neg_sort hS hvn).2.mpr q))]
              simp only [if_neg i1n0]
              refine ⟨trivial, ?_⟩
              have q := rh_upd (t := x1.toNatClampNeg) (w := 1) (n := shn x1.toNatClampNeg) (z := ssr x3.toNatClampNeg) (y := ssi x3.toNatClampNeg) (a := 2) (b := mso x3.toNatClampNeg) (c := msz x3.toNatClampNeg) hH (.inr (.inl ⟨rfl, rfl, q1.symm, q2.symm⟩))
              rw [upd_id] at q
              exact q
        · simp only [if_neg d0, if_neg d1, if_pos]
          refine ⟨trivial, ?_⟩
          have q := rh_upd (t := x1.toNatClampNeg) (w := 2) (n := shn x1.toNatClampNeg) (z := shs x1.toNatClampNeg) (y := shz x1.toNatClampNeg) (a := 0) (b := 0) (c := 0) hH (.inr (.inr ⟨rfl, rfl⟩))
          rw [upd_id, upd_id, upd_id] at q
          exact q
theorem takenT (h : RT lw kd bt ph cn no ct sc rn lg dn zz s) (hH : RH shw shn shs shz mhw mhh mhm) {x1 x2 : Int32} (hi : x1.toNatClampNeg < 4) (h2 : (0 ≤ x2.toInt ∧ x2.toInt ≤ 5) ∨ 10 ≤ x2.toInt) : (if ((f_X5_holdsPerson ct (shw (x1).toNatClampNeg) (shn (x1).toNatClampNeg)) = 0) then (if ((shw (x1).toNatClampNeg) = 1) then (if (x2 < 10) then (if ((f_X5_holdsPerson ct (shw (x1).toNatClampNeg) (shn (x1).toNatClampNeg)) = 0) then ((-13) : Int32) else (if ((f_X5_isUnder (kd ((shn (x1).toNatClampNeg)).toNatClampNeg) x2) = 0) then ((-13) : Int32) else (shn (x1).toNatClampNeg))) else (if ((f_X5_holdsPerson ct (shw (x1).toNatClampNeg) (shn (x1).toNatClampNeg)) = 0) then (if ((shs (x1).toNatClampNeg) = (x2 - 10)) then (shz (x1).toNatClampNeg) else ((-13) : Int32)) else ((-13) : Int32))) else ((-11) : Int32)) else (if (x2 < 10) then (if ((f_X5_holdsPerson ct (shw (x1).toNatClampNeg) (shn (x1).toNatClampNeg)) = 0) then ((-13) : Int32) else (if ((f_X5_isUnder (kd ((shn (x1).toNatClampNeg)).toNatClampNeg) x2) = 0) then ((-13) : Int32) else (shn (x1).toNatClampNeg))) else (if ((f_X5_holdsPerson ct (shw (x1).toNatClampNeg) (shn (x1).toNatClampNeg)) = 0) then (if ((shs (x1).toNatClampNeg) = (x2 - 10)) then (shz (x1).toNatClampNeg) else ((-13) : Int32)) else ((-13) : Int32)))) = (if ((f_X6_heldOn s mhw mhh x1) = 0) then ((-11) : Int32) else (if (10 ≤ x2) then (if ((f_X6_heldOn s mhw mhh x1) = 2) then (if ((mhh (x1).toNatClampNeg) = (x2 - 10)) then (mhm (x1).toNatClampNeg) else ((-13) : Int32)) else ((-13) : Int32)) else (if ((f_X6_heldOn s mhw mhh x1) = 1) then (if ((f_X6_isUnder (f_X6_its s (mhh (x1).toNatClampNeg) (0 : Int32)) x2) = 0) then ((-13) : Int32) else (mhh (x1).toNatClampNeg)) else ((-13) : Int32)))) := by
  have e10 : (10 : Int32).toInt = 10 := rfl
  unfold f_X5_holdsPerson f_X6_heldOn
  rcases hH _ hi with ⟨a, b, c⟩ | ⟨a, b, c, d⟩ | ⟨a, b⟩
  · rw [a, b, c, if_pos rfl, if_pos rfl, rt_has h]
    by_cases g : f_X4_has ct (shn x1.toNatClampNeg) = 0
    · simp only [if_pos g, if_pos]
      rw [if_neg (show ¬ (0 : Int32) = 1 by decide)]
    · have hx := rt_in h g
      have hp := rt_p h hx.1 hx.2.1
      have hk := hp.2.1
      obtain ⟨i0, -, -, -, -⟩ := rp_its hx.1 hx.2.2 hp
      simp only [if_neg g, if_neg i1n0]
      rw [if_neg (show ¬ (1 : Int32) = 2 by decide), if_pos trivial]
      by_cases f : x2 < 10
      · have f' := i32_lt.mp f
        rw [e10] at f'
        have f2 : ¬ (10 : Int32) ≤ x2 := by rw [i32_le, e10]; omega
        rw [if_pos f, if_neg f2, i0, under_eq hk (by omega)]
      · have f' : 10 ≤ x2.toInt := by rw [i32_lt, e10] at f; omega
        have f2 : (10 : Int32) ≤ x2 := by rw [i32_le, e10]; omega
        rw [if_neg f, if_pos f2]
  · rw [a, b, c, d]
    rw [if_neg i1n0, if_pos rfl, if_pos rfl, if_neg (show ¬ (2 : Int32) = 1 by decide), if_neg (show ¬ (2 : Int32) = 0 by decide), if_pos rfl, if_neg (show ¬ (2 : Int32) = 1 by decide)]
    by_cases f : x2 < 10
    · have f' := i32_lt.mp f
      rw [e10] at f'
      have f2 : ¬ (10 : Int32) ≤ x2 := by rw [i32_le, e10]; omega
      rw [if_pos f, if_neg f2]
    · have f' : 10 ≤ x2.toInt := by rw [i32_lt, e10] at f; omega
      have f2 : (10 : Int32) ≤ x2 := by rw [i32_le, e10]; omega
      rw [if_neg f, if_pos f2]
      simp
  · rw [a, b]
    rw [if_neg (show ¬ (2 : Int32) = 0 by decide), if_pos rfl, if_neg (show ¬ (2 : Int32) = 1 by decide), if_neg (show ¬ (0 : Int32) = 1 by decide), if_pos rfl]
theorem e_taken (h : RT lw kd bt ph cn no ct sc rn lg dn zz s) (hH : RH shw shn shs shz mhw mhh mhm) (x1 x2 : Int32) : f_X5_taken kd ct shw shn shs shz x1 x2 = f_X6_taken s mhw mhh mhm x1 x2 := by
  unfold f_X5_taken f_X6_taken f_X5_isShelf f_X6_isShelf f_X5_isKind
  rw [isin_eq (x := x1) (l := 0) (h := 3) rfl rfl, isin_eq (x := x2) (l := 0) (h := 13) rfl rfl, isin_eq (x := x2) (l := 6) (h := 9) rfl rfl]
  by_cases c1 : f_X5_isIn x1 0 3 = 0
  · rw [if_pos c1, if_pos c1]
  · rw [if_neg c1, if_neg c1]
    have hv := in_isIn4 c1
    have hvn : x1.toNatClampNeg < 4 := by have := vp_in_iff.mp hv; have := cl_nn this.1; omega
    have e5 : (5 : Int32).toInt = 5 := rfl
    have e6 : (6 : Int32).toInt = 6 := rfl
    have e9 : (9 : Int32).toInt = 9 := rfl
    have e10 : (10 : Int32).toInt = 10 := rfl
    have e13 : (13 : Int32).toInt = 13 := rfl
    by_cases k : 0 ≤ x2.toInt ∧ x2.toInt ≤ 5
    · rw [if_neg (show ¬ f_X5_isIn x2 0 5 = 0 by rw [isin_y ⟨by rw [z0I]; exact k.1, by rw [e5]; exact k.2⟩]; decide), if_neg (show ¬ f_X5_isIn x2 0 13 = 0 by rw [isin_y ⟨by rw [z0I]; exact k.1, by rw [e13]; omega⟩]; decide), if_pos (isin_n (x := x2) (l := 6) (h := 9) (by rw [e6]; omega))]
      exact takenT h hH hvn (.inl k)
    · rw [if_pos (isin_n (x := x2) (l := 0) (h := 5) (by rw [z0I, e5]; exact k))]
      by_cases m : 10 ≤ x2.toInt ∧ x2.toInt ≤ 13
      · rw [if_neg (show ¬ f_X5_isIn x2 10 13 = 0 by rw [isin_y ⟨by rw [e10]; exact m.1, by rw [e13]; exact m.2⟩]; decide), if_neg (show ¬ f_X5_isIn x2 0 13 = 0 by rw [isin_y ⟨by rw [z0I]; omega, by rw [e13]; omega⟩]; decide), if_pos (isin_n (x := x2) (l := 6) (h := 9) (by rw [e9]; omega))]
        exact takenT h hH hvn (.inr m.1)
      · rw [if_pos (isin_n (x := x2) (l := 10) (h := 13) (by rw [e10, e13]; exact m))]
        by_cases o : 0 ≤ x2.toInt ∧ x2.toInt ≤ 13
        · rw [if_neg (show ¬ f_X5_isIn x2 0 13 = 0 by rw [isin_y ⟨by rw [z0I]; omega, by rw [e13]; omega⟩]; decide), if_neg (show ¬ f_X5_isIn x2 6 9 = 0 by rw [isin_y ⟨by rw [e6]; omega, by rw [e9]; omega⟩]; decide)]
        · rw [if_pos (isin_n (x := x2) (l := 0) (h := 13) (by rw [z0I, e13]; exact o))]
end PU17
/-! odds and hope; the tape is fed -/
theorem gcd_st (a b : Nat) : Nat.gcd a b = Nat.gcd b (a % b) := by
  rw [Nat.gcd_comm a b, Nat.gcd_rec b a, Nat.gcd_comm (a % b) b]
theorem rem_nat {x y : Int64} {a b : Nat} (hx : x.toInt = a) (hy : y.toInt = b) (hb : 0 < b) : (x - x / y * y).toInt = ((a % b : Nat) : Int) := by
  rw [i64_rem (by omega) (by omega), hx, hy]
  rfl
theorem lc0 {x : Int64} {b : Nat} (hx : x.toInt = b) : lg_cmp x 0 = 0 ↔ b = 0 := by
  rw [lgc_eq, ← Int64.toInt_inj, hx, show (0 : Int64).toInt = 0 from rfl]
  omega
theorem gdL : ∀ (j N : Nat) (x0 x2 : Int64) (x4 : Int32) (a b : Nat), x0.toInt = a → x2.toInt = b → b < 2 ^ j → 0 ≤ x4.toInt → x4.toInt + 2 * j ≤ 200 → 2 * j < N → (l_X5_greatestDivisor_3 N x0 x2 x4).1.toInt = (Nat.gcd a b : Nat) := by
  have e200 : (200 : Int32).toInt = 200 := rfl
  have stop : ∀ (N : Nat) (x0 x2 : Int64) (x4 : Int32), lg_cmp x2 0 = 0 → (l_X5_greatestDivisor_3 (N + 1) x0 x2 x4).1 = x0 := fun N x0 x2 x4 h => by
    rw [l_X5_greatestDivisor_3, if_pos h]
    split <;> rfl
  intro j
  induction j with
  | zero =>
    intro N x0 x2 x4 a b ha hb hj _ _ hN
    obtain ⟨N', rfl⟩ : ∃ M, N = M + 1 := ⟨N - 1, by omega⟩
    have b0 : b = 0 := by rw [Nat.pow_zero] at hj; omega
    rw [stop N' x0 x2 x4 ((lc0 hb).mpr b0), b0, Nat.gcd_zero_right]
    exact ha
  | succ j ih =>
    intro N x0 x2 x4 a b ha hb hj h0 h4 hN
    obtain ⟨N', rfl⟩ : ∃ M, N = M + 1 + 1 := ⟨N - 2, by omega⟩
    by_cases b0 : b = 0
    · rw [stop (N' + 1) x0 x2 x4 ((lc0 hb).mpr b0), b0, Nat.gcd_zero_right]
      exact ha
    · have hr := rem_nat ha hb (by omega)
      have e1 := i32_add1 (i := x4) (by omega)
      have e2 := i32_add1 (i := x4 + 1) (by omega)
      rw [l_X5_greatestDivisor_3, if_neg (by rw [i32_le, e200]; omega), if_neg (fun q => b0 ((lc0 hb).mp q)), gcd_st]
      have hlt : a % b < b := Nat.mod_lt _ (by omega)
      by_cases r0 : a % b = 0
      · rw [stop N' _ _ _ ((lc0 hr).mpr r0), r0, Nat.gcd_zero_right]
        exact hb
      · have hr2 := rem_nat hb hr (by omega)
        rw [l_X5_greatestDivisor_3, if_neg (by rw [i32_le, e200]; omega), if_neg (fun q => r0 ((lc0 hr).mp q)), gcd_st]
        have hlt2 : b % (a % b) < a % b := Nat.mod_lt _ (by omega)
        have hdm := Nat.div_add_mod b (a % b)
        have hq : 1 ≤ b / (a % b) := (Nat.one_le_div_iff (by omega)).mpr (by omega)
        have hm : a % b * 1 ≤ a % b * (b / (a % b)) := Nat.mul_le_mul_left _ hq
        refine ih N' _ _ _ _ _ hr hr2 ?_ (by omega) (by omega) (by omega)
        rw [Nat.pow_succ] at hj
        omega
theorem mgL : ∀ (N : Nat) (x5 x7 : Int64) (a b : Nat), x5.toInt = a → x7.toInt = b → b < N → (l_X6_partOf_6 N x5 x7).1.toInt = (Nat.gcd a b : Nat) := by
  intro N
  induction N with
  | zero => intro x5 x7 a b _ _ h; exact absurd h (Nat.not_lt_zero _)
  | succ N ih =>
    intro x5 x7 a b ha hb hN
    rw [l_X6_partOf_6]
    by_cases b0 : b = 0
    · rw [if_pos ((lc0 hb).mpr b0), b0, Nat.gcd_zero_right]; exact ha
    · rw [if_neg (fun q => b0 ((lc0 hb).mp q)), gcd_st]
      exact ih _ _ _ _ hb (rem_nat ha hb (by omega)) (by have := Nat.mod_lt a (show 0 < b by omega); omega)
theorem part_eq {x0 x2 : Int64} {x4 : Int32} (h0 : 0 ≤ x0.toInt) (h2 : 0 < x2.toInt) : f_X5_partOf x0 x2 x4 = f_X6_partOf x0 x2 x4 := by
  obtain ⟨a, ha⟩ := Int.eq_ofNat_of_zero_le h0
  obtain ⟨b, hb⟩ := Int.eq_ofNat_of_zero_le (Int.le_of_lt h2)
  have l0 := Int64.toInt_lt x0
  have l2 := Int64.toInt_lt x2
  have p63 : (2 : Nat) ^ 63 = 9223372036854775808 := rfl
  have g1 := gdL 63 300 x0 x2 0 a b ha hb (by omega) (by decide) (by decide) (by decide)
  have g2 := mgL 9223372036854775809 x2 x0 b a hb ha (by omega)
  rw [Nat.gcd_comm] at g2
  have hg : 0 < Nat.gcd a b := Nat.gcd_pos_of_pos_right _ (by omega)
  unfold f_X5_partOf f_X6_partOf f_X5_greatestDivisor
  generalize l_X5_greatestDivisor_3 300 x0 x2 0 = p at g1 ⊢
  obtain ⟨p0, p1, p2⟩ := p
  generalize l_X6_partOf_6 9223372036854775809 x2 x0 = q at g2 ⊢
  obtain ⟨q0, q1⟩ := q
  have g1' : p0.toInt = (Nat.gcd a b : Nat) := g1
  have g2' : q0.toInt = (Nat.gcd a b : Nat) := g2
  have e : q0 = p0 := Int64.toInt_inj.mp (by rw [g1', g2'])
  rw [pr3_mk, pr2_mk, pr1_mk, e, if_neg (fun w => by have := (lc0 g1').mp w; omega)]
  by_cases c : x4 = 0
  · rw [if_pos c, if_pos c]
  · rw [if_neg c, if_neg c]
theorem bin_eqT : ∀ n k : Fin 9, k ≤ n → (l_X5_odds_41 (Int32.ofNat n.val) (Int32.ofNat k.val) 300 1 1).1 = f_X6_product (Int32.ofNat n.val) / f_X6_product (Int32.ofNat k.val) / f_X6_product (Int32.ofNat n.val - Int32.ofNat k.val) := by decide +kernel
theorem bin_eq {x y : Int32} (h : 0 ≤ x.toInt ∧ x.toInt ≤ 8) (h2 : 0 ≤ y.toInt ∧ y.toInt ≤ x.toInt) : (l_X5_odds_41 x y 300 1 1).1 = f_X6_product x / f_X6_product y / f_X6_product (x - y) := by
  obtain ⟨m, e1, q1⟩ := ofI (x := x) (B := 9) h.1 (by omega)
  obtain ⟨n, e2, q2⟩ := ofI (x := y) (B := 9) h2.1 (by omega)
  have t := bin_eqT m n (by show n.val ≤ m.val; omega)
  rw [← e1, ← e2] at t
  exact t
theorem oddsL {lw s : Nat → Int32} {x1 x2 : Int32} (e : s 9 = lw 3) : ∀ (N : Nat) (x4 x6 : Int64) (x8 : Int32), l_X5_odds_72 lw x1 x2 N x4 x6 x8 = l_X6_odds_61 s x1 x2 N x4 x6 x8 := by
  intro N
  induction N with
  | zero => intro x4 x6 x8; rw [l_X5_odds_72, l_X6_odds_61]
  | succ N ih =>
    intro x4 x6 x8
    rw [l_X5_odds_72, l_X6_odds_61, e]
    by_cases c : x1 ≤ x8
    · rw [if_pos c, if_pos c]
    · rw [if_neg c, if_neg c, pr1_mk, pr1_mk]; exact ih _ _ _
theorem oddsB {s : Nat → Int32} {x1 x2 : Int32} (hc : 0 ≤ (s 9).toInt ∧ (s 9).toInt ≤ 99) (h1 : x1.toInt ≤ 8) : ∀ (N : Nat) (x4 : Int64) (x8 : Int32), 0 ≤ x8.toInt → x8.toInt ≤ 8 → 0 ≤ x4.toInt ∧ x4.toInt ≤ 70 * (p100 x8).toInt → 0 ≤ (l_X6_odds_61 s x1 x2 N x4 (p100 x8) x8).1.toInt ∧ 0 < (l_X6_odds_61 s x1 x2 N x4 (p100 x8) x8).2.1.toInt := by
  intro N
  induction N with
  | zero => intro x4 x8 _ _ h; rw [l_X6_odds_61]; exact ⟨h.1, p100_pos⟩
  | succ N ih =>
    intro x4 x8 h0 h8 h
    rw [l_X6_odds_61]
    by_cases c : x1 ≤ x8
    · rw [if_pos c]; exact ⟨h.1, p100_pos⟩
    · have c' := mt i32_le.mpr c
      have hv : vp_in x8 8 := vpI h0 (by omega)
      have e1 := i32_add1 (i := x8) (by omega)
      rw [if_neg c, pr1_mk, p100_step hv]
      refine ih _ _ (by omega) (by omega) ?_
      by_cases d : x2 ≤ x8
      · rw [if_pos d]; exact (ab_step hv h (odd_d hc)).2
      · rw [if_neg d]; exact (ab_step hv h (odd_c hc)).2
section PU18
variable {lw kd bt ph cn no s : Nat → Int32} {ct sc rn lg dn zz : Int32}
theorem e_odds (h : RT lw kd bt ph cn no ct sc rn lg dn zz s) (x1 x2 x3 : Int32) : f_X5_odds lw x1 x2 x3 = f_X6_odds s x1 x2 x3 := by
  have e9 : s 9 = lw 3 := h.2.1.2.2.2
  have hc := h.2.2.2.2.2.1
  rw [← e9] at hc
  unfold f_X5_odds f_X6_odds
  rw [isin_eq (x := x1) (l := 0) (h := 8) rfl rfl, isin_eq (x := x2) (l := 0) (h := x1) rfl (Int32.toInt_toInt64 _), isin_eq (x := x3) (l := 0) (h := 1) rfl rfl]
  by_cases c1 : f_X5_isIn x1 0 8 = 0
  · rw [if_pos c1, if_pos c1]
  · rw [if_neg c1, if_neg c1]
    by_cases c2 : f_X5_isIn x2 0 x1 = 0
    · rw [if_pos c2, if_pos c2]
    · rw [if_neg c2, if_neg c2]
      by_cases c3 : f_X5_isIn x3 0 1 = 0
      · rw [if_pos c3, if_pos c3]
      · rw [if_neg c3, if_neg c3]
        have a1 := in_isIn c1
        have a2 := in_isIn c2
        rw [z0I, show (8 : Int32).toInt = 8 from rfl] at a1
        rw [z0I] at a2
        have hb := bin_eq a1 a2
        have hB := (bin_of (x := x1) (y := x2) (by rw [isin_eq (x := x1) (l := 0) (h := 8) rfl rfl]; exact c1) (by rw [isin_eq (x := x2) (l := 0) (h := x1) rfl (Int32.toInt_toInt64 _)]; exact c2)).2.2.2
        rw [← hb] at hB
        rw [← hb]
        generalize l_X5_odds_41 x1 x2 300 1 1 = p at hB ⊢
        obtain ⟨p0, p1⟩ := p
        rw [pr2_mk, oddsL e9]
        have hp0 : (1 : Int64) = p100 0 := by decide
        have ho := oddsB (x1 := x1) (x2 := x2) hc a1.2 300 p0 0 (by decide) (by decide) ⟨hB.1, by rw [show (p100 0).toInt = 1 from by decide]; have h2 : p0.toInt ≤ 70 := hB.2; omega⟩
        rw [← hp0] at ho
        show pr3 (l_X6_odds_61 s x1 x2 300 p0 1 0) _ = pr3 (l_X6_odds_61 s x1 x2 300 p0 1 0) _
        generalize l_X6_odds_61 s x1 x2 300 p0 1 0 = q at ho ⊢
        obtain ⟨q0, q1, q2⟩ := q
        rw [pr3_mk, pr3_mk]
        exact part_eq ho.1 ho.2
theorem e_hope (h : RT lw kd bt ph cn no ct sc rn lg dn zz s) (x1 x2 : Int32) : f_X5_hope lw x1 x2 = f_X6_hope s x1 x2 := by
  have e9 : s 9 = lw 3 := h.2.1.2.2.2
  have hc := h.2.2.2.2.2.1
  unfold f_X5_hope f_X6_hope
  rw [isin_eq (x := x1) (l := 0) (h := 99) rfl rfl, isin_eq (x := x2) (l := 0) (h := 1) rfl rfl, e9]
  by_cases c1 : f_X5_isIn x1 0 99 = 0
  · rw [if_pos c1, if_pos c1]
  · rw [if_neg c1, if_neg c1]
    by_cases c2 : f_X5_isIn x2 0 1 = 0
    · rw [if_pos c2, if_pos c2]
    · rw [if_neg c2, if_neg c2]
      have a1 := in_isIn c1
      rw [z0I, show (99 : Int32).toInt = 99 from rfl] at a1
      have b0 : 0 ≤ x1.toInt * (lw 3).toInt := Int.mul_nonneg a1.1 hc.1
      have b1 : x1.toInt * (lw 3).toInt ≤ 99 * 99 := Int.mul_le_mul a1.2 hc.2 hc.1 (by decide)
      have m1 : (x1 * lw 3).toInt = x1.toInt * (lw 3).toInt := i32_mulE (by omega) (by omega)
      have m2 : (x1.toInt64 * (lw 3).toInt64).toInt = x1.toInt * (lw 3).toInt := by
        rw [i64_mulE (by rw [Int32.toInt_toInt64, Int32.toInt_toInt64]; omega) (by rw [Int32.toInt_toInt64, Int32.toInt_toInt64]; omega), Int32.toInt_toInt64, Int32.toInt_toInt64]
      have e : (x1 * lw 3).toInt64 = x1.toInt64 * (lw 3).toInt64 := Int64.toInt_inj.mp (by rw [Int32.toInt_toInt64, m1, m2])
      rw [← e]
      exact part_eq (by rw [Int32.toInt_toInt64, m1]; exact b0) (by decide)
end PU18
/-- the tape -/
def RTp (bs mtp : Nat → Int32) (tz : Int32) : Prop := (0 ≤ tz.toInt ∧ tz.toInt ≤ 200) ∧ ∀ k : Nat, (k : Int) < tz.toInt → bs k = mtp k ∧ 0 ≤ (mtp k).toInt ∧ (mtp k).toInt ≤ 255
theorem b255_tab : ∀ i : Fin 32, 8 ≤ i.val → (255#32).getLsbD i.val = false := by decide +kernel
theorem bv_feed (b : BitVec 64) (k : Nat) (hk : k ≤ 56) : (b >>> k).signExtend 32 &&& 255#32 = (b.sshiftRight k).signExtend 32 &&& 255#32 := by
  apply BitVec.eq_of_getLsbD_eq
  intro i hi
  rw [BitVec.getLsbD_and, BitVec.getLsbD_and]
  by_cases h8 : i < 8
  · have e : ((b >>> k).signExtend 32).getLsbD i = ((b.sshiftRight k).signExtend 32).getLsbD i := by
      rw [BitVec.getLsbD_signExtend, BitVec.getLsbD_signExtend, if_pos (by omega), if_pos (by omega), BitVec.getLsbD_ushiftRight, BitVec.getLsbD_sshiftRight, if_pos (by omega)]
      have h : decide (64 ≤ i) = false := decide_eq_false (by omega)
      rw [h]
      simp
    rw [e]
  · rw [b255_tab ⟨i, hi⟩ (by show 8 ≤ i; omega), Bool.and_false, Bool.and_false]
theorem feed_g {x : Int64} {u : UInt64} {v : Int64} {k : Nat} (hu : (u.toBitVec % 64).toNat = k) (hv : (v.toBitVec.smod 64).toNat = k) (hk : k ≤ 56) : ((x.toUInt64 >>> u).toInt64).toInt32 &&& 255 = ((x >>> v) &&& 255).toInt32 := by
  rw [Int64.toInt32_and, show (255 : Int64).toInt32 = 255 from rfl]
  apply Int32.toBitVec_inj.mp
  rw [Int32.toBitVec_and, Int32.toBitVec_and, Int64.toBitVec_toInt32, Int64.toBitVec_toInt32, UInt64.toBitVec_toInt64, UInt64.toBitVec_shiftRight, Int64.toBitVec_shiftRight, Int64.toBitVec_toUInt64, BitVec.ushiftRight_eq', hu]
  unfold BitVec.sshiftRight'
  rw [hv]
  exact bv_feed x.toBitVec k hk
theorem feed_b {x : Int64} {i : Int32} (h : vp_in i 8) : ((((x.toUInt64 >>> (((8 : Int32) * i).toInt64.toUInt64 &&& Int64.toUInt64 63)).toInt64) : Int64).toInt32) &&& 255 = ((((x >>> (((8 : Int32) * i).toInt64 &&& 63)) &&& 255) : Int64).toInt32) := by
  rcases eight_of h with rfl | rfl | rfl | rfl | rfl | rfl | rfl | rfl
  · exact feed_g (k := 0) (by decide) (by decide) (by decide)
  · exact feed_g (k := 8) (by decide) (by decide) (by decide)
  · exact feed_g (k := 16) (by decide) (by decide) (by decide)
  · exact feed_g (k := 24) (by decide) (by decide) (by decide)
  · exact feed_g (k := 32) (by decide) (by decide) (by decide)
  · exact feed_g (k := 40) (by decide) (by decide) (by decide)
  · exact feed_g (k := 48) (by decide) (by decide) (by decide)
  · exact feed_g (k := 56) (by decide) (by decide) (by decide)
theorem and255 (y : Int32) : 0 ≤ (y &&& 255).toInt ∧ (y &&& 255).toInt ≤ 255 := by
  have hb : (y &&& 255).toBitVec.toNat ≤ 255 := by
    rw [Int32.toBitVec_and, BitVec.toNat_and]
    exact Nat.and_le_right
  have e : (y &&& 255).toInt = ((y &&& 255).toBitVec.toNat : Int) := BitVec.toInt_eq_toNat_of_lt (by omega)
  rw [e]
  omega
theorem feedL {x1 : Int64} {x3 : Int32} (h3 : x3.toInt ≤ 8) : ∀ (N : Nat) (x4 tz : Int32) (bs mtp : Nat → Int32), 0 ≤ x4.toInt → x4.toInt ≤ x3.toInt → tz.toInt + (x3.toInt - x4.toInt) ≤ 200 → RTp bs mtp tz → (l_X5_feed_34 x1 x3 N x4 bs tz).2.2 = (l_X6_feed_32 x1 x3 N x4 mtp tz).2.2 ∧ RTp (l_X5_feed_34 x1 x3 N x4 bs tz).2.1 (l_X6_feed_32 x1 x3 N x4 mtp tz).2.1 (l_X6_feed_32 x1 x3 N x4 mtp tz).2.2 := by
  intro N
  induction N with
  | zero => intro x4 tz bs mtp _ _ _ h; rw [l_X5_feed_34, l_X6_feed_32]; exact ⟨rfl, h⟩
  | succ N ih =>
    intro x4 tz bs mtp h0 h1 ht h
    rw [l_X5_feed_34, l_X6_feed_32]
    by_cases c : x3 ≤ x4
    · rw [if_pos c, if_pos c]; exact ⟨rfl, h⟩
    · rw [if_neg c, if_neg c]
      have c' : x4.toInt < x3.toInt := by have := mt i32_le.mpr c; omega
      have e1 := i32_add1 (i := x4) (by omega)
      have e2 := i32_add1 (i := tz) (by omega)
      have ec := cl_nn h.1.1
      unfold f_X3_append
      rw [if_neg (show ¬ (200 : Int32) ≤ tz by rw [i32_le, show (200 : Int32).toInt = 200 from rfl]; omega), pr2_mk, feed_b (vpI h0 (by omega))]
      have hb := and255 ((x1.toUInt64 >>> (((8 : Int32) * x4).toInt64.toUInt64 &&& Int64.toUInt64 63)).toInt64).toInt32
      rw [feed_b (vpI h0 (by omega))] at hb
      refine ih _ _ _ _ (by omega) (by omega) (by omega) ⟨by omega, fun k hk => ?_⟩
      by_cases e : k = tz.toNatClampNeg
      · rw [e, pk_us, pk_us]; exact ⟨rfl, hb⟩
      · rw [pk_un e, pk_un e]; exact h.2 k (by omega)
theorem e_feed {bs mtp : Nat → Int32} {tz : Int32} (h : RTp bs mtp tz) (x1 : Int64) (x3 : Int32) : (f_X5_feed bs tz x1 x3).1 = (f_X6_feed mtp tz x1 x3).1 ∧ (f_X5_feed bs tz x1 x3).2.2 = (f_X6_feed mtp tz x1 x3).2.2 ∧ RTp (f_X5_feed bs tz x1 x3).2.1 (f_X6_feed mtp tz x1 x3).2.1 (f_X6_feed mtp tz x1 x3).2.2 := by
  unfold f_X5_feed f_X6_feed
  rw [isin_eq (x := x3) (l := 1) (h := 8) rfl rfl]
  have e8 : (8 : Int32).toInt = 8 := rfl
  by_cases c1 : x3 < 1
  · have c1' := i32_lt.mp c1
    rw [z1I] at c1'
    rw [if_pos c1, if_pos (isin_n (x := x3) (l := 1) (h := 8) (by rw [z1I]; omega))]; exact ⟨rfl, rfl, h⟩
  · rw [if_neg c1]
    rw [i32_lt, z1I] at c1
    by_cases c2 : x3 ≤ (8 : Int32)
    · have c2' := i32_le.mp c2
      rw [e8] at c2'
      rw [if_pos c2, if_neg (show ¬ f_X5_isIn x3 1 8 = 0 by rw [isin_y ⟨by rw [z1I]; omega, by rw [e8]; omega⟩]; decide)]
      by_cases c3 : tz + x3 ≤ (200 : Int32)
      · have ht := h.1
        have e : (tz + x3).toInt = tz.toInt + x3.toInt := i32_addE (by omega) (by omega)
        have c3' := i32_le.mp c3
        rw [show (200 : Int32).toInt = 200 from rfl] at c3'
        rw [if_pos c3, if_pos c3]
        have hp := feedL (x1 := x1) (x3 := x3) c2' 300 0 tz bs mtp (by decide) (by rw [z0I]; omega) (by rw [z0I]; omega) h
        generalize l_X5_feed_34 x1 x3 300 0 bs tz = p at hp ⊢
        obtain ⟨p0, p1, p2⟩ := p
        generalize l_X6_feed_32 x1 x3 300 0 mtp tz = q at hp ⊢
        obtain ⟨q0, q1, q2⟩ := q
        rw [pr3_mk, pr3_mk]
        exact ⟨hp.1, hp⟩
      · rw [if_neg c3, if_neg c3]; exact ⟨rfl, rfl, h⟩
    · rw [if_neg c2]
      rw [i32_le, e8] at c2
      rw [if_pos (isin_n (x := x3) (l := 1) (h := 8) (by rw [e8]; omega))]; exact ⟨rfl, rfl, h⟩
