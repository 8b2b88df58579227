/-! which number of one thing, or of two, keeps it quiet longest -/
theorem best_eq {r x6 : Int32} : (if r ≤ x6 then x6 else r) = f_X6_greatest x6 r := by
  rw [grt_eq]
  by_cases c : r ≤ x6
  · rw [if_pos c, if_neg (by rw [i32_lt]; rw [i32_le] at c; omega)]
  · rw [if_neg c, if_pos (by rw [i32_lt]; rw [i32_le] at c; omega)]
theorem upd_agree {s t : Nat → Int32} {i : Nat} {v : Int32} (h : ∀ k, k < 50 → k ≠ i → t k = s k) : ∀ k, k < 50 → upd t i v k = upd s i v k := fun k hk => by
  by_cases e : k = i
  · rw [e, pk_us, pk_us]
  · rw [pk_un e, pk_un e]; exact h k hk e
section PU6
variable {lw kd bt ph cn no s : Nat → Int32} {ct sc rn lg dn zz : Int32}
theorem e_quietL_ph {x2 x5 ix : Int32} (h : RT lw kd bt ph cn no ct sc rn lg dn zz s) (hx : 0 ≤ x2.toInt ∧ x2.toInt < ct.toInt) (hix : ix.toNatClampNeg = 10 + 5 * x2.toNatClampNeg + 2) : ∀ (N : Nat) (x6 x7 x8 : Int32) (tlw tkd tbt tph tcn tno : Nat → Int32) (tct tsc trn tlg tdn tzz : Int32) (ss mas : Nat → Int32), 0 ≤ x8.toInt → x8.toInt ≤ 9 → (∀ k, k < 50 → k ≠ 10 + 5 * x2.toNatClampNeg + 2 → ss k = s k) → (l_X5_quietest__ph_9 lw kd bt ph cn no ct sc rn lg dn zz x2 8 x5 N x6 x7 x8 tlw tkd tbt tph tcn tno tct tsc trn tlg tdn tzz).2.1 = (l_X6_quietestBy__ph_28 x5 ix N x7 x6 x8 ss mas).1 ∧ ∀ k, k < 50 → k ≠ 10 + 5 * x2.toNatClampNeg + 2 → (l_X6_quietestBy__ph_28 x5 ix N x7 x6 x8 ss mas).2.2.2.1 k = s k := by
  intro N
  induction N with
  | zero => intro x6 x7 x8 tlw tkd tbt tph tcn tno tct tsc trn tlg tdn tzz ss mas _ _ hs; rw [l_X5_quietest__ph_9, l_X6_quietestBy__ph_28]; exact ⟨rfl, hs⟩
  | succ N ih =>
    intro x6 x7 x8 tlw tkd tbt tph tcn tno tct tsc trn tlg tdn tzz ss mas h0 h1 hs
    rw [l_X5_quietest__ph_9, l_X6_quietestBy__ph_28]
    have eh : (8 : Int32).toInt = 8 := rfl
    by_cases c : (8 : Int32) < x8
    · rw [if_pos c, if_pos c]; exact ⟨rfl, hs⟩
    · rw [if_neg c, if_neg c, hix]
      have c' : x8.toInt ≤ 8 := by rw [i32_lt, eh] at c; omega
      have ea := i32_add1 (i := x8) (by omega)
      have h2 := rt_ph (rt_cpy (lw' := tlw) (kd' := tkd) (bt' := tbt) (ph' := tph) (cn' := tcn) (no' := tno) h) (k0 := x2.toNatClampNeg) (v := x8) (by rw [cl_nn hx.1]; exact hx.2) ⟨h0, c'⟩
      have h3 := rt_same h2 (upd_agree hs)
      have hl := rt_length (mas := mas) h3 x5
      have hk := len_keep (s := upd ss (10 + 5 * x2.toNatClampNeg + 2) x8) (mas := mas) (x1 := x5) (x2 := 0)
      generalize f_X4_longestWithin (va_cpy lw tlw 0 0 4) (va_cpy kd tkd 0 0 8) (va_cpy bt tbt 0 0 8) (upd (va_cpy ph tph 0 0 8) x2.toNatClampNeg x8) ct sc rn lg dn x5 = p at hl ⊢
      obtain ⟨p0, p1, p2, p3, p4⟩ := p
      generalize f_X6_lengthBy (upd ss (10 + 5 * x2.toNatClampNeg + 2) x8) mas x5 0 = q at hl hk ⊢
      obtain ⟨q0, q1, q2⟩ := q
      have e0 : p0 = q0 := hl
      rw [pr5_mk, pr3_mk, pr1_mk, e0, ← best_eq]
      have hs2 : ∀ k, k < 50 → k ≠ 10 + 5 * x2.toNatClampNeg + 2 → q1 k = s k := fun k hk2 hne => by
        have q : q1 k = _ := hk k hk2
        rw [q, pk_un hne]; exact hs k hk2 hne
      by_cases c2 : q0 ≤ x6
      · rw [if_pos c2, if_pos c2, if_pos c2, pr2_mk]; exact ih _ _ _ _ _ _ _ _ _ _ _ _ _ _ _ _ _ (by omega) (by omega) hs2
      · rw [if_neg c2, if_neg c2, if_neg c2, pr2_mk]; exact ih _ _ _ _ _ _ _ _ _ _ _ _ _ _ _ _ _ (by omega) (by omega) hs2
theorem e_phaseFor {mas : Nat → Int32} {tlw tkd tbt tph tcn tno : Nat → Int32} {tct tsc trn tlg tdn tzz : Int32} (h : RT lw kd bt ph cn no ct sc rn lg dn zz s) (x1 x2 : Int32) : (f_X5_phaseFor lw kd bt ph cn no ct sc rn lg dn zz tlw tkd tbt tph tcn tno tct tsc trn tlg tdn tzz x1 x2).1 = (f_X6_phaseFor s mas x1 x2).1 ∧ ∀ k, k < 50 → (f_X6_phaseFor s mas x1 x2).2.1 k = s k := by
  unfold f_X5_phaseFor f_X6_phaseFor f_X5_isTrial f_X6_isLong
  rw [rt_has h, isin_eq (x := x2) (l := 1) (h := 60) rfl rfl]
  by_cases c1 : f_X4_has ct x1 = 0
  · rw [if_pos c1, if_pos c1, if_pos rfl]; exact ⟨rfl, fun _ _ => rfl⟩
  · rw [if_neg c1, if_neg c1]
    have hx := rt_in h c1
    by_cases c2 : f_X5_isIn x2 1 60 = 0
    · rw [if_pos c2, if_pos c2, if_pos rfl]; exact ⟨rfl, fun _ _ => rfl⟩
    · rw [if_neg c2, if_neg c2, if_neg i1n0]
      unfold f_X5_quietest__ph f_X6_quietestBy__ph
      have ei := its_ix (o := x1) (w := 2) hx.1 hx.2.2 (by decide) (by decide)
      rw [show (2 : Int32).toNatClampNeg = 2 from rfl] at ei
      have hp := e_quietL_ph (x5 := x2) h ⟨hx.1, hx.2.1⟩ ei 300 (-1) 0 0 tlw tkd tbt tph tcn tno tct tsc trn tlg tdn tzz s mas (by decide) (by decide) (fun _ _ _ => rfl)
      rw [ei]
      generalize l_X5_quietest__ph_9 lw kd bt ph cn no ct sc rn lg dn zz x1 8 x2 300 (-1) 0 0 tlw tkd tbt tph tcn tno tct tsc trn tlg tdn tzz = p at hp ⊢
      obtain ⟨p0, p1, p2, p3, p4, p5, p6, p7, p8, p9, p10, p11, p12, p13, p14⟩ := p
      generalize l_X6_quietestBy__ph_28 x2 (((10 : Int32) + ((5 : Int32) * x1)) + 2) 300 0 (-1) 0 s mas = q at hp ⊢
      obtain ⟨q0, q1, q2, q3, q4⟩ := q
      simp only [pr15_mk, pr13_mk, pr5_mk, pr3_mk]
      refine ⟨hp.1, fun k hk => ?_⟩
      by_cases e : k = 10 + 5 * x1.toNatClampNeg + 2
      · rw [e, pk_us]
      · rw [pk_un e]; exact hp.2 k hk e
theorem e_quietL_bt {x2 x5 ix : Int32} (h : RT lw kd bt ph cn no ct sc rn lg dn zz s) (hx : 0 ≤ x2.toInt ∧ x2.toInt < ct.toInt) (hix : ix.toNatClampNeg = 10 + 5 * x2.toNatClampNeg + 1) : ∀ (N : Nat) (x6 x7 x8 : Int32) (tlw tkd tbt tph tcn tno : Nat → Int32) (tct tsc trn tlg tdn tzz : Int32) (ss mas : Nat → Int32), 1 ≤ x8.toInt → x8.toInt ≤ 10 → (∀ k, k < 50 → k ≠ 10 + 5 * x2.toNatClampNeg + 1 → ss k = s k) → (l_X5_quietest__bt_9 lw kd bt ph cn no ct sc rn lg dn zz x2 9 x5 N x6 x7 x8 tlw tkd tbt tph tcn tno tct tsc trn tlg tdn tzz).2.1 = (l_X6_quietestBy__bt_28 x5 ix N x7 x6 x8 ss mas).1 ∧ ∀ k, k < 50 → k ≠ 10 + 5 * x2.toNatClampNeg + 1 → (l_X6_quietestBy__bt_28 x5 ix N x7 x6 x8 ss mas).2.2.2.1 k = s k := by
  intro N
  induction N with
  | zero => intro x6 x7 x8 tlw tkd tbt tph tcn tno tct tsc trn tlg tdn tzz ss mas _ _ hs; rw [l_X5_quietest__bt_9, l_X6_quietestBy__bt_28]; exact ⟨rfl, hs⟩
  | succ N ih =>
    intro x6 x7 x8 tlw tkd tbt tph tcn tno tct tsc trn tlg tdn tzz ss mas h0 h1 hs
    rw [l_X5_quietest__bt_9, l_X6_quietestBy__bt_28]
    have eh : (9 : Int32).toInt = 9 := rfl
    by_cases c : (9 : Int32) < x8
    · rw [if_pos c, if_pos c]; exact ⟨rfl, hs⟩
    · rw [if_neg c, if_neg c, hix]
      have c' : x8.toInt ≤ 9 := by rw [i32_lt, eh] at c; omega
      have ea := i32_add1 (i := x8) (by omega)
      have h2 := rt_bt (rt_cpy (lw' := tlw) (kd' := tkd) (bt' := tbt) (ph' := tph) (cn' := tcn) (no' := tno) h) (k0 := x2.toNatClampNeg) (v := x8) (by rw [cl_nn hx.1]; exact hx.2) ⟨h0, c'⟩
      have h3 := rt_same h2 (upd_agree hs)
      have hl := rt_length (mas := mas) h3 x5
      have hk := len_keep (s := upd ss (10 + 5 * x2.toNatClampNeg + 1) x8) (mas := mas) (x1 := x5) (x2 := 0)
      generalize f_X4_longestWithin (va_cpy lw tlw 0 0 4) (va_cpy kd tkd 0 0 8) (upd (va_cpy bt tbt 0 0 8) x2.toNatClampNeg x8) (va_cpy ph tph 0 0 8) ct sc rn lg dn x5 = p at hl ⊢
      obtain ⟨p0, p1, p2, p3, p4⟩ := p
      generalize f_X6_lengthBy (upd ss (10 + 5 * x2.toNatClampNeg + 1) x8) mas x5 0 = q at hl hk ⊢
      obtain ⟨q0, q1, q2⟩ := q
      have e0 : p0 = q0 := hl
      rw [pr5_mk, pr3_mk, pr1_mk, e0, ← best_eq]
      have hs2 : ∀ k, k < 50 → k ≠ 10 + 5 * x2.toNatClampNeg + 1 → q1 k = s k := fun k hk2 hne => by
        have q : q1 k = _ := hk k hk2
        rw [q, pk_un hne]; exact hs k hk2 hne
      by_cases c2 : q0 ≤ x6
      · rw [if_pos c2, if_pos c2, if_pos c2, pr2_mk]; exact ih _ _ _ _ _ _ _ _ _ _ _ _ _ _ _ _ _ (by omega) (by omega) hs2
      · rw [if_neg c2, if_neg c2, if_neg c2, pr2_mk]; exact ih _ _ _ _ _ _ _ _ _ _ _ _ _ _ _ _ _ (by omega) (by omega) hs2
theorem e_beatFor {mas : Nat → Int32} {tlw tkd tbt tph tcn tno : Nat → Int32} {tct tsc trn tlg tdn tzz : Int32} (h : RT lw kd bt ph cn no ct sc rn lg dn zz s) (x1 x2 : Int32) : (f_X5_beatFor lw kd bt ph cn no ct sc rn lg dn zz tlw tkd tbt tph tcn tno tct tsc trn tlg tdn tzz x1 x2).1 = (f_X6_beatFor s mas x1 x2).1 ∧ ∀ k, k < 50 → (f_X6_beatFor s mas x1 x2).2.1 k = s k := by
  unfold f_X5_beatFor f_X6_beatFor f_X5_isTrial f_X6_isLong
  rw [rt_has h, isin_eq (x := x2) (l := 1) (h := 60) rfl rfl]
  by_cases c1 : f_X4_has ct x1 = 0
  · rw [if_pos c1, if_pos c1, if_pos rfl]; exact ⟨rfl, fun _ _ => rfl⟩
  · rw [if_neg c1, if_neg c1]
    have hx := rt_in h c1
    by_cases c2 : f_X5_isIn x2 1 60 = 0
    · rw [if_pos c2, if_pos c2, if_pos rfl]; exact ⟨rfl, fun _ _ => rfl⟩
    · rw [if_neg c2, if_neg c2, if_neg i1n0]
      unfold f_X5_quietest__bt f_X6_quietestBy__bt
      have ei := its_ix (o := x1) (w := 1) hx.1 hx.2.2 (by decide) (by decide)
      rw [show (1 : Int32).toNatClampNeg = 1 from rfl] at ei
      have hp := e_quietL_bt (x5 := x2) h ⟨hx.1, hx.2.1⟩ ei 300 (-1) 1 1 tlw tkd tbt tph tcn tno tct tsc trn tlg tdn tzz s mas (by decide) (by decide) (fun _ _ _ => rfl)
      rw [ei]
      generalize l_X5_quietest__bt_9 lw kd bt ph cn no ct sc rn lg dn zz x1 9 x2 300 (-1) 1 1 tlw tkd tbt tph tcn tno tct tsc trn tlg tdn tzz = p at hp ⊢
      obtain ⟨p0, p1, p2, p3, p4, p5, p6, p7, p8, p9, p10, p11, p12, p13, p14⟩ := p
      generalize l_X6_quietestBy__bt_28 x2 (((10 : Int32) + ((5 : Int32) * x1)) + 1) 300 1 (-1) 1 s mas = q at hp ⊢
      obtain ⟨q0, q1, q2, q3, q4⟩ := q
      simp only [pr15_mk, pr13_mk, pr5_mk, pr3_mk]
      refine ⟨hp.1, fun k hk => ?_⟩
      by_cases e : k = 10 + 5 * x1.toNatClampNeg + 1
      · rw [e, pk_us]
      · rw [pk_un e]; exact hp.2 k hk e
theorem e_quietL_kd {x2 x5 ix : Int32} (h : RT lw kd bt ph cn no ct sc rn lg dn zz s) (hx : 0 ≤ x2.toInt ∧ x2.toInt < ct.toInt) (hix : ix.toNatClampNeg = 10 + 5 * x2.toNatClampNeg) : ∀ (N : Nat) (x6 x7 x8 : Int32) (tlw tkd tbt tph tcn tno : Nat → Int32) (tct tsc trn tlg tdn tzz : Int32) (ss mas : Nat → Int32), 0 ≤ x8.toInt → x8.toInt ≤ 6 → (∀ k, k < 50 → k ≠ 10 + 5 * x2.toNatClampNeg → ss k = s k) → (l_X5_quietest__kd_9 lw kd bt ph cn no ct sc rn lg dn zz x2 5 x5 N x6 x7 x8 tlw tkd tbt tph tcn tno tct tsc trn tlg tdn tzz).2.1 = (l_X6_quietestBy__kd_28 x5 ix N x7 x6 x8 ss mas).1 ∧ ∀ k, k < 50 → k ≠ 10 + 5 * x2.toNatClampNeg → (l_X6_quietestBy__kd_28 x5 ix N x7 x6 x8 ss mas).2.2.2.1 k = s k := by
  intro N
  induction N with
  | zero => intro x6 x7 x8 tlw tkd tbt tph tcn tno tct tsc trn tlg tdn tzz ss mas _ _ hs; rw [l_X5_quietest__kd_9, l_X6_quietestBy__kd_28]; exact ⟨rfl, hs⟩
  | succ N ih =>
    intro x6 x7 x8 tlw tkd tbt tph tcn tno tct tsc trn tlg tdn tzz ss mas h0 h1 hs
    rw [l_X5_quietest__kd_9, l_X6_quietestBy__kd_28]
    have eh : (5 : Int32).toInt = 5 := rfl
    by_cases c : (5 : Int32) < x8
    · rw [if_pos c, if_pos c]; exact ⟨rfl, hs⟩
    · rw [if_neg c, if_neg c, hix]
      have c' : x8.toInt ≤ 5 := by rw [i32_lt, eh] at c; omega
      have ea := i32_add1 (i := x8) (by omega)
      have h2 := rt_kd (rt_cpy (lw' := tlw) (kd' := tkd) (bt' := tbt) (ph' := tph) (cn' := tcn) (no' := tno) h) (k0 := x2.toNatClampNeg) (v := x8) (by rw [cl_nn hx.1]; exact hx.2) ⟨h0, c'⟩
      have h3 := rt_same h2 (upd_agree hs)
      have hl := rt_length (mas := mas) h3 x5
      have hk := len_keep (s := upd ss (10 + 5 * x2.toNatClampNeg) x8) (mas := mas) (x1 := x5) (x2 := 0)
      generalize f_X4_longestWithin (va_cpy lw tlw 0 0 4) (upd (va_cpy kd tkd 0 0 8) x2.toNatClampNeg x8) (va_cpy bt tbt 0 0 8) (va_cpy ph tph 0 0 8) ct sc rn lg dn x5 = p at hl ⊢
      obtain ⟨p0, p1, p2, p3, p4⟩ := p
      generalize f_X6_lengthBy (upd ss (10 + 5 * x2.toNatClampNeg) x8) mas x5 0 = q at hl hk ⊢
      obtain ⟨q0, q1, q2⟩ := q
      have e0 : p0 = q0 := hl
      rw [pr5_mk, pr3_mk, pr1_mk, e0, ← best_eq]
      have hs2 : ∀ k, k < 50 → k ≠ 10 + 5 * x2.toNatClampNeg → q1 k = s k := fun k hk2 hne => by
        have q : q1 k = _ := hk k hk2
        rw [q, pk_un hne]; exact hs k hk2 hne
      by_cases c2 : q0 ≤ x6
      · rw [if_pos c2, if_pos c2, if_pos c2, pr2_mk]; exact ih _ _ _ _ _ _ _ _ _ _ _ _ _ _ _ _ _ (by omega) (by omega) hs2
      · rw [if_neg c2, if_neg c2, if_neg c2, pr2_mk]; exact ih _ _ _ _ _ _ _ _ _ _ _ _ _ _ _ _ _ (by omega) (by omega) hs2
theorem e_kindFor {mas : Nat → Int32} {tlw tkd tbt tph tcn tno : Nat → Int32} {tct tsc trn tlg tdn tzz : Int32} (h : RT lw kd bt ph cn no ct sc rn lg dn zz s) (x1 x2 : Int32) : (f_X5_kindFor lw kd bt ph cn no ct sc rn lg dn zz tlw tkd tbt tph tcn tno tct tsc trn tlg tdn tzz x1 x2).1 = (f_X6_kindFor s mas x1 x2).1 ∧ ∀ k, k < 50 → (f_X6_kindFor s mas x1 x2).2.1 k = s k := by
  unfold f_X5_kindFor f_X6_kindFor f_X5_isTrial f_X6_isLong
  rw [rt_has h, isin_eq (x := x2) (l := 1) (h := 60) rfl rfl]
  by_cases c1 : f_X4_has ct x1 = 0
  · rw [if_pos c1, if_pos c1, if_pos rfl]; exact ⟨rfl, fun _ _ => rfl⟩
  · rw [if_neg c1, if_neg c1]
    have hx := rt_in h c1
    by_cases c2 : f_X5_isIn x2 1 60 = 0
    · rw [if_pos c2, if_pos c2, if_pos rfl]; exact ⟨rfl, fun _ _ => rfl⟩
    · rw [if_neg c2, if_neg c2, if_neg i1n0]
      unfold f_X5_quietest__kd f_X6_quietestBy__kd
      have ei := its_ix (o := x1) (w := 0) hx.1 hx.2.2 (by decide) (by decide)
      rw [show (0 : Int32).toNatClampNeg = 0 from rfl, Nat.add_zero] at ei
      have hp := e_quietL_kd (x5 := x2) h ⟨hx.1, hx.2.1⟩ ei 300 (-1) 0 0 tlw tkd tbt tph tcn tno tct tsc trn tlg tdn tzz s mas (by decide) (by decide) (fun _ _ _ => rfl)
      rw [ei]
      generalize l_X5_quietest__kd_9 lw kd bt ph cn no ct sc rn lg dn zz x1 5 x2 300 (-1) 0 0 tlw tkd tbt tph tcn tno tct tsc trn tlg tdn tzz = p at hp ⊢
      obtain ⟨p0, p1, p2, p3, p4, p5, p6, p7, p8, p9, p10, p11, p12, p13, p14⟩ := p
      generalize l_X6_quietestBy__kd_28 x2 (((10 : Int32) + ((5 : Int32) * x1)) + 0) 300 0 (-1) 0 s mas = q at hp ⊢
      obtain ⟨q0, q1, q2, q3, q4⟩ := q
      simp only [pr15_mk, pr13_mk, pr5_mk, pr3_mk]
      refine ⟨hp.1, fun k hk => ?_⟩
      by_cases e : k = 10 + 5 * x1.toNatClampNeg
      · rw [e, pk_us]
      · rw [pk_un e]; exact hp.2 k hk e
theorem pair_tab : ∀ a b : Fin 9, (Int32.ofNat a.val * 9 + Int32.ofNat b.val) / 9 = Int32.ofNat a.val ∧ (Int32.ofNat a.val * 9 + Int32.ofNat b.val) - (Int32.ofNat a.val * 9 + Int32.ofNat b.val) / 9 * 9 = Int32.ofNat b.val ∧ ¬ (81 : Int32) ≤ Int32.ofNat a.val * 9 + Int32.ofNat b.val := by decide +kernel
theorem pair_at {a b : Int32} (ha : 0 ≤ a.toInt ∧ a.toInt ≤ 8) (hb : 0 ≤ b.toInt ∧ b.toInt ≤ 8) : (a * 9 + b) / 9 = a ∧ (a * 9 + b) - (a * 9 + b) / 9 * 9 = b ∧ ¬ (81 : Int32) ≤ a * 9 + b := by
  obtain ⟨m, e1, _⟩ := ofI (x := a) (B := 9) ha.1 (by omega)
  obtain ⟨n, e2, _⟩ := ofI (x := b) (B := 9) hb.1 (by omega)
  rw [e1, e2]
  exact pair_tab m n
theorem e_pairIn {x1 x2 x3 x6 i1 i2 : Int32} (h : RT lw kd bt ph cn no ct sc rn lg dn zz s) (hx1 : 0 ≤ x1.toInt ∧ x1.toInt < ct.toInt) (hx2 : 0 ≤ x2.toInt ∧ x2.toInt < ct.toInt) (hi1 : i1.toNatClampNeg = 10 + 5 * x1.toNatClampNeg + 2) (hi2 : i2.toNatClampNeg = 10 + 5 * x2.toNatClampNeg + 2) (h6 : 0 ≤ x6.toInt ∧ x6.toInt ≤ 8) (M : Nat) : ∀ (n N : Nat) (x4 x5 x7 : Int32) (tlw tkd tbt tph tcn tno : Nat → Int32) (tct tsc trn tlg tdn tzz : Int32) (ss mas : Nat → Int32), 0 ≤ x7.toInt → x7.toInt + n = 9 → n < N → (∀ k, k < 50 → k ≠ 10 + 5 * x1.toNatClampNeg + 2 → k ≠ 10 + 5 * x2.toNatClampNeg + 2 → ss k = s k) → ∃ ss2 mas2 : Nat → Int32, (∀ k, k < 50 → k ≠ 10 + 5 * x1.toNatClampNeg + 2 → k ≠ 10 + 5 * x2.toNatClampNeg + 2 → ss2 k = s k) ∧ l_X6_pairFor_77 x3 i1 i2 (M + n) x5 x4 (x6 * 9 + x7) ss mas = l_X6_pairFor_77 x3 i1 i2 M (l_X5_pairFor_48 lw kd bt ph cn no ct sc rn lg dn zz x1 x2 x3 x6 N x4 x5 x7 tlw tkd tbt tph tcn tno tct tsc trn tlg tdn tzz).2.1 (l_X5_pairFor_48 lw kd bt ph cn no ct sc rn lg dn zz x1 x2 x3 x6 N x4 x5 x7 tlw tkd tbt tph tcn tno tct tsc trn tlg tdn tzz).1 (x6 * 9 + 9) ss2 mas2 := by
  have e8 : (8 : Int32).toInt = 8 := rfl
  intro n
  induction n with
  | zero =>
    intro N x4 x5 x7 tlw tkd tbt tph tcn tno tct tsc trn tlg tdn tzz ss mas h0 h1 hN hs
    have e9 : x7 = 9 := i32_eq.mpr (by rw [show (9 : Int32).toInt = 9 from rfl]; omega)
    obtain ⟨N', rfl⟩ : ∃ M, N = M + 1 := ⟨N - 1, by omega⟩
    refine ⟨ss, mas, hs, ?_⟩
    rw [l_X5_pairFor_48, if_pos (show (8 : Int32) < x7 by rw [e9]; decide), Nat.add_zero, e9]
  | succ n ih =>
    intro N x4 x5 x7 tlw tkd tbt tph tcn tno tct tsc trn tlg tdn tzz ss mas h0 h1 hN hs
    obtain ⟨N', rfl⟩ : ∃ M, N = M + 1 := ⟨N - 1, by omega⟩
    have ea := i32_add1 (i := x7) (by omega)
    have pt := pair_at (a := x6) (b := x7) h6 ⟨h0, by omega⟩
    rw [l_X5_pairFor_48, if_neg (show ¬ (8 : Int32) < x7 by rw [i32_lt, e8]; omega), show M + (n + 1) = (M + n) + 1 from rfl, l_X6_pairFor_77, if_neg pt.2.2, pt.2.1, pt.1, hi1, hi2]
    have h2 := rt_ph (rt_ph (rt_cpy (lw' := tlw) (kd' := tkd) (bt' := tbt) (ph' := tph) (cn' := tcn) (no' := tno) h) (k0 := x1.toNatClampNeg) (v := x6) (by rw [cl_nn hx1.1]; exact hx1.2) h6) (k0 := x2.toNatClampNeg) (v := x7) (by rw [cl_nn hx2.1]; exact hx2.2) ⟨h0, by omega⟩
    have hag : ∀ k, k < 50 → upd (upd ss (10 + 5 * x1.toNatClampNeg + 2) x6) (10 + 5 * x2.toNatClampNeg + 2) x7 k = upd (upd s (10 + 5 * x1.toNatClampNeg + 2) x6) (10 + 5 * x2.toNatClampNeg + 2) x7 k := fun k hk => by
      by_cases ek : k = 10 + 5 * x2.toNatClampNeg + 2
      · rw [ek, pk_us, pk_us]
      · rw [pk_un ek, pk_un ek]
        by_cases ek2 : k = 10 + 5 * x1.toNatClampNeg + 2
        · rw [ek2, pk_us, pk_us]
        · rw [pk_un ek2, pk_un ek2]; exact hs k hk ek2 ek
    have h3 := rt_same h2 hag
    have hl := rt_length (mas := mas) h3 x3
    have hk := len_keep (s := upd (upd ss (10 + 5 * x1.toNatClampNeg + 2) x6) (10 + 5 * x2.toNatClampNeg + 2) x7) (mas := mas) (x1 := x3) (x2 := 0)
    generalize f_X4_longestWithin (va_cpy lw tlw 0 0 4) (va_cpy kd tkd 0 0 8) (va_cpy bt tbt 0 0 8) (upd (upd (va_cpy ph tph 0 0 8) x1.toNatClampNeg x6) x2.toNatClampNeg x7) ct sc rn lg dn x3 = p at hl ⊢
    obtain ⟨p0, p1, p2, p3, p4⟩ := p
    generalize f_X6_lengthBy (upd (upd ss (10 + 5 * x1.toNatClampNeg + 2) x6) (10 + 5 * x2.toNatClampNeg + 2) x7) mas x3 0 = q at hl hk ⊢
    obtain ⟨q0, q1, q2⟩ := q
    have e0 : p0 = q0 := hl
    rw [pr5_mk, pr3_mk, pr1_mk, e0, ← best_eq, show x6 * 9 + x7 + 1 = x6 * 9 + (x7 + 1) from Int32.add_assoc _ _ _]
    have hs2 : ∀ k, k < 50 → k ≠ 10 + 5 * x1.toNatClampNeg + 2 → k ≠ 10 + 5 * x2.toNatClampNeg + 2 → q1 k = s k := fun k hk2 n1 n2 => by
      have q : q1 k = _ := hk k hk2
      rw [q, pk_un n2, pk_un n1]; exact hs k hk2 n1 n2
    by_cases c2 : q0 ≤ x4
    · rw [if_pos c2, if_pos c2, if_pos c2, pr2_mk]; exact ih N' _ _ _ _ _ _ _ _ _ _ _ _ _ _ _ _ _ (by omega) (by omega) (by omega) hs2
    · rw [if_neg c2, if_neg c2, if_neg c2, pr2_mk]; exact ih N' _ _ _ _ _ _ _ _ _ _ _ _ _ _ _ _ _ (by omega) (by omega) (by omega) hs2
theorem e_pairOut {x1 x2 x3 i1 i2 : Int32} (h : RT lw kd bt ph cn no ct sc rn lg dn zz s) (hx1 : 0 ≤ x1.toInt ∧ x1.toInt < ct.toInt) (hx2 : 0 ≤ x2.toInt ∧ x2.toInt < ct.toInt) (hi1 : i1.toNatClampNeg = 10 + 5 * x1.toNatClampNeg + 2) (hi2 : i2.toNatClampNeg = 10 + 5 * x2.toNatClampNeg + 2) (M : Nat) : ∀ (n N : Nat) (x4 x5 x6 : Int32) (tlw tkd tbt tph tcn tno : Nat → Int32) (tct tsc trn tlg tdn tzz : Int32) (ss mas : Nat → Int32), 0 ≤ x6.toInt → x6.toInt + n = 9 → n < N → (∀ k, k < 50 → k ≠ 10 + 5 * x1.toNatClampNeg + 2 → k ≠ 10 + 5 * x2.toNatClampNeg + 2 → ss k = s k) → (l_X5_pairFor_38 lw kd bt ph cn no ct sc rn lg dn zz x1 x2 x3 N x4 x5 x6 tlw tkd tbt tph tcn tno tct tsc trn tlg tdn tzz).2.1 = (l_X6_pairFor_77 x3 i1 i2 (M + 1 + 9 * n) x5 x4 (x6 * 9 + 0) ss mas).1 ∧ ∀ k, k < 50 → k ≠ 10 + 5 * x1.toNatClampNeg + 2 → k ≠ 10 + 5 * x2.toNatClampNeg + 2 → (l_X6_pairFor_77 x3 i1 i2 (M + 1 + 9 * n) x5 x4 (x6 * 9 + 0) ss mas).2.2.2.1 k = s k := by
  have e8 : (8 : Int32).toInt = 8 := rfl
  intro n
  induction n with
  | zero =>
    intro N x4 x5 x6 tlw tkd tbt tph tcn tno tct tsc trn tlg tdn tzz ss mas h0 h1 hN hs
    have e9 : x6 = 9 := i32_eq.mpr (by rw [show (9 : Int32).toInt = 9 from rfl]; omega)
    obtain ⟨N', rfl⟩ : ∃ M, N = M + 1 := ⟨N - 1, by omega⟩
    rw [l_X5_pairFor_38, if_pos (show (8 : Int32) < x6 by rw [e9]; decide), Nat.mul_zero, Nat.add_zero, l_X6_pairFor_77, if_pos (show (81 : Int32) ≤ x6 * 9 + 0 by rw [e9]; decide)]
    exact ⟨rfl, hs⟩
  | succ n ih =>
    intro N x4 x5 x6 tlw tkd tbt tph tcn tno tct tsc trn tlg tdn tzz ss mas h0 h1 hN hs
    obtain ⟨N', rfl⟩ : ∃ M, N = M + 1 := ⟨N - 1, by omega⟩
    have ea := i32_add1 (i := x6) (by omega)
    obtain ⟨ss2, mas2, hs2, eq⟩ := e_pairIn (x3 := x3) h hx1 hx2 hi1 hi2 ⟨h0, by omega⟩ (M + 1 + 9 * n) 9 300 x4 x5 0 tlw tkd tbt tph tcn tno tct tsc trn tlg tdn tzz ss mas (by decide) (by decide) (by decide) hs
    rw [l_X5_pairFor_38, if_neg (show ¬ (8 : Int32) < x6 by rw [i32_lt, e8]; omega), show M + 1 + 9 * (n + 1) = M + 1 + 9 * n + 9 from by omega, eq, show x6 * 9 + 9 = (x6 + 1) * 9 + 0 from by rw [Int32.add_mul, Int32.one_mul, Int32.add_zero]]
    generalize l_X5_pairFor_48 lw kd bt ph cn no ct sc rn lg dn zz x1 x2 x3 x6 300 x4 x5 0 tlw tkd tbt tph tcn tno tct tsc trn tlg tdn tzz = p
    obtain ⟨p0, p1, p2, p3, p4, p5, p6, p7, p8, p9, p10, p11, p12, p13, p14⟩ := p
    rw [pr15_mk]
    exact ih N' _ _ _ _ _ _ _ _ _ _ _ _ _ _ _ _ _ (by omega) (by omega) (by omega) hs2
theorem e_pairFor {mas : Nat → Int32} {tlw tkd tbt tph tcn tno : Nat → Int32} {tct tsc trn tlg tdn tzz : Int32} (h : RT lw kd bt ph cn no ct sc rn lg dn zz s) (x1 x2 x3 : Int32) : (f_X5_pairFor lw kd bt ph cn no ct sc rn lg dn zz tlw tkd tbt tph tcn tno tct tsc trn tlg tdn tzz x1 x2 x3).1 = (f_X6_pairFor s mas x1 x2 x3).1 ∧ ∀ k, k < 50 → (f_X6_pairFor s mas x1 x2 x3).2.1 k = s k := by
  unfold f_X5_pairFor f_X6_pairFor f_X5_isTrial f_X6_isShort
  rw [rt_has h, rt_has h, isin_eq (x := x3) (l := 1) (h := 30) rfl rfl]
  by_cases c1 : f_X4_has ct x1 = 0
  · rw [if_pos c1, if_pos c1, if_pos rfl]; exact ⟨rfl, fun _ _ => rfl⟩
  · rw [if_neg c1, if_neg c1]
    have hx := rt_in h c1
    by_cases c2 : f_X5_isIn x3 1 30 = 0
    · rw [if_pos c2, if_pos c2, if_pos rfl]
      refine ⟨?_, ?_⟩
      · split
        · rfl
        · split <;> rfl
      · intro k _
        split
        · rfl
        · split <;> rfl
    · rw [if_neg c2, if_neg c2, if_neg i1n0]
      by_cases c3 : f_X4_has ct x2 = 0
      · rw [if_pos c3, if_pos c3]; exact ⟨rfl, fun _ _ => rfl⟩
      · rw [if_neg c3, if_neg c3]
        have hy := rt_in h c3
        by_cases c4 : x1 = x2
        · rw [if_pos c4, if_pos c4]; exact ⟨rfl, fun _ _ => rfl⟩
        · rw [if_neg c4, if_neg c4]
          have ei := its_ix (o := x1) (w := 2) hx.1 hx.2.2 (by decide) (by decide)
          have ej := its_ix (o := x2) (w := 2) hy.1 hy.2.2 (by decide) (by decide)
          rw [show (2 : Int32).toNatClampNeg = 2 from rfl] at ei ej
          have hp := e_pairOut (x3 := x3) h ⟨hx.1, hx.2.1⟩ ⟨hy.1, hy.2.1⟩ ei ej 218 9 300 (-1) 0 0 tlw tkd tbt tph tcn tno tct tsc trn tlg tdn tzz s mas (by decide) (by decide) (by decide) (fun _ _ _ _ => rfl)
          rw [show (0 : Int32) * 9 + 0 = 0 from rfl, show 218 + 1 + 9 * 9 = 300 from rfl] at hp
          rw [ei, ej]
          generalize l_X5_pairFor_38 lw kd bt ph cn no ct sc rn lg dn zz x1 x2 x3 300 (-1) 0 0 tlw tkd tbt tph tcn tno tct tsc trn tlg tdn tzz = p at hp ⊢
          obtain ⟨p0, p1, p2, p3, p4, p5, p6, p7, p8, p9, p10, p11, p12, p13, p14⟩ := p
          generalize l_X6_pairFor_77 x3 (((10 : Int32) + ((5 : Int32) * x1)) + 2) (((10 : Int32) + ((5 : Int32) * x2)) + 2) 300 0 (-1) 0 s mas = q at hp ⊢
          obtain ⟨q0, q1, q2, q3, q4⟩ := q
          rw [pr15_mk, pr5_mk]
          refine ⟨hp.1, fun k hk => ?_⟩
          show upd (upd q3 (10 + 5 * x1.toNatClampNeg + 2) (s (10 + 5 * x1.toNatClampNeg + 2))) (10 + 5 * x2.toNatClampNeg + 2) (s (10 + 5 * x2.toNatClampNeg + 2)) k = s k
          by_cases e : k = 10 + 5 * x2.toNatClampNeg + 2
          · rw [e, pk_us]
          · rw [pk_un e]
            by_cases e2 : k = 10 + 5 * x1.toNatClampNeg + 2
            · rw [e2, pk_us]
            · rw [pk_un e2]; exact hp.2 k hk e2 e
end PU6
