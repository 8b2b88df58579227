/-! anew, keep, again; what is heard at a corner -/
abbrev T12 := (Nat → Int32) × (Nat → Int32) × (Nat → Int32) × (Nat → Int32) × (Nat → Int32) × (Nat → Int32) × Int32 × Int32 × Int32 × Int32 × Int32 × Int32
def RT12 (r : T12) (s : Nat → Int32) : Prop := RT r.1 r.2.1 r.2.2.1 r.2.2.2.1 r.2.2.2.2.1 r.2.2.2.2.2.1 r.2.2.2.2.2.2.1 r.2.2.2.2.2.2.2.1 r.2.2.2.2.2.2.2.2.1 r.2.2.2.2.2.2.2.2.2.1 r.2.2.2.2.2.2.2.2.2.2.1 r.2.2.2.2.2.2.2.2.2.2.2 s
theorem forgetL : ∀ (N : Nat) (x1 : Int32) (no : Nat → Int32), 0 ≤ x1.toInt → x1.toInt ≤ 8 → ((8 : Int) - x1.toInt).toNat < N → (∀ k : Nat, (k : Int) < x1.toInt → no k = 0) → ∀ k : Nat, k < 8 → (l_X4_forget_17 N x1 no).2 k = 0 := by
  intro N
  induction N with
  | zero => intro x1 no _ _ h; exact absurd h (Nat.not_lt_zero _)
  | succ N ih =>
    intro x1 no h0 h1 hm hq k hk
    rw [l_X4_forget_17]
    by_cases c : (8 : Int32) ≤ x1
    · rw [if_pos c]
      rw [i32_le, show (8 : Int32).toInt = 8 from rfl] at c
      exact hq k (by omega)
    · rw [if_neg c]
      have hs := cnt_step (B := 8) h0 (by decide) (by decide) c
      have e1 := i32_add1 (i := x1) (by omega)
      have ec := cl_nn h0
      refine ih _ _ hs.1 hs.2.1 (by omega) (fun j hj => ?_) k hk
      by_cases ej : j = x1.toNatClampNeg
      · rw [ej]; exact pk_us
      · rw [pk_un ej]; exact hq j (by omega)
theorem listens13 : ∀ (N : Nat) (x1 : Int32) (no : Nat → Int32), 0 ≤ x1.toInt → x1.toInt ≤ 12 → ((12 : Int) - x1.toInt).toNat < N → (∀ k : Nat, (k : Int) < x1.toInt → no k = 0) → ∀ k : Nat, k < 12 → (l_X6_listens_13 N x1 no).2 k = 0 := by
  intro N
  induction N with
  | zero => intro x1 no _ _ h; exact absurd h (Nat.not_lt_zero _)
  | succ N ih =>
    intro x1 no h0 h1 hm hq k hk
    rw [l_X6_listens_13]
    by_cases c : (12 : Int32) ≤ x1
    · rw [if_pos c]
      rw [i32_le, show (12 : Int32).toInt = 12 from rfl] at c
      exact hq k (by omega)
    · rw [if_neg c]
      have hs := cnt_step (B := 12) h0 (by decide) (by decide) c
      have e1 := i32_add1 (i := x1) (by omega)
      have ec := cl_nn h0
      refine ih _ _ hs.1 hs.2.1 (by omega) (fun j hj => ?_) k hk
      by_cases ej : j = x1.toNatClampNeg
      · rw [ej]; exact pk_us
      · rw [pk_un ej]; exact hq j (by omega)
theorem keepL (ss : Nat → Int32) : ∀ (N : Nat) (x2 : Int32) (mas : Nat → Int32), 0 ≤ x2.toInt → x2.toInt ≤ 50 → ((50 : Int) - x2.toInt).toNat < N → (∀ k : Nat, (k : Int) < x2.toInt → mas k = ss k) → ∀ k : Nat, k < 50 → (l_X6_keep_2 ss N x2 mas).2 k = ss k := by
  intro N
  induction N with
  | zero => intro x2 mas _ _ h; exact absurd h (Nat.not_lt_zero _)
  | succ N ih =>
    intro x2 mas h0 h1 hm hq k hk
    rw [l_X6_keep_2]
    by_cases c : (50 : Int32) ≤ x2
    · rw [if_pos c]
      rw [i32_le, show (50 : Int32).toInt = 50 from rfl] at c
      exact hq k (by omega)
    · rw [if_neg c]
      have hs := cnt_step (B := 50) h0 (by decide) (by decide) c
      have e1 := i32_add1 (i := x2) (by omega)
      have ec := cl_nn h0
      refine ih _ _ hs.1 hs.2.1 (by omega) (fun j hj => ?_) k hk
      by_cases ej : j = x2.toNatClampNeg
      · rw [ej]; exact pk_us
      · rw [pk_un ej]; exact hq j (by omega)
theorem againL (mhd : Nat → Int32) : ∀ (N : Nat) (x2 : Int32) (ss : Nat → Int32), 0 ≤ x2.toInt → x2.toInt ≤ 50 → ((50 : Int) - x2.toInt).toNat < N → (∀ k : Nat, (k : Int) < x2.toInt → ss k = mhd k) → ∀ k : Nat, k < 50 → (l_X6_again_12 mhd N x2 ss).2 k = mhd k := by
  intro N
  induction N with
  | zero => intro x2 ss _ _ h; exact absurd h (Nat.not_lt_zero _)
  | succ N ih =>
    intro x2 ss h0 h1 hm hq k hk
    rw [l_X6_again_12]
    by_cases c : (50 : Int32) ≤ x2
    · rw [if_pos c]
      rw [i32_le, show (50 : Int32).toInt = 50 from rfl] at c
      exact hq k (by omega)
    · rw [if_neg c]
      have hs := cnt_step (B := 50) h0 (by decide) (by decide) c
      have e1 := i32_add1 (i := x2) (by omega)
      have ec := cl_nn h0
      refine ih _ _ hs.1 hs.2.1 (by omega) (fun j hj => ?_) k hk
      by_cases ej : j = x2.toNatClampNeg
      · rw [ej]; exact pk_us
      · rw [pk_un ej]; exact hq j (by omega)
section PU7
variable {lw kd bt ph cn no s : Nat → Int32} {ct sc rn lg dn zz : Int32}
theorem anewL : ∀ (N : Nat) (x1 : Int32) (no s : Nat → Int32), 0 ≤ x1.toInt → x1.toInt ≤ ct.toInt → (ct.toInt - x1.toInt).toNat < N → RT lw kd bt ph cn no ct sc rn lg dn zz s → (∀ k : Nat, (k : Int) < x1.toInt → no k = 0) → ∃ no' : Nat → Int32, RT lw kd bt ph cn no' ct sc rn lg dn zz (l_X6_anew_2 N x1 s).2 ∧ ∀ k : Nat, (k : Int) < ct.toInt → no' k = 0 := by
  intro N
  induction N with
  | zero => intro x1 no s _ _ h; exact absurd h (Nat.not_lt_zero _)
  | succ N ih =>
    intro x1 no s h0 h1 hm h hq
    rw [l_X6_anew_2, h.1.1]
    by_cases c : ct ≤ x1
    · rw [if_pos c]
      rw [i32_le] at c
      exact ⟨no, h, fun k hk => hq k (by omega)⟩
    · rw [if_neg c]
      have hs := cnt_step (B := 8) h0 h.2.2.1.2 (by decide) c
      have hlt : x1.toInt < ct.toInt := by have := mt i32_le.mpr c; omega
      have e1 := i32_add1 (i := x1) (by omega)
      have ec := cl_nn h0
      have ei := its_ix (o := x1) (w := 4) h0 hs.2.2.2 (by decide) (by decide)
      rw [show (4 : Int32).toNatClampNeg = 4 from rfl] at ei
      rw [ei]
      refine ih _ (upd no x1.toNatClampNeg 0) _ hs.1 (by omega) (by omega) (rt_no h (by rw [ec]; exact hlt) (by decide)) (fun k hk => ?_)
      by_cases e : k = x1.toNatClampNeg
      · rw [e]; exact pk_us
      · rw [pk_un e]; exact hq k (by omega)
theorem rt_run0 (h : RT lw kd bt ph cn no ct sc rn lg dn zz s) : RT lw kd bt ph cn no ct sc 0 0 0 zz (upd (upd (upd s 4 0) 5 0) 3 0) := by
  obtain ⟨⟨a0, a1, a2, a3, a4, a5⟩, ⟨a6, a7, a8, a9⟩, hc, hr, hd, hl, hk⟩ := h
  have q : ∀ k : Nat, k ≠ 3 → k ≠ 4 → k ≠ 5 → upd (upd (upd s 4 0) 5 0) 3 0 k = s k := fun k k3 k4 k5 => by rw [pk_un k3, pk_un k5, pk_un k4]
  refine ⟨⟨(q 0 (by decide) (by decide) (by decide)).trans a0, (q 1 (by decide) (by decide) (by decide)).trans a1, (q 2 (by decide) (by decide) (by decide)).trans a2, pk_us, ?_, ?_⟩, ⟨(q 6 (by decide) (by decide) (by decide)).trans a6, (q 7 (by decide) (by decide) (by decide)).trans a7, (q 8 (by decide) (by decide) (by decide)).trans a8, (q 9 (by decide) (by decide) (by decide)).trans a9⟩, hc, by decide, .inl rfl, hl, fun k hk2 => rp_of (hk k hk2) (fun w hw => q _ (by omega) (by omega) (by omega)) rfl rfl rfl rfl rfl⟩
  · rw [pk_un (by decide), pk_un (by decide), pk_us]
  · rw [pk_un (by decide), pk_us]
theorem rt_noE {no' : Nat → Int32} (h : RT lw kd bt ph cn no ct sc rn lg dn zz s) (e : ∀ k : Nat, (k : Int) < ct.toInt → no' k = no k) : RT lw kd bt ph cn no' ct sc rn lg dn zz s := rt_of h (fun _ _ => rfl) (fun k hk => rp_of (h.2.2.2.2.2.2 k hk) (fun _ _ => rfl) rfl rfl rfl rfl (e k hk))
theorem e_anew (h : RT lw kd bt ph cn no ct sc rn lg dn zz s) : (f_X5_anew no rn).1 = (f_X6_anew s).1 ∧ RT lw kd bt ph cn (f_X5_anew no rn).2.1 ct sc (f_X5_anew no rn).2.2.1 (f_X5_anew no rn).2.2.2.1 (f_X5_anew no rn).2.2.2.2 zz (f_X6_anew s).2 := by
  have hct := h.2.2.1
  have hf := forgetL 300 0 no (by decide) (by decide) (by decide) (fun k hk => by rw [z0I] at hk; omega)
  obtain ⟨no', hr, hz⟩ := anewL 300 0 no s (by decide) hct.1 (by rw [z0I]; omega) h (fun k hk => by rw [z0I] at hk; omega)
  unfold f_X5_anew f_X4_forget f_X6_anew f_X6_becomes
  generalize l_X4_forget_17 300 0 no = p at hf ⊢
  obtain ⟨p0, p1⟩ := p
  generalize l_X6_anew_2 300 0 s = q at hr ⊢
  obtain ⟨q0, q1⟩ := q
  have hf' : ∀ k : Nat, k < 8 → p1 k = 0 := hf
  have hr' : RT lw kd bt ph cn no' ct sc rn lg dn zz q1 := hr
  simp only [pr2_mk, pr4_mk, show (3 : Int32).toNatClampNeg = 3 from rfl]
  refine ⟨?_, rt_noE (rt_run0 hr') (fun k hk => by rw [hf' k (by omega), hz k hk])⟩
  rw [pk_un (by decide), pk_un (by decide)]
  exact hr'.1.2.2.2.1.symm
theorem e_keep {mhd lw' kd' bt' ph' cn' no' : Nat → Int32} (h : RT lw kd bt ph cn no ct sc rn lg dn zz s) : (f_X5_keep lw kd bt ph cn no ct sc rn lg dn zz lw' kd' bt' ph' cn' no').1 = (f_X6_keep s mhd).1 ∧ (f_X5_keep lw kd bt ph cn no ct sc rn lg dn zz lw' kd' bt' ph' cn' no').2.1 = 1 ∧ (f_X6_keep s mhd).2.2 = 1 ∧ RT12 (f_X5_keep lw kd bt ph cn no ct sc rn lg dn zz lw' kd' bt' ph' cn' no').2.2 (f_X6_keep s mhd).2.1 := by
  have hl := keepL s 300 0 mhd (by decide) (by decide) (by decide) (fun k hk => by rw [z0I] at hk; omega)
  unfold f_X5_keep f_X6_keep
  generalize l_X6_keep_2 s 300 0 mhd = q at hl ⊢
  obtain ⟨q0, q1⟩ := q
  rw [pr2_mk]
  exact ⟨rfl, rfl, rfl, rt_same (rt_cpy h) hl⟩
theorem e_again {mhd : Nat → Int32} {isv mih : Int32} {slw skd sbt sph scn sno : Nat → Int32} {sct ssc srn slg sdn szz : Int32} (h : RT lw kd bt ph cn no ct sc rn lg dn zz s) (hi : isv = mih) (h2 : ¬ isv = 0 → RT slw skd sbt sph scn sno sct ssc srn slg sdn szz mhd) : (f_X5_again isv lw kd bt ph cn no ct sc rn lg dn zz slw skd sbt sph scn sno sct ssc srn slg sdn szz).1 = (f_X6_again s mhd mih).1 ∧ RT12 (f_X5_again isv lw kd bt ph cn no ct sc rn lg dn zz slw skd sbt sph scn sno sct ssc srn slg sdn szz).2 (f_X6_again s mhd mih).2 := by
  have hl := againL mhd 300 0 s (by decide) (by decide) (by decide) (fun k hk => by rw [z0I] at hk; omega)
  unfold f_X5_again f_X6_again
  rw [hi]
  by_cases c : mih = 0
  · rw [if_pos c, if_pos c]; exact ⟨rfl, h⟩
  · rw [if_neg c, if_neg c]
    have h3 := h2 (by rw [hi]; exact c)
    generalize l_X6_again_12 mhd 300 0 s = q at hl ⊢
    obtain ⟨q0, q1⟩ := q
    rw [pr2_mk]
    have h4 : RT slw skd sbt sph scn sno sct ssc srn slg sdn szz q1 := rt_same h3 hl
    exact ⟨h4.1.1.symm, rt_cpy h4⟩
end PU7
theorem listens47 {ss : Nat → Int32} {x3 : Int32} : ∀ (N : Nat) (x4 : Int32) (mld : Nat → Int32), 0 ≤ x4.toInt → x4.toInt ≤ 12 → ((12 : Int) - x4.toInt).toNat < N → ∀ y : Int32, 0 ≤ y.toInt → y.toInt < 12 → (l_X6_listens_47 ss x3 N x4 mld).2 y.toNatClampNeg = if y.toInt < x4.toInt then mld y.toNatClampNeg else mld y.toNatClampNeg + (if f_X6_heardOf ss x3 y = 0 then (0 : Int32) else (1 : Int32)) := by
  intro N
  induction N with
  | zero => intro x4 mld _ _ h; exact absurd h (Nat.not_lt_zero _)
  | succ N ih =>
    intro x4 mld h0 h1 hm y y0 y1
    rw [l_X6_listens_47]
    by_cases c : (12 : Int32) ≤ x4
    · rw [if_pos c]
      rw [i32_le, show (12 : Int32).toInt = 12 from rfl] at c
      rw [if_pos (by omega)]
    · rw [if_neg c, pr1_mk]
      have hs := cnt_step (B := 12) h0 (by decide) (by decide) c
      have e1 := i32_add1 (i := x4) (by omega)
      have ec := cl_nn h0
      have ey := cl_nn y0
      rw [ih _ _ hs.1 hs.2.1 (by omega) y y0 y1, e1]
      by_cases e : y = x4
      · subst e
        rw [if_pos (show y.toInt < y.toInt + 1 by omega), if_neg (show ¬ y.toInt < y.toInt by omega), pk_us]
      · have e' : ¬ y.toInt = x4.toInt := fun q => e (i32_eq.mpr q)
        rw [pk_un (by omega)]
        by_cases d : y.toInt < x4.toInt
        · rw [if_pos d, if_pos (by omega)]
        · rw [if_neg d, if_neg (by omega)]
section PU8
variable {lw kd bt ph cn : Nat → Int32} {ct zz : Int32}
theorem rt_hearL {x1 x2 : Int32} (hx : 0 ≤ x1.toInt ∧ x1.toInt ≤ 11) : ∀ (N : Nat) (x3 x4 : Int32) (no : Nat → Int32) (sc rn lg dn : Int32) (s mld : Nat → Int32), RT lw kd bt ph cn no ct sc rn lg dn zz s → mld x1.toNatClampNeg = x3 → (l_X5_secondsHeard_16 lw kd bt ph cn ct x1 x2 N x3 x4 sc rn lg dn).1 = (l_X6_listens_34 x2 N x4 s mld).2.2 x1.toNatClampNeg := by
  intro N
  induction N with
  | zero => intro x3 x4 no sc rn lg dn s mld _ hm; rw [l_X5_secondsHeard_16, l_X6_listens_34]; exact hm.symm
  | succ N ih =>
    intro x3 x4 no sc rn lg dn s mld h hm
    rw [l_X5_secondsHeard_16, l_X6_listens_34]
    by_cases c : x2 ≤ x4
    · rw [if_pos c, if_pos c]; exact hm.symm
    · rw [if_neg c, if_neg c, rt_sounding h]
      have hp := rt_goesBy (f_X4_soundingSet lw kd bt ph ct sc rn) h
      have h47 := listens47 (ss := s) (x3 := f_X4_soundingSet lw kd bt ph ct sc rn) 300 0 mld (by decide) (by decide) (by decide) x1 hx.1 (by omega)
      rw [if_neg (by rw [z0I]; omega), rt_heard h hx, hm] at h47
      generalize l_X6_listens_47 s (f_X4_soundingSet lw kd bt ph ct sc rn) 300 0 mld = p at h47 ⊢
      obtain ⟨p0, p1⟩ := p
      generalize f_X4_endSecond lw sc rn lg dn (f_X4_soundingSet lw kd bt ph ct sc rn) = q at hp ⊢
      obtain ⟨q0, q1, q2, q3⟩ := q
      rw [pr2_mk, pr1_mk, pr1_mk, pr4_mk]
      refine ih _ _ _ _ _ _ _ _ _ hp ?_
      have h47' : p1 x1.toNatClampNeg = x3 + (if f_X4_heardOf lw kd ph cn ct (f_X4_soundingSet lw kd bt ph ct sc rn) x1 = 0 then (0 : Int32) else (1 : Int32)) := h47
      rw [h47']
      by_cases d : f_X4_heardOf lw kd ph cn ct (f_X4_soundingSet lw kd bt ph ct sc rn) x1 = 0
      · rw [if_pos d, if_pos d, Int32.add_zero]
      · rw [if_neg d, if_neg d]
theorem hearB {x1 x2 : Int32} (h2 : x2.toInt ≤ 60) : ∀ (N : Nat) (x3 x4 sc rn lg dn : Int32), x3.toInt ≤ x4.toInt → 0 ≤ x4.toInt → x4.toInt ≤ 60 → (l_X5_secondsHeard_16 lw kd bt ph cn ct x1 x2 N x3 x4 sc rn lg dn).1.toInt ≤ 60 := by
  intro N
  induction N with
  | zero => intro x3 x4 sc rn lg dn h _ h4; rw [l_X5_secondsHeard_16]; show x3.toInt ≤ 60; omega
  | succ N ih =>
    intro x3 x4 sc rn lg dn h h0 h4
    rw [l_X5_secondsHeard_16]
    by_cases c : x2 ≤ x4
    · rw [if_pos c]; show x3.toInt ≤ 60; omega
    · rw [if_neg c]
      have hs := cnt_step (B := 60) h0 h2 (by decide) c
      have e1 := i32_add1 (i := x4) (by omega)
      have e3 := i32_add1 (i := x3) (by omega)
      generalize f_X4_endSecond lw sc rn lg dn (f_X4_soundingSet lw kd bt ph ct sc rn) = q
      obtain ⟨q0, q1, q2, q3⟩ := q
      rw [pr1_mk, pr4_mk]
      refine ih _ _ _ _ _ _ ?_ hs.1 hs.2.1
      by_cases d : f_X4_heardOf lw kd ph cn ct (f_X4_soundingSet lw kd bt ph ct sc rn) x1 = 0
      · rw [if_pos d]; omega
      · rw [if_neg d]; omega
theorem heard_le {no : Nat → Int32} {sc rn lg dn x1 x2 : Int32} {tlw tkd tbt tph tcn tno : Nat → Int32} (h2 : x2.toInt ≤ 60) : (f_X5_secondsHeard lw kd bt ph cn no ct sc rn lg dn zz tlw tkd tbt tph tcn tno x1 x2).1.toInt ≤ 60 := by
  unfold f_X5_secondsHeard
  have hb := hearB (lw := va_cpy lw tlw 0 0 4) (kd := va_cpy kd tkd 0 0 8) (bt := va_cpy bt tbt 0 0 8) (ph := va_cpy ph tph 0 0 8) (cn := va_cpy cn tcn 0 0 8) (ct := ct) (x1 := x1) h2 300 0 0 sc rn lg dn (by decide) (by decide) (by decide)
  generalize l_X5_secondsHeard_16 (va_cpy lw tlw 0 0 4) (va_cpy kd tkd 0 0 8) (va_cpy bt tbt 0 0 8) (va_cpy ph tph 0 0 8) (va_cpy cn tcn 0 0 8) ct x1 x2 300 0 0 sc rn lg dn = p at hb ⊢
  obtain ⟨p0, p1, p2, p3, p4, p5⟩ := p
  rw [pr6_mk]
  exact hb
theorem listens_at {no s mas mld : Nat → Int32} {sc rn lg dn x2 : Int32} (h : RT lw kd bt ph cn no ct sc rn lg dn zz s) : (∀ (y : Int32) (tlw tkd tbt tph tcn tno : Nat → Int32), 0 ≤ y.toInt → y.toInt ≤ 11 → (f_X5_secondsHeard lw kd bt ph cn no ct sc rn lg dn zz tlw tkd tbt tph tcn tno y x2).1 = (f_X6_listens s mas mld x2).2.2 y.toNatClampNeg) ∧ ∀ k, k < 50 → (f_X6_listens s mas mld x2).1 k = s k := by
  have h13 := listens13 300 0 mld (by decide) (by decide) (by decide) (fun k hk => by rw [z0I] at hk; omega)
  unfold f_X6_listens
  generalize l_X6_listens_13 300 0 mld = p at h13 ⊢
  obtain ⟨p0, p1⟩ := p
  rw [pr1_mk, pr2_mk]
  have hL : ∀ (y : Int32) (tlw tkd tbt tph tcn tno : Nat → Int32), 0 ≤ y.toInt → y.toInt ≤ 11 → (f_X5_secondsHeard lw kd bt ph cn no ct sc rn lg dn zz tlw tkd tbt tph tcn tno y x2).1 = (l_X6_listens_34 x2 300 0 s p1).2.2 y.toNatClampNeg := fun y tlw tkd tbt tph tcn tno y0 y1 => by
    have ey := cl_nn y0
    have hp := rt_hearL (x2 := x2) ⟨y0, y1⟩ 300 0 0 _ sc rn lg dn s p1 (rt_cpy (lw' := tlw) (kd' := tkd) (bt' := tbt) (ph' := tph) (cn' := tcn) (no' := tno) h) (h13 _ (by omega))
    unfold f_X5_secondsHeard
    generalize l_X5_secondsHeard_16 (va_cpy lw tlw 0 0 4) (va_cpy kd tkd 0 0 8) (va_cpy bt tbt 0 0 8) (va_cpy ph tph 0 0 8) (va_cpy cn tcn 0 0 8) ct y x2 300 0 0 sc rn lg dn = q at hp ⊢
    obtain ⟨q0, q1, q2, q3, q4, q5⟩ := q
    rw [pr6_mk]
    exact hp
  generalize l_X6_listens_34 x2 300 0 s p1 = r at hL ⊢
  obtain ⟨r0, r1, r2⟩ := r
  rw [pr3_mk, pr1_mk]
  exact ⟨hL, back_s _⟩
theorem e_heard {no s mas mld : Nat → Int32} {sc rn lg dn : Int32} {tlw tkd tbt tph tcn tno : Nat → Int32} {tct tsc trn tlg tdn tzz : Int32} (h : RT lw kd bt ph cn no ct sc rn lg dn zz s) (x1 x2 : Int32) : (f_X5_heard lw kd bt ph cn no ct sc rn lg dn zz tlw tkd tbt tph tcn tno tct tsc trn tlg tdn tzz x1 x2).1 = (f_X6_heard s mas mld x1 x2).1 ∧ ∀ k, k < 50 → (f_X6_heard s mas mld x1 x2).2.1 k = s k := by
  unfold f_X5_heard f_X6_heard f_X6_isLong
  rw [crn_eq, isin_eq (x := x2) (l := 1) (h := 60) rfl rfl]
  by_cases c1 : f_X5_isCorner x1 = 0
  · rw [if_pos c1, if_pos c1]; exact ⟨rfl, fun _ _ => rfl⟩
  · rw [if_neg c1, if_neg c1]
    by_cases c2 : f_X5_isIn x2 1 60 = 0
    · rw [if_pos c2, if_pos c2]; exact ⟨rfl, fun _ _ => rfl⟩
    · rw [if_neg c2, if_neg c2]
      have hc := crn_rng c1
      obtain ⟨hl, hk⟩ := listens_at (mas := mas) (mld := mld) (x2 := x2) h
      have hp := hl x1 tlw tkd tbt tph tcn tno hc.1 hc.2
      generalize f_X5_secondsHeard lw kd bt ph cn no ct sc rn lg dn zz tlw tkd tbt tph tcn tno x1 x2 = p at hp ⊢
      obtain ⟨p0, p1, p2, p3, p4, p5, p6, p7, p8, p9, p10, p11, p12⟩ := p
      generalize f_X6_listens s mas mld x2 = q at hp hk ⊢
      obtain ⟨q0, q1, q2⟩ := q
      rw [pr13_mk, pr3_mk]
      exact ⟨hp, hk⟩
theorem e_calmL {no mld : Nat → Int32} {sc rn lg dn x1 : Int32} (hg : ∀ (y : Int32) (tlw tkd tbt tph tcn tno : Nat → Int32), 0 ≤ y.toInt → y.toInt ≤ 11 → (f_X5_secondsHeard lw kd bt ph cn no ct sc rn lg dn zz tlw tkd tbt tph tcn tno y x1).1 = mld y.toNatClampNeg) : ∀ (n N M : Nat) (x2 x3 x4 : Int32) (tlw tkd tbt tph tcn tno : Nat → Int32) (tct tsc trn tlg tdn tzz : Int32), 0 ≤ x4.toInt → x4.toInt + n = 12 → n < N → n < M → x2 = mld x3.toNatClampNeg → (l_X5_calm_20 lw kd bt ph cn no ct sc rn lg dn zz x1 N x2 x3 x4 tlw tkd tbt tph tcn tno tct tsc trn tlg tdn tzz).2.1 = (l_X6_calm_18 mld M x3 x4).1 := by
  intro n
  induction n with
  | zero =>
    intro N M x2 x3 x4 tlw tkd tbt tph tcn tno tct tsc trn tlg tdn tzz h0 h1 hN hM hx
    obtain ⟨N', rfl⟩ : ∃ M, N = M + 1 := ⟨N - 1, by omega⟩
    obtain ⟨M', rfl⟩ : ∃ N, M = N + 1 := ⟨M - 1, by omega⟩
    have c : (12 : Int32) ≤ x4 := by rw [i32_le, z12I]; omega
    rw [l_X5_calm_20, l_X6_calm_18, if_pos c, if_pos c]
  | succ n ih =>
    intro N M x2 x3 x4 tlw tkd tbt tph tcn tno tct tsc trn tlg tdn tzz h0 h1 hN hM hx
    obtain ⟨N', rfl⟩ : ∃ M, N = M + 1 := ⟨N - 1, by omega⟩
    obtain ⟨M', rfl⟩ : ∃ N, M = N + 1 := ⟨M - 1, by omega⟩
    have c : ¬ (12 : Int32) ≤ x4 := by rw [i32_le, z12I]; omega
    have ea := i32_add1 (i := x4) (by omega)
    rw [l_X5_calm_20, l_X6_calm_18, if_neg c, if_neg c]
    have hp := hg x4 tlw tkd tbt tph tcn tno h0 (by omega)
    generalize f_X5_secondsHeard lw kd bt ph cn no ct sc rn lg dn zz tlw tkd tbt tph tcn tno x4 x1 = p at hp ⊢
    obtain ⟨p0, p1, p2, p3, p4, p5, p6, p7, p8, p9, p10, p11, p12⟩ := p
    have e0 : p0 = mld x4.toNatClampNeg := hp
    rw [pr13_mk, e0, hx]
    by_cases c2 : mld x3.toNatClampNeg ≤ mld x4.toNatClampNeg
    · rw [if_pos c2, if_pos c2, pr2_mk, pr1_mk]
      exact ih _ _ _ _ _ _ _ _ _ _ _ _ _ _ _ _ _ (by omega) (by omega) (by omega) (by omega) rfl
    · rw [if_neg c2, if_neg c2, pr2_mk, pr1_mk]
      exact ih _ _ _ _ _ _ _ _ _ _ _ _ _ _ _ _ _ (by omega) (by omega) (by omega) (by omega) rfl
theorem e_calm {no s mas mld : Nat → Int32} {sc rn lg dn : Int32} {tlw tkd tbt tph tcn tno : Nat → Int32} {tct tsc trn tlg tdn tzz : Int32} (h : RT lw kd bt ph cn no ct sc rn lg dn zz s) (x1 : Int32) : (f_X5_calm lw kd bt ph cn no ct sc rn lg dn zz tlw tkd tbt tph tcn tno tct tsc trn tlg tdn tzz x1).1 = (f_X6_calm s mas mld x1).1 ∧ ∀ k, k < 50 → (f_X6_calm s mas mld x1).2.1 k = s k := by
  unfold f_X5_calm f_X6_calm f_X6_isLong
  rw [isin_eq (x := x1) (l := 1) (h := 60) rfl rfl]
  by_cases c1 : f_X5_isIn x1 1 60 = 0
  · rw [if_pos c1, if_pos c1]; exact ⟨rfl, fun _ _ => rfl⟩
  · rw [if_neg c1, if_neg c1]
    obtain ⟨hl, hk⟩ := listens_at (mas := mas) (mld := mld) (x2 := x1) h
    have hx : x1.toInt ≤ 60 := (in_isIn c1).2
    generalize f_X6_listens s mas mld x1 = q at hl hk ⊢
    obtain ⟨q0, q1, q2⟩ := q
    have hg : ∀ (y : Int32) (tlw tkd tbt tph tcn tno : Nat → Int32), 0 ≤ y.toInt → y.toInt ≤ 11 → (f_X5_secondsHeard lw kd bt ph cn no ct sc rn lg dn zz tlw tkd tbt tph tcn tno y x1).1 = q2 y.toNatClampNeg := hl
    have hp := hg 0 tlw tkd tbt tph tcn tno (by decide) (by decide)
    have hb := heard_le (lw := lw) (kd := kd) (bt := bt) (ph := ph) (cn := cn) (ct := ct) (zz := zz) (no := no) (sc := sc) (rn := rn) (lg := lg) (dn := dn) (x1 := 0) (tlw := tlw) (tkd := tkd) (tbt := tbt) (tph := tph) (tcn := tcn) (tno := tno) hx
    have e1 : ∀ N : Nat, l_X5_calm_20 lw kd bt ph cn no ct sc rn lg dn zz x1 (N + 1) 61 0 0 tlw tkd tbt tph tcn tno tct tsc trn tlg tdn tzz = pr13 (f_X5_secondsHeard lw kd bt ph cn no ct sc rn lg dn zz tlw tkd tbt tph tcn tno 0 x1) (fun r5 tlw_5 tkd_5 tbt_5 tph_5 tcn_5 tno_5 tct_5 tsc_5 trn_5 tlg_5 tdn_5 tzz_5 => pr2 (if ((61 : Int32) ≤ r5) then ((61 : Int32), (0 : Int32)) else (r5, (0 : Int32))) (fun j39_0 j39_1 => l_X5_calm_20 lw kd bt ph cn no ct sc rn lg dn zz x1 N j39_0 j39_1 ((0 : Int32) + 1) tlw_5 tkd_5 tbt_5 tph_5 tcn_5 tno_5 tct_5 tsc_5 trn_5 tlg_5 tdn_5 tzz_5)) := fun N => by
      rw [l_X5_calm_20, if_neg (by decide)]
    have e2 := e1 299
    rw [show (299 + 1 : Nat) = 300 from rfl] at e2
    rw [e2, pr3_mk]
    generalize f_X5_secondsHeard lw kd bt ph cn no ct sc rn lg dn zz tlw tkd tbt tph tcn tno 0 x1 = p at hp hb ⊢
    obtain ⟨p0, p1, p2, p3, p4, p5, p6, p7, p8, p9, p10, p11, p12⟩ := p
    have hp0 : p0 = q2 (0 : Int32).toNatClampNeg := hp
    have hb0 : p0.toInt ≤ 60 := hb
    rw [pr13_mk, if_neg (by rw [i32_le, show (61 : Int32).toInt = 61 from rfl]; omega), pr2_mk]
    have hc := e_calmL hg 11 299 300 p0 0 (0 + 1) p1 p2 p3 p4 p5 p6 p7 p8 p9 p10 p11 p12 (by decide) (by decide) (by decide) (by decide) hp0
    rw [show (0 : Int32) + 1 = 1 from rfl] at hc ⊢
    generalize l_X5_calm_20 lw kd bt ph cn no ct sc rn lg dn zz x1 299 p0 0 1 p1 p2 p3 p4 p5 p6 p7 p8 p9 p10 p11 p12 = r at hc ⊢
    obtain ⟨r0, r1, r2, r3, r4, r5, r6, r7, r8, r9, r10, r11, r12, r13, r14⟩ := r
    generalize l_X6_calm_18 q2 300 0 1 = t at hc ⊢
    obtain ⟨t0, t1⟩ := t
    rw [pr15_mk, pr2_mk]
    exact ⟨hc, hk⟩
end PU8
