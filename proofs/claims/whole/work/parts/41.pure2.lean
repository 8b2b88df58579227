/-! the tests of arguments, and the calls that read or write one thing -/
theorem lgc_lt {a b : Int64} : lg_cmp a b < 0 ↔ a.toInt < b.toInt := by
  unfold lg_cmp
  by_cases h : b < a
  · rw [if_pos h]
    rw [Int64.lt_iff_toInt_lt] at h
    exact ⟨fun c => absurd c (by decide), fun c => by omega⟩
  · rw [if_neg h]
    rw [Int64.lt_iff_toInt_lt] at h
    by_cases e : a = b
    · rw [if_pos e, e]
      exact ⟨fun c => absurd c (by decide), fun c => by omega⟩
    · rw [if_neg e]
      have e2 : ¬ a.toInt = b.toInt := fun q => e (Int64.toInt_inj.mp q)
      exact ⟨fun _ => by omega, fun _ => by decide⟩
theorem lgc_gt {a b : Int64} : 0 < lg_cmp a b ↔ b.toInt < a.toInt := by
  unfold lg_cmp
  by_cases h : b < a
  · rw [if_pos h]
    rw [Int64.lt_iff_toInt_lt] at h
    exact ⟨fun _ => h, fun _ => by decide⟩
  · rw [if_neg h]
    rw [Int64.lt_iff_toInt_lt] at h
    by_cases e : a = b
    · rw [if_pos e]
      exact ⟨fun c => absurd c (by decide), fun c => by omega⟩
    · rw [if_neg e]
      exact ⟨fun c => absurd c (by decide), fun c => by omega⟩
theorem isin_eq {x l h : Int32} {L H : Int64} (hl : L.toInt = l.toInt) (hh : H.toInt = h.toInt) : f_X6_isIn x.toInt64 L H = f_X5_isIn x l h := by
  unfold f_X6_isIn f_X5_isIn
  have e := Int32.toInt_toInt64 x
  by_cases c1 : x < l
  · have q1 : lg_cmp x.toInt64 L < 0 := by rw [lgc_lt, e, hl]; exact i32_lt.mp c1
    rw [if_pos c1, if_pos q1]
  · have q1 : ¬ lg_cmp x.toInt64 L < 0 := by rw [lgc_lt, e, hl]; exact fun q => c1 (i32_lt.mpr q)
    rw [if_neg c1, if_neg q1]
    by_cases c2 : h < x
    · have q2 : 0 < lg_cmp x.toInt64 H := by rw [lgc_gt, e, hh]; exact i32_lt.mp c2
      rw [if_pos c2, if_pos q2]
    · have q2 : ¬ 0 < lg_cmp x.toInt64 H := by rw [lgc_gt, e, hh]; exact fun q => c2 (i32_lt.mpr q)
      rw [if_neg c2, if_neg q2]
theorem isin_n {x l h : Int32} (c : ¬ (l.toInt ≤ x.toInt ∧ x.toInt ≤ h.toInt)) : f_X5_isIn x l h = 0 := by
  unfold f_X5_isIn
  by_cases c1 : x < l
  · rw [if_pos c1]
  · rw [if_neg c1]
    by_cases c2 : h < x
    · rw [if_pos c2]
    · rw [i32_lt] at c1 c2
      exact absurd ⟨by omega, by omega⟩ c
theorem isin_y {x l h : Int32} (c : l.toInt ≤ x.toInt ∧ x.toInt ≤ h.toInt) : f_X5_isIn x l h = 1 := by
  unfold f_X5_isIn
  rw [if_neg (by rw [i32_lt]; omega), if_neg (by rw [i32_lt]; omega)]
theorem crn_eq {x : Int32} : f_X6_isCorner x = f_X5_isCorner x := by
  unfold f_X6_isCorner f_X5_isCorner f_X5_isIn
  by_cases c1 : x < 0
  · rw [if_pos c1, if_pos c1]
  · rw [if_neg c1, if_neg c1]
    by_cases c2 : (12 : Int32) ≤ x
    · have c3 : (11 : Int32) < x := by
        rw [i32_le, z12I] at c2
        rw [i32_lt, show (11 : Int32).toInt = 11 from rfl]; omega
      rw [if_pos c2, if_pos c3]
    · have c3 : ¬ (11 : Int32) < x := by
        rw [i32_le, z12I] at c2
        rw [i32_lt, show (11 : Int32).toInt = 11 from rfl]; omega
      rw [if_neg c2, if_neg c3]
theorem crn_rng {x : Int32} (c : ¬ f_X5_isCorner x = 0) : 0 ≤ x.toInt ∧ x.toInt ≤ 11 := in_isIn (x := x) (l := 0) (h := 11) c
theorem ct_in {x ct : Int32} (hc : 0 ≤ ct.toInt) : f_X5_isIn x 0 (ct - 1) = if x < 0 then 0 else (if ct ≤ x then 0 else 1) := by
  have e := i32_sub1 hc
  unfold f_X5_isIn
  by_cases c1 : x < 0
  · rw [if_pos c1, if_pos c1]
  · rw [if_neg c1, if_neg c1]
    by_cases c2 : ct ≤ x
    · have c3 : ct - 1 < x := by rw [i32_le] at c2; rw [i32_lt]; omega
      rw [if_pos c2, if_pos c3]
    · have c3 : ¬ ct - 1 < x := by rw [i32_le] at c2; rw [i32_lt]; omega
      rw [if_neg c2, if_neg c3]
theorem four_or {x : Int32} (c : ¬ f_X5_isIn x 0 3 = 0) : x = 0 ∨ x = 1 ∨ x = 2 ∨ x = 3 := four_of (in_isIn4 c)
section PU3
variable {lw kd bt ph cn no s : Nat → Int32} {ct sc rn lg dn zz : Int32}
theorem rt_has (h : RT lw kd bt ph cn no ct sc rn lg dn zz s) {x : Int32} : f_X6_isOne s x = f_X4_has ct x := by
  unfold f_X6_isOne f_X4_has
  rw [ct_in h.2.2.1.1, h.1.1]
theorem rt_in (h : RT lw kd bt ph cn no ct sc rn lg dn zz s) {x : Int32} (c : ¬ f_X4_has ct x = 0) : 0 ≤ x.toInt ∧ x.toInt < ct.toInt ∧ x.toInt < 8 := by
  have q := in_hasI c h.2.2.1.1
  have := h.2.2.1.2
  omega
theorem rt_law (h : RT lw kd bt ph cn no ct sc rn lg dn zz s) {j : Nat} {v : Int32} (hj : j < 4) (hv : 0 ≤ v.toInt ∧ v.toInt ≤ 99) : RT (upd lw j v) kd bt ph cn no ct sc rn lg dn zz (upd s (6 + j) v) := by
  obtain ⟨⟨a0, a1, a2, a3, a4, a5⟩, ⟨a6, a7, a8, a9⟩, hc, hr, hd, hl, hk⟩ := h
  have q : ∀ i : Nat, i < 4 → s (6 + i) = lw i → upd s (6 + j) v (6 + i) = upd lw j v i := fun i _ e => by
    by_cases c : i = j
    · rw [c, pk_us, pk_us]
    · rw [pk_un (by omega), pk_un c]; exact e
  refine ⟨⟨(pk_un (by omega)).trans a0, (pk_un (by omega)).trans a1, (pk_un (by omega)).trans a2, (pk_un (by omega)).trans a3, (pk_un (by omega)).trans a4, (pk_un (by omega)).trans a5⟩, ⟨q 0 (by omega) a6, q 1 (by omega) a7, q 2 (by omega) a8, q 3 (by omega) a9⟩, hc, hr, hd, ?_, fun k hk2 => rp_of (hk k hk2) (fun w hw => pk_un (by omega)) rfl rfl rfl rfl rfl⟩
  by_cases c : 3 = j
  · rw [← c, pk_us]; exact hv
  · rw [pk_un c]; exact hl
theorem law_ix {x : Int32} (h : vp_in x 4) : ((6 : Int32) + x).toNatClampNeg = 6 + x.toNatClampNeg ∧ x.toNatClampNeg < 4 := by
  rcases four_of h with rfl | rfl | rfl | rfl <;> decide
theorem e_set (h : RT lw kd bt ph cn no ct sc rn lg dn zz s) (x1 x2 : Int32) : (f_X5_set lw x1 x2).1 = (f_X6_set s x1 x2).1 ∧ RT (f_X5_set lw x1 x2).2 kd bt ph cn no ct sc rn lg dn zz (f_X6_set s x1 x2).2 := by
  unfold f_X5_set f_X6_set f_X6_becomes
  rw [isin_eq (l := 0) (h := 3) rfl rfl]
  by_cases c1 : f_X5_isIn x1 0 3 = 0
  · rw [if_pos c1, if_pos c1]; exact ⟨rfl, h⟩
  · rw [if_neg c1, if_neg c1]
    have hx := law_ix (in_isIn4 c1)
    have hs : ∀ j : Nat, j < 4 → s (6 + j) = lw j := fun j hj => by
      obtain ⟨_, ⟨a6, a7, a8, a9⟩, _⟩ := h
      have : j = 0 ∨ j = 1 ∨ j = 2 ∨ j = 3 := by omega
      rcases this with rfl | rfl | rfl | rfl
      · exact a6
      · exact a7
      · exact a8
      · exact a9
    have key : f_X6_isIn x2.toInt64 (if x1 = 0 then (1 : Int64) else (0 : Int64)) (if x1 = 1 then (9 : Int64) else (99 : Int64)) = f_X5_isIn x2 (saG 1 x1.toNatClampNeg) (saG 2 x1.toNatClampNeg) ∧ 0 ≤ (saG 1 x1.toNatClampNeg).toInt ∧ (saG 2 x1.toNatClampNeg).toInt ≤ 99 := by
      rcases four_or c1 with rfl | rfl | rfl | rfl
      · exact ⟨isin_eq rfl rfl, by decide, by decide⟩
      · exact ⟨isin_eq rfl rfl, by decide, by decide⟩
      · exact ⟨isin_eq rfl rfl, by decide, by decide⟩
      · exact ⟨isin_eq rfl rfl, by decide, by decide⟩
    rw [pr1_mk, pr1_mk, key.1]
    by_cases c2 : f_X5_isIn x2 (saG 1 x1.toNatClampNeg) (saG 2 x1.toNatClampNeg) = 0
    · rw [if_pos c2, if_pos c2]; exact ⟨rfl, h⟩
    · rw [if_neg c2, if_neg c2, pr2_mk, hx.1]
      have q := in_isIn c2
      exact ⟨(hs _ hx.2).symm, rt_law h hx.2 (by omega)⟩
theorem rt_lw (h : RT lw kd bt ph cn no ct sc rn lg dn zz s) {j : Nat} (hj : j < 4) : s (6 + j) = lw j := by
  obtain ⟨_, ⟨a6, a7, a8, a9⟩, _⟩ := h
  have : j = 0 ∨ j = 1 ∨ j = 2 ∨ j = 3 := by omega
  rcases this with rfl | rfl | rfl | rfl
  · exact a6
  · exact a7
  · exact a8
  · exact a9
theorem e_lawOf (h : RT lw kd bt ph cn no ct sc rn lg dn zz s) (x1 : Int32) : f_X5_lawOf lw x1 = f_X6_lawOf s x1 := by
  unfold f_X5_lawOf f_X6_lawOf
  rw [isin_eq (l := 0) (h := 3) rfl rfl]
  by_cases c1 : f_X5_isIn x1 0 3 = 0
  · rw [if_pos c1, if_pos c1]
  · rw [if_neg c1, if_neg c1]
    have hx := law_ix (in_isIn4 c1)
    rw [hx.1, rt_lw h hx.2]
theorem rt_add {x1 x2 x3 x4 : Int32} (h : RT lw kd bt ph cn no ct sc rn lg dn zz s) (hc : ct.toInt < 8) (h1 : 0 ≤ x1.toInt ∧ x1.toInt ≤ 5) (h2 : 1 ≤ x2.toInt ∧ x2.toInt ≤ 9) (h3 : 0 ≤ x3.toInt ∧ x3.toInt ≤ 8) (h4 : 0 ≤ x4.toInt ∧ x4.toInt ≤ 11) : RT lw (upd kd ct.toNatClampNeg x1) (upd bt ct.toNatClampNeg x2) (upd ph ct.toNatClampNeg x3) (upd cn ct.toNatClampNeg x4) (upd no ct.toNatClampNeg 0) (ct + 1) sc rn lg dn zz (f_X6_comes s x1 x2 x3 x4) := by
  obtain ⟨⟨a0, a1, a2, a3, a4, a5⟩, ⟨a6, a7, a8, a9⟩, hct, hr, hd, hl, hk⟩ := h
  have hc1 := i32_add1 (i := ct) (by omega)
  have hcl := cl_nn hct.1
  have q := comes_at (s := s) (kd := x1) (bt := x2) (ph := x3) (cn := x4) (by rw [a0]; exact hct.1) (by rw [a0]; exact hc)
  rw [a0] at q
  have lo : ∀ j : Nat, j ≠ 0 → j < 10 → f_X6_comes s x1 x2 x3 x4 j = s j := fun j j0 j1 => by
    rw [q j, if_neg j0, if_neg (by omega), if_neg (by omega), if_neg (by omega), if_neg (by omega), if_neg (by omega)]
  refine ⟨⟨by rw [q 0, if_pos rfl], (lo 1 (by decide) (by decide)).trans a1, (lo 2 (by decide) (by decide)).trans a2, (lo 3 (by decide) (by decide)).trans a3, (lo 4 (by decide) (by decide)).trans a4, (lo 5 (by decide) (by decide)).trans a5⟩, ⟨(lo 6 (by decide) (by decide)).trans a6, (lo 7 (by decide) (by decide)).trans a7, (lo 8 (by decide) (by decide)).trans a8, (lo 9 (by decide) (by decide)).trans a9⟩, ⟨by omega, by omega⟩, hr, hd, hl, fun k hk2 => ?_⟩
  by_cases e : k = ct.toNatClampNeg
  · subst e
    refine ⟨⟨?_, ?_, ?_, ?_, ?_⟩, by rw [pk_us]; exact h1, by rw [pk_us]; exact h2, by rw [pk_us]; exact h3, by rw [pk_us]; exact h4, by rw [pk_us]; decide⟩
    · rw [q, if_neg (by omega), if_neg (by omega), if_neg (by omega), if_neg (by omega), if_neg (by omega), if_pos rfl, pk_us]
    · rw [q, if_neg (by omega), if_neg (by omega), if_neg (by omega), if_neg (by omega), if_pos rfl, pk_us]
    · rw [q, if_neg (by omega), if_neg (by omega), if_neg (by omega), if_pos rfl, pk_us]
    · rw [q, if_neg (by omega), if_neg (by omega), if_pos rfl, pk_us]
    · rw [q, if_neg (by omega), if_pos rfl, pk_us]
  · refine rp_of (hk k (by omega)) (fun w hw => ?_) (pk_un e) (pk_un e) (pk_un e) (pk_un e) (pk_un e)
    rw [q, if_neg (by omega), if_neg (by omega), if_neg (by omega), if_neg (by omega), if_neg (by omega), if_neg (by omega)]
theorem e_person (h : RT lw kd bt ph cn no ct sc rn lg dn zz s) (x1 x2 x3 x4 : Int32) : (f_X5_person kd bt ph cn no ct x1 x2 x3 x4).1 = (f_X6_person s x1 x2 x3 x4).1 ∧ RT lw (f_X5_person kd bt ph cn no ct x1 x2 x3 x4).2.1 (f_X5_person kd bt ph cn no ct x1 x2 x3 x4).2.2.1 (f_X5_person kd bt ph cn no ct x1 x2 x3 x4).2.2.2.1 (f_X5_person kd bt ph cn no ct x1 x2 x3 x4).2.2.2.2.1 (f_X5_person kd bt ph cn no ct x1 x2 x3 x4).2.2.2.2.2.1 (f_X5_person kd bt ph cn no ct x1 x2 x3 x4).2.2.2.2.2.2 sc rn lg dn zz (f_X6_person s x1 x2 x3 x4).2 := by
  unfold f_X5_person f_X6_person f_X5_isKind
  rw [isin_eq (x := x1) (l := 0) (h := 5) rfl rfl, isin_eq (x := x2) (l := 1) (h := 9) rfl rfl, isin_eq (x := x3) (l := 0) (h := 8) rfl rfl, crn_eq, h.1.1]
  by_cases c1 : f_X5_isIn x1 0 5 = 0
  · rw [if_pos c1, if_pos c1]; exact ⟨rfl, h⟩
  · rw [if_neg c1, if_neg c1]
    by_cases c2 : f_X5_isIn x2 1 9 = 0
    · rw [if_pos c2, if_pos c2]; exact ⟨rfl, h⟩
    · rw [if_neg c2, if_neg c2]
      by_cases c3 : f_X5_isIn x3 0 8 = 0
      · rw [if_pos c3, if_pos c3]; exact ⟨rfl, h⟩
      · rw [if_neg c3, if_neg c3]
        by_cases c4 : f_X5_isCorner x4 = 0
        · rw [if_pos c4, if_pos c4]; exact ⟨rfl, h⟩
        · rw [if_neg c4, if_neg c4]
          have e8 : (8 : Int32).toInt = 8 := rfl
          by_cases c5 : ct < 8
          · have hc : ct.toInt < 8 := i32_lt.mp c5
            have c6 : ¬ ct = 8 := fun e => by rw [e] at hc; exact absurd hc (by decide)
            have r := rt_add h hc (in_isIn c1) (in_isIn c2) (in_isIn c3) (crn_rng c4)
            unfold f_X4_add
            rw [if_pos c5, if_pos c5, if_neg c6, pr6_mk, pr1_mk]
            exact ⟨by rw [r.1.1], r⟩
          · have c6 : ct = 8 := by
              have := h.2.2.1.2
              rw [i32_lt, e8] at c5
              exact i32_eq.mpr (by omega)
            rw [if_neg c5, if_pos c6]; exact ⟨rfl, h⟩
theorem e_of (h : RT lw kd bt ph cn no ct sc rn lg dn zz s) (x1 x2 : Int32) : f_X5_of lw kd bt ph cn no ct sc rn x1 x2 = f_X6_of s x1 x2 := by
  unfold f_X5_of f_X6_of
  rw [rt_has h, isin_eq (x := x2) (l := 0) (h := 6) rfl rfl]
  by_cases c1 : f_X4_has ct x1 = 0
  · rw [if_pos c1, if_pos c1]
  · rw [if_neg c1, if_neg c1]
    have hx := rt_in h c1
    obtain ⟨i0, i1, i2, i3, i4⟩ := rp_its hx.1 hx.2.2 (rt_p h hx.1 hx.2.1)
    have e6 : (6 : Int32).toInt = 6 := rfl
    by_cases c2 : f_X5_isIn x2 0 6 = 0
    · have n : ∀ v : Int32, 0 ≤ v.toInt → v.toInt ≤ 6 → ¬ x2 = v := fun v v0 v6 e => by
        rw [e, isin_y ⟨by rw [z0I]; exact v0, by rw [e6]; exact v6⟩] at c2
        exact absurd c2 (by decide)
      rw [if_pos c2, if_neg (n 0 (by decide) (by decide)), if_neg (n 1 (by decide) (by decide)), if_neg (n 2 (by decide) (by decide)), if_neg (n 3 (by decide) (by decide)), if_neg (n 4 (by decide) (by decide)), if_neg (n 5 (by decide) (by decide)), if_neg (n 6 (by decide) (by decide))]
    · rw [if_neg c2, rt_reach h hx.1 hx.2.1, rt_sounds h hx.1 hx.2.1]
      have q := in_isIn c2
      rw [z0I, e6] at q
      have d : x2 = 0 ∨ x2 = 1 ∨ x2 = 2 ∨ x2 = 3 ∨ x2 = 4 ∨ x2 = 5 ∨ x2 = 6 := by
        rcases eight_of (n := x2) (vpI q.1 (by omega)) with e | e | e | e | e | e | e | e
        · exact .inl e
        · exact .inr (.inl e)
        · exact .inr (.inr (.inl e))
        · exact .inr (.inr (.inr (.inl e)))
        · exact .inr (.inr (.inr (.inr (.inl e))))
        · exact .inr (.inr (.inr (.inr (.inr (.inl e)))))
        · exact .inr (.inr (.inr (.inr (.inr (.inr e)))))
        · rw [e] at q; exact absurd q.2 (by decide)
      rcases d with rfl | rfl | rfl | rfl | rfl | rfl | rfl
      · rw [if_pos rfl, if_neg (by decide)]; exact i0.symm
      · rw [if_neg (by decide), if_pos rfl, if_neg (by decide)]; exact i1.symm
      · rw [if_neg (by decide), if_neg (by decide), if_pos rfl, if_neg (by decide)]; exact i2.symm
      · rw [if_neg (by decide), if_neg (by decide), if_neg (by decide), if_pos rfl, if_neg (by decide)]; exact i3.symm
      · rw [if_neg (by decide), if_neg (by decide), if_neg (by decide), if_neg (by decide), if_pos rfl, if_neg (by decide)]; exact i4.symm
      · rw [if_neg (by decide), if_neg (by decide), if_neg (by decide), if_neg (by decide), if_neg (by decide), if_pos rfl, if_pos (show (5 : Int32) ≤ 5 by decide), if_neg (show ¬ (5 : Int32) = 6 by decide)]
      · rw [if_neg (by decide), if_neg (by decide), if_neg (by decide), if_neg (by decide), if_neg (by decide), if_neg (by decide), if_pos rfl, if_pos (by decide), if_pos rfl]
theorem e_mind (h : RT lw kd bt ph cn no ct sc rn lg dn zz s) (x1 x2 : Int32) : (f_X5_mind kd ct x1 x2).1 = (f_X6_mind s x1 x2).1 ∧ RT lw (f_X5_mind kd ct x1 x2).2 bt ph cn no ct sc rn lg dn zz (f_X6_mind s x1 x2).2 := by
  unfold f_X5_mind f_X6_mind f_X5_isKind f_X6_becomes
  rw [rt_has h, isin_eq (x := x2) (l := 0) (h := 5) rfl rfl]
  by_cases c1 : f_X4_has ct x1 = 0
  · rw [if_pos c1, if_pos c1]; exact ⟨rfl, h⟩
  · rw [if_neg c1, if_neg c1]
    have hx := rt_in h c1
    by_cases c2 : f_X5_isIn x2 0 5 = 0
    · rw [if_pos c2, if_pos c2]; exact ⟨rfl, h⟩
    · rw [if_neg c2, if_neg c2, pr2_mk, its_ix0 hx.1 hx.2.2]
      exact ⟨(rt_p h hx.1 hx.2.1).1.1.symm, rt_kd h (by rw [cl_nn hx.1]; exact hx.2.1) (in_isIn c2)⟩
theorem e_bring (h : RT lw kd bt ph cn no ct sc rn lg dn zz s) (x1 x2 : Int32) : (f_X5_bring cn ct x1 x2).1 = (f_X6_bring s x1 x2).1 ∧ RT lw kd bt ph (f_X5_bring cn ct x1 x2).2 no ct sc rn lg dn zz (f_X6_bring s x1 x2).2 := by
  unfold f_X5_bring f_X6_bring f_X6_becomes
  rw [rt_has h, crn_eq]
  by_cases c1 : f_X4_has ct x1 = 0
  · rw [if_pos c1, if_pos c1]; exact ⟨rfl, h⟩
  · rw [if_neg c1, if_neg c1]
    have hx := rt_in h c1
    by_cases c2 : f_X5_isCorner x2 = 0
    · rw [if_pos c2, if_pos c2]; exact ⟨rfl, h⟩
    · rw [if_neg c2, if_neg c2, pr2_mk, its_ix (w := 3) hx.1 hx.2.2 (by decide) (by decide), show (3 : Int32).toNatClampNeg = 3 from rfl]
      exact ⟨(rt_p h hx.1 hx.2.1).1.2.2.2.1.symm, rt_cn h (by rw [cl_nn hx.1]; exact hx.2.1) (crn_rng c2)⟩
theorem e_change (h : RT lw kd bt ph cn no ct sc rn lg dn zz s) (x1 x2 x3 : Int32) : (f_X5_change bt ph ct x1 x2 x3).1 = (f_X6_change s x1 x2 x3).1 ∧ RT lw kd (f_X5_change bt ph ct x1 x2 x3).2.1 (f_X5_change bt ph ct x1 x2 x3).2.2 cn no ct sc rn lg dn zz (f_X6_change s x1 x2 x3).2 := by
  unfold f_X5_change f_X6_change f_X6_becomes
  rw [rt_has h, isin_eq (x := x3) (l := 1) (h := 9) rfl rfl, isin_eq (x := x3) (l := 0) (h := 8) rfl rfl]
  by_cases c1 : f_X4_has ct x1 = 0
  · rw [if_pos c1, if_pos c1, pr1_mk, if_pos rfl]; exact ⟨rfl, h⟩
  · rw [if_neg c1, if_neg c1]
    have hx := rt_in h c1
    have hp := rt_p h hx.1 hx.2.1
    have e1 := its_ix (w := 1) hx.1 hx.2.2 (by decide) (by decide)
    have e2 := its_ix (w := 2) hx.1 hx.2.2 (by decide) (by decide)
    rw [show (1 : Int32).toNatClampNeg = 1 from rfl] at e1
    rw [show (2 : Int32).toNatClampNeg = 2 from rfl] at e2
    by_cases d1 : x2 = 1
    · subst d1
      rw [if_pos rfl, if_pos rfl]
      by_cases c2 : f_X5_isIn x3 1 9 = 0
      · rw [if_pos c2, if_pos c2, if_neg (by decide), if_neg (by decide), pr1_mk, if_pos rfl]; exact ⟨rfl, h⟩
      · rw [if_neg c2, if_neg c2, pr1_mk, if_neg (by decide), pr2_mk, e1]
        exact ⟨hp.1.2.1.symm, rt_bt h (by rw [cl_nn hx.1]; exact hx.2.1) (in_isIn c2)⟩
    · rw [if_neg d1, if_neg d1]
      by_cases d2 : x2 = 2
      · subst d2
        rw [if_pos rfl, if_pos rfl]
        by_cases c2 : f_X5_isIn x3 0 8 = 0
        · rw [if_pos c2, if_pos c2, pr1_mk, if_pos rfl]; exact ⟨rfl, h⟩
        · rw [if_neg c2, if_neg c2, pr1_mk, if_neg (by decide), pr2_mk, e2]
          exact ⟨hp.1.2.2.1.symm, rt_ph h (by rw [cl_nn hx.1]; exact hx.2.1) (in_isIn c2)⟩
      · rw [if_neg d2, if_neg d2, pr1_mk, if_pos rfl]; exact ⟨rfl, h⟩
theorem e_corner (h : RT lw kd bt ph cn no ct sc rn lg dn zz s) (x1 x2 : Int32) : f_X5_corner lw kd bt ph cn ct sc rn x1 x2 = f_X6_corner s x1 x2 := by
  unfold f_X5_corner f_X6_corner
  rw [crn_eq, isin_eq (x := x2) (l := 0) (h := 1) rfl rfl]
  by_cases c1 : f_X5_isCorner x1 = 0
  · rw [if_pos c1, if_pos c1]
  · rw [if_neg c1, if_neg c1, rt_at h, rt_sounding h, rt_heard h (crn_rng c1)]
    by_cases d0 : x2 = 0
    · subst d0; rw [if_pos rfl, if_neg (by decide), if_pos rfl]
    · rw [if_neg d0, if_neg d0]
      by_cases d1 : x2 = 1
      · subst d1; rw [if_pos rfl, if_neg (by decide)]
      · rw [if_neg d1, if_pos (isin_n (fun q => by
          rw [z0I, z1I] at q
          have d0' : ¬ x2.toInt = 0 := fun e => d0 (i32_eq.mpr e)
          have d1' : ¬ x2.toInt = 1 := fun e => d1 (i32_eq.mpr e)
          omega))]
theorem rt_zz (h : RT lw kd bt ph cn no ct sc rn lg dn zz s) (v : Int32) : RT lw kd bt ph cn no ct sc rn lg dn v (upd s 2 v) := by
  obtain ⟨⟨a0, a1, a2, a3, a4, a5⟩, ⟨a6, a7, a8, a9⟩, hc, hr, hd, hl, hk⟩ := h
  exact ⟨⟨(pk_un (by decide)).trans a0, (pk_un (by decide)).trans a1, pk_us, (pk_un (by decide)).trans a3, (pk_un (by decide)).trans a4, (pk_un (by decide)).trans a5⟩, ⟨(pk_un (by decide)).trans a6, (pk_un (by decide)).trans a7, (pk_un (by decide)).trans a8, (pk_un (by decide)).trans a9⟩, hc, hr, hd, hl, fun k hk2 => rp_of (hk k hk2) (fun w hw => pk_un (by omega)) rfl rfl rfl rfl rfl⟩
theorem e_seed (h : RT lw kd bt ph cn no ct sc rn lg dn zz s) (x1 : Int32) : (f_X5_seed zz x1).1 = (f_X6_seed s x1).1 ∧ RT lw kd bt ph cn no ct sc rn lg dn (f_X5_seed zz x1).2 (f_X6_seed s x1).2 := by
  unfold f_X5_seed f_X6_seed f_X6_becomes
  rw [pr2_mk, show (2 : Int32).toNatClampNeg = 2 from rfl]
  exact ⟨h.1.2.2.1.symm, rt_zz h x1⟩
theorem e_state (h : RT lw kd bt ph cn no ct sc rn lg dn zz s) (x1 : Int32) : f_X5_state lw kd bt ph no ct sc rn lg dn x1 = f_X6_state s x1 := by
  unfold f_X5_state f_X6_state
  rw [rt_noises h, rt_sounding h, h.1.2.1, h.1.2.2.2.1, h.1.2.2.2.2.1, h.1.2.2.2.2.2]
theorem e_cornersL (h : RT lw kd bt ph cn no ct sc rn lg dn zz s) : ∀ (N : Nat) (x1 x2 : Int32), l_X4_cornersTaken_4 cn ct N x1 x2 = l_X6_many_61 s N x1 x2 := by
  intro N
  induction N with
  | zero => intro x1 x2; rw [l_X4_cornersTaken_4, l_X6_many_61]
  | succ N ih =>
    intro x1 x2
    rw [l_X4_cornersTaken_4, l_X6_many_61, rt_at h]
    by_cases c : (12 : Int32) ≤ x2
    · rw [if_pos c, if_pos c]
    · rw [if_neg c, if_neg c]
      by_cases c2 : f_X4_setAt cn ct x2 = 0
      · rw [if_pos c2, if_pos c2, pr1_mk, pr1_mk, Int32.add_zero]; exact ih _ _
      · rw [if_neg c2, if_neg c2, pr1_mk, pr1_mk]; exact ih _ _
theorem e_withNoiseL (h : RT lw kd bt ph cn no ct sc rn lg dn zz s) : ∀ (N : Nat) (x1 x2 : Int32), 0 ≤ x2.toInt → l_X4_thoseWithNoise_4 no ct N x1 x2 = l_X6_many_93 s N x1 x2 := by
  intro N
  induction N with
  | zero => intro x1 x2 _; rw [l_X4_thoseWithNoise_4, l_X6_many_93]
  | succ N ih =>
    intro x1 x2 h0
    rw [l_X4_thoseWithNoise_4, l_X6_many_93, h.1.1]
    by_cases c : ct ≤ x2
    · rw [if_pos c, if_pos c]
    · rw [if_neg c, if_neg c]
      have hs := cnt_step (B := 8) h0 h.2.2.1.2 (by decide) c
      have hlt : x2.toInt < ct.toInt := by have := mt i32_le.mpr c; omega
      obtain ⟨i0, i1, i2, i3, i4⟩ := rp_its h0 hs.2.2.2 (rt_p h h0 hlt)
      rw [i4]
      by_cases c2 : no x2.toNatClampNeg ≤ 0
      · rw [if_pos c2, if_pos c2, pr1_mk, pr1_mk, Int32.add_zero]; exact ih _ _ hs.1
      · rw [if_neg c2, if_neg c2, pr1_mk, pr1_mk]; exact ih _ _ hs.1
theorem e_many (h : RT lw kd bt ph cn no ct sc rn lg dn zz s) {rc tz bg : Int32} (x1 : Int32) : f_X5_many rc lw kd bt ph cn no ct sc rn tz bg x1 = f_X6_many s tz rc bg x1 := by
  unfold f_X5_many f_X6_many f_X4_cornersTaken f_X4_thoseWithNoise
  rw [size_eq (bS_sounding (rt_ok h)), rt_sounding h, h.1.1, e_cornersL h, e_withNoiseL h 300 0 0 (by decide)]
theorem e_row {rws mrw : Nat → Int32} {rc : Int32} (hc : 0 ≤ rc.toInt ∧ rc.toInt ≤ 10) (hr : ∀ k : Nat, (k : Int) < 3 * rc.toInt → rws k = mrw k) (x1 x2 : Int32) : f_X6_isRow rc x1 x2 = f_X5_isCell rc x1 x2 ∧ (¬ f_X5_isCell rc x1 x2 = 0 → (3 : Int32) * x1 + x2 = x1 * 3 + x2 ∧ ((x1 * 3 + x2).toNatClampNeg : Int) < 3 * rc.toInt) := by
  have e : f_X6_isRow rc x1 x2 = f_X5_isCell rc x1 x2 := by
    unfold f_X6_isRow f_X5_isCell
    rw [isin_eq (x := x1) (l := 0) (h := rc - 1) rfl (Int32.toInt_toInt64 _), isin_eq (x := x2) (l := 0) (h := 2) rfl rfl]
  refine ⟨e, fun c => ⟨by rw [Int32.mul_comm], ?_⟩⟩
  have hv := in_cell c hc.1 hc.2
  unfold f_X5_isCell at c
  by_cases c1 : f_X5_isIn x1 0 (rc - 1) = 0
  · rw [if_pos c1] at c; exact absurd rfl c
  · rw [if_neg c1] at c
    by_cases c2 : f_X5_isIn x2 0 2 = 0
    · rw [if_pos c2] at c; exact absurd rfl c
    · have a1 := in_isIn c1
      have a2 := in_isIn c2
      rw [i32_sub1 hc.1, z0I] at a1
      rw [z0I, show (2 : Int32).toInt = 2 from rfl] at a2
      have m1 : (x1 * 3).toInt = x1.toInt * 3 := i32_mulE (a := x1) (b := 3) (by rw [show (3 : Int32).toInt = 3 from rfl]; omega) (by rw [show (3 : Int32).toInt = 3 from rfl]; omega)
      have m2 : (x1 * 3 + x2).toInt = (x1 * 3).toInt + x2.toInt := i32_addE (a := x1 * 3) (b := x2) (by omega) (by omega)
      rw [cl_nn (by omega)]
      omega
theorem e_rowA {rws mrw : Nat → Int32} {rc : Int32} (hc : 0 ≤ rc.toInt ∧ rc.toInt ≤ 10) (hr : ∀ k : Nat, (k : Int) < 3 * rc.toInt → rws k = mrw k) (x1 x2 : Int32) : f_X5_row rws rc x1 x2 = f_X6_row mrw rc x1 x2 := by
  unfold f_X5_row f_X6_row
  have q := e_row hc hr x1 x2
  rw [q.1]
  by_cases c : f_X5_isCell rc x1 x2 = 0
  · rw [if_pos c, if_pos c]
  · rw [if_neg c, if_neg c, (q.2 c).1]
    exact hr _ (q.2 c).2
theorem e_alterRow {rws mrw : Nat → Int32} {rc : Int32} (hc : 0 ≤ rc.toInt ∧ rc.toInt ≤ 10) (hr : ∀ k : Nat, (k : Int) < 3 * rc.toInt → rws k = mrw k) (x1 x2 x3 : Int32) : (f_X5_alterRow rws rc x1 x2 x3).1 = (f_X6_alterRow mrw rc x1 x2 x3).1 ∧ ∀ k : Nat, (k : Int) < 3 * rc.toInt → (f_X5_alterRow rws rc x1 x2 x3).2 k = (f_X6_alterRow mrw rc x1 x2 x3).2 k := by
  unfold f_X5_alterRow f_X6_alterRow
  have q := e_row hc hr x1 x2
  rw [q.1]
  by_cases c : f_X5_isCell rc x1 x2 = 0
  · rw [if_pos c, if_pos c]; exact ⟨rfl, hr⟩
  · rw [if_neg c, if_neg c, (q.2 c).1]
    refine ⟨hr _ (q.2 c).2, fun k hk => ?_⟩
    show upd rws (x1 * 3 + x2).toNatClampNeg x3 k = upd mrw (x1 * 3 + x2).toNatClampNeg x3 k
    by_cases e : k = (x1 * 3 + x2).toNatClampNeg
    · rw [e, pk_us, pk_us]
    · rw [pk_un e, pk_un e]; exact hr k hk
theorem e_trace {bo mbo : Nat → Int32} {bg : Int32} (hb : 0 ≤ bg.toInt ∧ bg.toInt ≤ 30) (hr : ∀ k : Nat, (k : Int) < bg.toInt → bo k = mbo k) (x1 : Int32) : f_X5_trace bo bg x1 = f_X6_trace mbo bg x1 := by
  unfold f_X5_trace f_X6_trace
  rw [isin_eq (x := x1) (l := 0) (h := bg - 1) rfl (Int32.toInt_toInt64 _)]
  by_cases c : f_X5_isIn x1 0 (bg - 1) = 0
  · rw [if_pos c, if_pos c]
  · rw [if_neg c, if_neg c]
    have a := in_isIn c
    rw [i32_sub1 hb.1, z0I] at a
    exact hr _ (by rw [cl_nn a.1]; omega)
end PU3
