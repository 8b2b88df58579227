/-! sheets, shelves, odds, the tape -/
theorem within_eq {x : Int32} : (if (0 : Int32) < (if x < (8 : Int32) then x else (8 : Int32)) then (if x < (8 : Int32) then x else (8 : Int32)) else (0 : Int32)) = f_X6_within x ∧ 0 ≤ (f_X6_within x).toInt ∧ (f_X6_within x).toInt ≤ 8 := by
  unfold f_X6_within
  have e8 : (8 : Int32).toInt = 8 := rfl
  by_cases c0 : (0 : Int32) ≤ x
  · have c0' := i32_le.mp c0
    rw [z0I] at c0'
    rw [if_pos c0]
    by_cases c1 : x < (8 : Int32)
    · have c1' := i32_lt.mp c1
      rw [e8] at c1'
      have c2 : x ≤ (8 : Int32) := i32_le.mpr (by rw [e8]; omega)
      rw [if_pos c1, if_pos c2]
      refine ⟨?_, by omega, by omega⟩
      by_cases c3 : (0 : Int32) < x
      · rw [if_pos c3]
      · rw [if_neg c3]
        rw [i32_lt, z0I] at c3
        exact i32_eq.mpr (by rw [z0I]; omega)
    · rw [if_neg c1, if_pos (by decide)]
      rw [i32_lt, e8] at c1
      by_cases c2 : x ≤ (8 : Int32)
      · have c2' := i32_le.mp c2
        rw [e8] at c2'
        rw [if_pos c2]
        exact ⟨i32_eq.mpr (by rw [e8]; omega), by omega, by omega⟩
      · rw [if_neg c2]
        exact ⟨rfl, by decide, by decide⟩
  · rw [if_neg c0]
    rw [i32_le, z0I] at c0
    have c1 : x < (8 : Int32) := i32_lt.mpr (by rw [e8]; omega)
    rw [if_pos c1, if_neg (by rw [i32_lt, z0I]; omega)]
    exact ⟨rfl, by decide, by decide⟩
section PU15
variable {lw kd bt cn no : Nat → Int32} {ct sc rn lg dn zz : Int32} {sit : Nat → Nat → Int64} {mso msz mnu ssr ssi : Nat → Int32}
theorem mindsL {x1 x2 x3 x4 : Int32} (hS : RS sit ssr ssi mso msz mnu) (hv : vp_in x1 4) (h3 : 0 ≤ x3.toInt ∧ x3.toInt + x4.toInt ≤ ct.toInt ∧ x4.toInt ≤ 8) (h2 : 0 ≤ x2.toInt ∧ x2.toInt + x4.toInt ≤ 40) : ∀ (N : Nat) (x6 : Int32) (ph s : Nat → Int32), RT lw kd bt ph cn no ct sc rn lg dn zz s → 0 ≤ x6.toInt → RT lw kd bt (l_X5_minds_107 sit x1 x2 x3 x4 N x6 ph).2 cn no ct sc rn lg dn zz (l_X6_minds_98 mnu x1 x2 x3 x4 N x6 s).2 := by
  have hv' := vp_in_iff.mp hv
  have hvn : x1.toNatClampNeg < 4 := by have := cl_nn hv'.1; omega
  obtain ⟨-, -, q4⟩ := hS.2.2 _ hvn
  intro N
  induction N with
  | zero => intro x6 ph s h _; rw [l_X5_minds_107, l_X6_minds_98]; exact h
  | succ N ih =>
    intro x6 ph s h h0
    rw [l_X5_minds_107, l_X6_minds_98]
    by_cases c : x4 ≤ x6
    · rw [if_pos c, if_pos c]; exact h
    · rw [if_neg c, if_neg c]
      have c' : x6.toInt < x4.toInt := by have := mt i32_le.mpr c; omega
      have hct := h.2.2.1
      have e1 := i32_add1 (i := x6) (by omega)
      have e2 : (x2 + x6).toInt = x2.toInt + x6.toInt := i32_addE (by omega) (by omega)
      have e3 : (x3 + x6).toInt = x3.toInt + x6.toInt := i32_addE (by omega) (by omega)
      have ei := its_ix (o := x3 + x6) (w := 2) (by omega) (by omega) (by decide) (by decide)
      rw [show (2 : Int32).toNatClampNeg = 2 from rfl] at ei
      obtain ⟨n1, n2, n3⟩ := nu_ix hv (show 0 ≤ (x2 + x6).toInt by omega) (show (x2 + x6).toInt < 40 by omega)
      have ea : (40 : Int32) * x1 + x2 + x6 = (40 : Int32) * x1 + (x2 + x6) := Int32.add_assoc _ _ _
      have hw := within_eq (x := mnu (40 * x1.toNatClampNeg + (x2 + x6).toNatClampNeg))
      rw [q4 _ n3, Int32.toInt32_toInt64, ea, n1, ei, hw.1]
      exact ih _ _ _ (rt_ph h (by rw [cl_nn (by omega)]; omega) hw.2) (by omega)
theorem lacks_eq {i x1 x2 : Int32} (hS : RS sit ssr ssi mso msz mnu) (hv : vp_in x1 4) (h2 : 0 ≤ x2.toInt) : f_X6_lacks mso x1 x2 = if ssr x1.toNatClampNeg = -1 then -11 else if ssr x1.toNatClampNeg = x2 then 0 else -13 := by
  have hv' := vp_in_iff.mp hv
  have hvn : x1.toNatClampNeg < 4 := by have := cl_nn hv'.1; omega
  obtain ⟨⟨q1, -⟩, -, -⟩ := hS.2.2 _ hvn
  unfold f_X6_lacks
  by_cases c : ssr x1.toNatClampNeg = -1
  · rw [if_pos c, if_neg ((neg_sort hS hvn).1.mp c)]
  · rw [if_neg c, if_pos (Decidable.byContradiction (fun q => c ((neg_sort hS hvn).1.mpr q))), q1]
theorem e_minds {ph s : Nat → Int32} (h : RT lw kd bt ph cn no ct sc rn lg dn zz s) (hS : RS sit ssr ssi mso msz mnu) (x1 x2 x3 x4 : Int32) : (f_X5_minds ph ct sit ssr ssi x1 x2 x3 x4).1 = (f_X6_minds s mso msz mnu x1 x2 x3 x4).1 ∧ RT lw kd bt (f_X5_minds ph ct sit ssr ssi x1 x2 x3 x4).2 cn no ct sc rn lg dn zz (f_X6_minds s mso msz mnu x1 x2 x3 x4).2 := by
  unfold f_X5_minds f_X6_minds f_X5_isSheet f_X6_isSheet
  rw [isin_eq (x := x1) (l := 0) (h := 3) rfl rfl, rt_has h, isin_eq (x := x4) (l := 0) (h := 8) rfl rfl, h.1.1]
  by_cases c1 : f_X5_isIn x1 0 3 = 0
  · rw [if_pos c1, if_pos c1]; exact ⟨rfl, h⟩
  · rw [if_neg c1, if_neg c1]
    have hv := in_isIn4 c1
    have hv' := vp_in_iff.mp hv
    have hvn : x1.toNatClampNeg < 4 := by have := cl_nn hv'.1; omega
    obtain ⟨⟨-, q2⟩, -, -⟩ := hS.2.2 _ hvn
    by_cases c2 : f_X4_has ct x3 = 0
    · rw [if_pos c2, if_pos c2]; exact ⟨rfl, h⟩
    · rw [if_neg c2, if_neg c2]
      have hx := rt_in h c2
      by_cases c3 : f_X5_isIn x4 0 8 = 0
      · rw [if_pos c3, if_pos c3]; exact ⟨rfl, h⟩
      · rw [if_neg c3, if_neg c3]
        have a3 := in_isIn c3
        rw [z0I, show (8 : Int32).toInt = 8 from rfl] at a3
        by_cases c4 : x3 + x4 ≤ ct
        · rw [if_pos c4, if_pos c4, lacks_eq (i := 0) hS hv (by decide)]
          have e34 : (x3 + x4).toInt = x3.toInt + x4.toInt := i32_addE (by omega) (by omega)
          have c4' := i32_le.mp c4
          by_cases c5 : ssr x1.toNatClampNeg = -1
          · rw [if_pos c5, if_pos c5, if_neg (by decide)]; exact ⟨rfl, h⟩
          · rw [if_neg c5, if_neg c5]
            by_cases c6 : ssr x1.toNatClampNeg = 0
            · rw [if_pos c6, if_pos c6, if_pos rfl, isin_eq (x := x2) (l := 0) (h := msz x1.toNatClampNeg) rfl (Int32.toInt_toInt64 _), ← q2]
              by_cases c7 : f_X5_isIn x2 0 (ssi x1.toNatClampNeg) = 0
              · rw [if_pos c7, if_pos c7]; exact ⟨rfl, h⟩
              · rw [if_neg c7, if_neg c7]
                have a7 := in_isIn c7
                rw [z0I] at a7
                have b7 := hS.1 x1.toNatClampNeg
                have e24 : (x2 + x4).toInt = x2.toInt + x4.toInt := i32_addE (by omega) (by omega)
                have e24' : (x2.toInt64 + x4.toInt64).toInt = x2.toInt + x4.toInt := by
                  rw [i64_addE (by rw [Int32.toInt_toInt64, Int32.toInt_toInt64]; omega) (by rw [Int32.toInt_toInt64, Int32.toInt_toInt64]; omega), Int32.toInt_toInt64, Int32.toInt_toInt64]
                by_cases c8 : x2 + x4 ≤ ssi x1.toNatClampNeg
                · have c8' := i32_le.mp c8
                  have c9 : lg_cmp (x2.toInt64 + x4.toInt64) (ssi x1.toNatClampNeg).toInt64 ≤ 0 := by
                    rw [← Int32.not_lt, lgc_gt, e24', Int32.toInt_toInt64]; omega
                  rw [if_pos c8, if_pos c9]
                  have hp := mindsL (x1 := x1) (x2 := x2) (x3 := x3) (x4 := x4) hS hv ⟨hx.1, by omega, a3.2⟩ ⟨a7.1, by omega⟩ 300 0 ph s h (by decide)
                  generalize l_X5_minds_107 sit x1 x2 x3 x4 300 0 ph = p at hp ⊢
                  obtain ⟨p0, p1⟩ := p
                  generalize l_X6_minds_98 mnu x1 x2 x3 x4 300 0 s = r at hp ⊢
                  obtain ⟨r0, r1⟩ := r
                  rw [pr2_mk, pr2_mk]
                  exact ⟨rfl, hp⟩
                · have c8' := mt i32_le.mpr c8
                  have c9 : ¬ lg_cmp (x2.toInt64 + x4.toInt64) (ssi x1.toNatClampNeg).toInt64 ≤ 0 := by
                    rw [Int32.not_le, lgc_gt, e24', Int32.toInt_toInt64]; omega
                  rw [if_neg c8, if_neg c9]; exact ⟨rfl, h⟩
            · rw [if_neg c6, if_neg c6, if_neg (by decide)]; exact ⟨rfl, h⟩
        · rw [if_neg c4, if_neg c4]; exact ⟨rfl, h⟩
theorem e_item (hS : RS sit ssr ssi mso msz mnu) (x1 x2 x3 : Int32) : f_X5_item sit ssr ssi x1 x2 x3 = f_X6_item mso msz mnu x1 x2 x3 := by
  unfold f_X5_item f_X6_item f_X5_isSheet f_X6_isSheet
  rw [isin_eq (x := x1) (l := 0) (h := 3) rfl rfl, isin_eq (x := x2) (l := 0) (h := 3) rfl rfl]
  by_cases c1 : f_X5_isIn x1 0 3 = 0
  · rw [if_pos c1, if_pos c1]
  · rw [if_neg c1, if_neg c1]
    have hv := in_isIn4 c1
    have hv' := vp_in_iff.mp hv
    have hvn : x1.toNatClampNeg < 4 := by have := cl_nn hv'.1; omega
    obtain ⟨⟨-, q2⟩, -, q4⟩ := hS.2.2 _ hvn
    by_cases c2 : f_X5_isIn x2 0 3 = 0
    · rw [if_pos c2, if_pos c2]
    · rw [if_neg c2, if_neg c2, lacks_eq (i := 0) hS hv (by have := (in_isIn c2).1; rw [z0I] at this; exact this)]
      by_cases c5 : ssr x1.toNatClampNeg = -1
      · rw [if_pos c5, if_pos c5, if_neg (by decide)]
      · rw [if_neg c5, if_neg c5]
        by_cases c6 : ssr x1.toNatClampNeg = x2
        · rw [if_pos c6, if_pos c6, if_pos rfl, isin_eq (x := x3) (l := 0) (h := msz x1.toNatClampNeg - 1) rfl (Int32.toInt_toInt64 _), ← q2]
          by_cases c7 : f_X5_isIn x3 0 (ssi x1.toNatClampNeg - 1) = 0
          · rw [if_pos c7, if_pos c7]
          · rw [if_neg c7, if_neg c7]
            have a7 := in_isIn c7
            have b7 := hS.1 x1.toNatClampNeg
            rw [i32_sub1 b7.1, z0I] at a7
            obtain ⟨n1, -, n3⟩ := nu_ix hv a7.1 (show x3.toInt < 40 by omega)
            rw [q4 _ n3, Int32.toInt32_toInt64, n1]
        · rw [if_neg c6, if_neg c6, if_neg (by decide)]
theorem updL_at {f : Nat → Int64} {k j : Nat} {v : Int64} : vp_updL f k v j = if j = k then v else f j := rfl
theorem upS_at {f : Nat → Nat → Int64} {k j : Nat} {r : Nat → Int64} : upS f k r j = if j = k then r else f j := rfl
theorem rs_put {t k : Nat} {v : Int32} (hS : RS sit ssr ssi mso msz mnu) (ht : t < 4) (hk : k < 40) : RS (upS sit t (vp_updL (sit t) k v.toInt64)) ssr ssi mso msz (upd mnu (40 * t + k) v) := by
  refine ⟨hS.1, hS.2.1, fun i hi => ?_⟩
  obtain ⟨q1, q3, q4⟩ := hS.2.2 i hi
  refine ⟨q1, q3, fun j hj => ?_⟩
  rw [upS_at]
  by_cases e : i = t
  · subst e
    rw [if_pos rfl, updL_at]
    by_cases f : j = k
    · subst f; rw [if_pos rfl, pk_us]
    · rw [if_neg f, pk_un (by omega)]; exact q4 j hj
  · rw [if_neg e, pk_un (by omega)]; exact q4 j hj
theorem e_put (hS : RS sit ssr ssi mso msz mnu) (x1 x2 x3 : Int32) : (f_X5_put sit ssr ssi x1 x2 x3).1 = (f_X6_put mso msz mnu x1 x2 x3).1 ∧ RS (f_X5_put sit ssr ssi x1 x2 x3).2 ssr ssi mso msz (f_X6_put mso msz mnu x1 x2 x3).2 := by
  unfold f_X5_put f_X6_put f_X5_isSheet f_X6_isSheet f_X1_narrowed
  rw [isin_eq (x := x1) (l := 0) (h := 3) rfl rfl]
  by_cases c1 : f_X5_isIn x1 0 3 = 0
  · rw [if_pos c1, if_pos c1]; exact ⟨rfl, hS⟩
  · rw [if_neg c1, if_neg c1]
    have hv := in_isIn4 c1
    have hv' := vp_in_iff.mp hv
    have hvn : x1.toNatClampNeg < 4 := by have := cl_nn hv'.1; omega
    obtain ⟨⟨q1, q2⟩, -, q4⟩ := hS.2.2 _ hvn
    by_cases c5 : ssr x1.toNatClampNeg = -1
    · rw [if_pos c5, if_neg ((neg_sort hS hvn).1.mp c5)]; exact ⟨rfl, hS⟩
    · rw [if_neg c5, if_pos (Decidable.byContradiction (fun q => c5 ((neg_sort hS hvn).1.mpr q))), isin_eq (x := x2) (l := 0) (h := msz x1.toNatClampNeg - 1) rfl (Int32.toInt_toInt64 _), ← q2]
      by_cases c7 : f_X5_isIn x2 0 (ssi x1.toNatClampNeg - 1) = 0
      · rw [if_pos c7, if_pos c7]; exact ⟨rfl, hS⟩
      · rw [if_neg c7, if_neg c7]
        have a7 := in_isIn c7
        have b7 := hS.1 x1.toNatClampNeg
        rw [i32_sub1 b7.1, z0I] at a7
        obtain ⟨n1, -, n3⟩ := nu_ix hv a7.1 (show x2.toInt < 40 by omega)
        rw [n1, ← q1, pr1_mk]
        refine ⟨rfl, ?_⟩
        by_cases d0 : ssr x1.toNatClampNeg = 0
        · rw [if_pos d0, if_pos d0]; exact rs_put hS hvn n3
        · rw [if_neg d0, if_neg d0]
          by_cases d1 : ssr x1.toNatClampNeg = 1
          · rw [if_pos d1, if_pos d1]; exact rs_put hS hvn n3
          · rw [if_neg d1, if_neg d1]; exact rs_put hS hvn n3
end PU15
theorem becomeL : ∀ (N : Nat) (x3 : Int32) (it : Nat → Int64), 0 ≤ x3.toInt → x3.toInt ≤ 40 → ((40 : Int) - x3.toInt).toNat < N → (∀ k : Nat, (k : Int) < x3.toInt → it k = 0) → ∀ k : Nat, k < 40 → (l_X1_become_21 N x3 it).2 k = 0 := by
  intro N
  induction N with
  | zero => intro x3 it _ _ h; exact absurd h (Nat.not_lt_zero _)
  | succ N ih =>
    intro x3 it h0 h1 hm hq k hk
    rw [l_X1_become_21]
    by_cases c : (40 : Int32) ≤ x3
    · rw [if_pos c]
      rw [i32_le, show (40 : Int32).toInt = 40 from rfl] at c
      exact hq k (by omega)
    · rw [if_neg c]
      have hs := cnt_step (B := 40) h0 (by decide) (by decide) c
      have e1 := i32_add1 (i := x3) (by omega)
      have ec := cl_nn h0
      refine ih _ _ hs.1 hs.2.1 (by omega) (fun j hj => ?_) k hk
      rw [updL_at]
      by_cases ej : j = x3.toNatClampNeg
      · rw [if_pos ej]
      · rw [if_neg ej]; exact hq j (by omega)
theorem sheetL {x1 : Int32} (hv : vp_in x1 4) : ∀ (N : Nat) (x4 : Int32) (mnu : Nat → Int32), 0 ≤ x4.toInt → x4.toInt ≤ 40 → ((40 : Int) - x4.toInt).toNat < N → ∀ i k : Nat, i < 4 → k < 40 → (l_X6_sheet_69 x1 N x4 mnu).2 (40 * i + k) = if i = x1.toNatClampNeg ∧ x4.toInt ≤ k then 0 else mnu (40 * i + k) := by
  intro N
  induction N with
  | zero => intro x4 mnu _ _ h; exact absurd h (Nat.not_lt_zero _)
  | succ N ih =>
    intro x4 mnu h0 h1 hm i k hi hk
    rw [l_X6_sheet_69]
    by_cases c : (40 : Int32) ≤ x4
    · rw [if_pos c]
      rw [i32_le, show (40 : Int32).toInt = 40 from rfl] at c
      rw [if_neg (by omega)]
    · rw [if_neg c]
      have hs := cnt_step (B := 40) h0 (by decide) (by decide) c
      have e1 := i32_add1 (i := x4) (by omega)
      have ec := cl_nn h0
      obtain ⟨n1, n2, n3⟩ := nu_ix hv h0 hs.2.2.2
      rw [ih _ _ hs.1 hs.2.1 (by omega) i k hi hk, n1, e1]
      by_cases e : i = x1.toNatClampNeg
      · by_cases f : x4.toInt ≤ k
        · by_cases g : k = x4.toNatClampNeg
          · rw [if_neg (show ¬ (i = x1.toNatClampNeg ∧ x4.toInt + 1 ≤ (k : Int)) by omega), if_pos (show i = x1.toNatClampNeg ∧ x4.toInt ≤ (k : Int) from ⟨e, f⟩), e, g, pk_us]
          · rw [if_pos (show i = x1.toNatClampNeg ∧ x4.toInt + 1 ≤ (k : Int) from ⟨e, by omega⟩), if_pos (show i = x1.toNatClampNeg ∧ x4.toInt ≤ (k : Int) from ⟨e, f⟩)]
        · rw [if_neg (show ¬ (i = x1.toNatClampNeg ∧ x4.toInt + 1 ≤ (k : Int)) by omega), if_neg (show ¬ (i = x1.toNatClampNeg ∧ x4.toInt ≤ (k : Int)) by omega), pk_un (by omega)]
      · rw [if_neg (fun q => e q.1), if_neg (fun q => e q.1), pk_un (by omega)]
section PU16
variable {sit : Nat → Nat → Int64} {mso msz mnu ssr ssi : Nat → Int32}
theorem rs_become {x1 x2 j : Int32} {it : Nat → Int64} {nu : Nat → Int32} (hS : RS sit ssr ssi mso msz mnu) (hv : vp_in x1 4) (h2 : -1 ≤ x2.toInt ∧ x2.toInt ≤ 3) (hj : 0 ≤ j.toInt ∧ j.toInt ≤ 40) (hit : ∀ k, k < 40 → it k = 0) (hnu : ∀ i k : Nat, i < 4 → k < 40 → nu (40 * i + k) = if i = x1.toNatClampNeg ∧ (0 : Int32).toInt ≤ k then 0 else mnu (40 * i + k)) : RS (upS sit x1.toNatClampNeg it) (upd ssr x1.toNatClampNeg x2) (upd ssi x1.toNatClampNeg j) (upd mso x1.toNatClampNeg x2) (upd msz x1.toNatClampNeg j) nu := by
  refine ⟨fun i => ?_, fun i => ?_, fun i hi => ?_⟩
  · by_cases e : i = x1.toNatClampNeg
    · rw [e, pk_us]; exact hj
    · rw [pk_un e]; exact hS.1 i
  · by_cases e : i = x1.toNatClampNeg
    · rw [e, pk_us]; exact hj
    · rw [pk_un e]; exact hS.2.1 i
  · obtain ⟨q1, q3, q4⟩ := hS.2.2 i hi
    by_cases e : i = x1.toNatClampNeg
    · refine ⟨?_, ?_, fun k hk => ?_⟩
      · rw [e, pk_us, pk_us, pk_us, pk_us]; exact ⟨rfl, rfl⟩
      · rw [e, pk_us]; exact h2
      · rw [hnu i k hi hk, if_pos ⟨e, by rw [z0I]; omega⟩, upS_at, if_pos e, hit k hk]; decide
    · refine ⟨?_, ?_, fun k hk => ?_⟩
      · rw [pk_un e, pk_un e, pk_un e, pk_un e]; exact q1
      · rw [pk_un e]; exact q3
      · rw [hnu i k hi hk, if_neg (fun q => e q.1), upS_at, if_neg e]; exact q4 k hk
theorem clip40 {x : Int32} (h0 : 0 ≤ x.toInt) (h : x.toInt ≤ 40) : (if (0 : Int32) < (if x < (40 : Int32) then x else (40 : Int32)) then (if x < (40 : Int32) then x else (40 : Int32)) else (0 : Int32)) = x := by
  have e40 : (40 : Int32).toInt = 40 := rfl
  by_cases c1 : x < (40 : Int32)
  · rw [if_pos c1]
    by_cases c2 : (0 : Int32) < x
    · rw [if_pos c2]
    · rw [if_neg c2]
      rw [i32_lt, z0I] at c2
      exact i32_eq.mpr (by rw [z0I]; omega)
  · rw [if_neg c1, if_pos (by decide)]
    rw [i32_lt, e40] at c1
    exact i32_eq.mpr (by rw [e40]; omega)
theorem e_sheet (hS : RS sit ssr ssi mso msz mnu) (x1 x2 x3 : Int32) : (f_X5_sheet sit ssr ssi x1 x2 x3).1 = (f_X6_sheet mso msz mnu x1 x2 x3).1 ∧ RS (f_X5_sheet sit ssr ssi x1 x2 x3).2.1 (f_X5_sheet sit ssr ssi x1 x2 x3).2.2.1 (f_X5_sheet sit ssr ssi x1 x2 x3).2.2.2 (f_X6_sheet mso msz mnu x1 x2 x3).2.1 (f_X6_sheet mso msz mnu x1 x2 x3).2.2.1 (f_X6_sheet mso msz mnu x1 x2 x3).2.2.2 := by
  unfold f_X5_sheet f_X6_sheet f_X5_isSheet f_X6_isSheet f_X1_become
  rw [isin_eq (x := x1) (l := 0) (h := 3) rfl rfl, isin_eq (x := x2) (l := -1) (h := 3) rfl rfl]
  by_cases c1 : f_X5_isIn x1 0 3 = 0
  · rw [if_pos c1, if_pos c1]; exact ⟨rfl, hS⟩
  · rw [if_neg c1, if_neg c1]
    have hv := in_isIn4 c1
    by_cases c2 : f_X5_isIn x2 (-1) 3 = 0
    · rw [if_pos c2, if_pos c2]; exact ⟨rfl, hS⟩
    · rw [if_neg c2, if_neg c2]
      have a2 := in_isIn c2
      rw [show (-1 : Int32).toInt = -1 from rfl, show (3 : Int32).toInt = 3 from rfl] at a2
      have hb := becomeL 300 0 (sit x1.toNatClampNeg) (by decide) (by decide) (by decide) (fun k hk => by rw [z0I] at hk; omega)
      have hl := sheetL hv 300 0 mnu (by decide) (by decide) (by decide)
      generalize l_X1_become_21 300 0 (sit x1.toNatClampNeg) = p at hb ⊢
      obtain ⟨p0, p1⟩ := p
      generalize l_X6_sheet_69 x1 300 0 mnu = q at hl ⊢
      obtain ⟨q0, q1⟩ := q
      simp only [pr2_mk, pr3_mk]
      by_cases c3 : x2 = -1
      · have c4 : x2 < 0 := by rw [c3]; decide
        have c5 : ¬ (0 : Int32) ≤ x2 := by rw [c3]; decide
        rw [if_pos c3, if_pos c3, if_pos c3, if_pos c4, if_pos c4, if_neg c5, pr1_mk, pr1_mk, clip40 (by decide) (by decide)]
        exact ⟨rfl, rs_become hS hv a2 (by decide) hb hl⟩
      · have c3' : ¬ x2.toInt = -1 := fun q => c3 (i32_eq.mpr q)
        have c4 : ¬ x2 < 0 := by rw [i32_lt, z0I]; omega
        have c5 : (0 : Int32) ≤ x2 := by rw [i32_le, z0I]; omega
        rw [if_neg c3, if_neg c3, if_neg c3, if_neg c4, if_neg c4, if_pos c5]
        by_cases c6 : x3 ≤ (40 : Int32)
        · rw [if_pos c6, if_pos c6]
          by_cases c7 : (0 : Int32) ≤ x3
          · have c6' := i32_le.mp c6
            have c7' := i32_le.mp c7
            rw [show (40 : Int32).toInt = 40 from rfl] at c6'
            rw [z0I] at c7'
            rw [if_pos c7, if_pos c7, pr1_mk, pr1_mk, clip40 c7' c6']
            exact ⟨rfl, rs_become hS hv a2 ⟨c7', c6'⟩ hb hl⟩
          · rw [if_neg c7, if_neg c7]; exact ⟨rfl, hS⟩
        · rw [if_neg c6, if_neg c6]; exact ⟨rfl, hS⟩
end PU16
/-- the shelves -/
def RH (shw shn shs shz mhw mhh mhm : Nat → Int32) : Prop := ∀ i : Nat, i < 4 → (shw i = 0 ∧ mhw i = 1 ∧ mhh i = shn i) ∨ (shw i = 1 ∧ mhw i = 2 ∧ mhh i = shs i ∧ mhm i = shz i) ∨ (shw i = 2 ∧ mhw i = 0)
theorem under_eq {a b : Int32} (ha : 0 ≤ a.toInt ∧ a.toInt ≤ 5) (hb : 0 ≤ b.toInt ∧ b.toInt ≤ 5) : f_X5_isUnder a b = f_X6_isUnder a b := by
  obtain ⟨m, e1, _⟩ := ofI (x := a) (B := 6) ha.1 (by omega)
  obtain ⟨n, e2, _⟩ := ofI (x := b) (B := 6) hb.1 (by omega)
  rw [e1, e2]
  exact under_tab m n
section PU17
variable {lw kd bt ph cn no s : Nat → Int32} {ct sc rn lg dn zz : Int32} {sit : Nat → Nat → Int64} {mso msz mnu ssr ssi shw shn shs shz mhw mhh mhm : Nat → Int32}
theorem rh_upd {t : Nat} {w n z y a b c : Int32} (hH : RH shw shn shs shz mhw mhh mhm) (h : (w = 0 ∧ a = 1 ∧ b = n) ∨ (w = 1 ∧ a = 2 ∧ b = z ∧ c = y) ∨ (w = 2 ∧ a = 0)) : RH (upd shw t w) (upd shn t n) (upd shs t z) (upd shz t y) (upd mhw t a) (upd mhh t b) (upd mhm t c) := by
  intro i hi
  by_cases e : i = t
  · subst e
    rw [pk_us, pk_us, pk_us, pk_us, pk_us, pk_us, pk_us]; exact h
  · rw [pk_un e, pk_un e, pk_un e, pk_un e, pk_un e, pk_un e, pk_un e]; exact hH i hi
theorem upd_id {f : Nat → Int32} {k : Nat} : upd f k (f k) = f := funext (fun j => upd_self rfl j)
theorem e_shelf (h : RT lw kd bt ph cn no ct sc rn lg dn zz s) (hS : RS sit ssr ssi mso msz mnu) (hH : RH shw shn shs shz mhw mhh mhm) (x1 x2 x3 : Int32) : (f_X5_shelf ct ssr ssi shw shn shs shz x1 x2 x3).1 = (f_X6_shelf s mso msz mhw mhh mhm x1 x2 x3).1 ∧ RH (f_X5_shelf ct ssr ssi shw shn shs shz x1 x2 x3).2.1 (f_X5_shelf ct ssr ssi shw shn shs shz x1 x2 x3).2.2.1 (f_X5_shelf ct ssr ssi shw shn shs shz x1 x2 x3).2.2.2.1 (f_X5_shelf ct ssr ssi shw shn shs shz x1 x2 x3).2.2.2.2 (f_X6_shelf s mso msz mhw mhh mhm x1 x2 x3).2.1 (f_X6_shelf s mso msz mhw mhh mhm x1 x2 x3).2.2.1 (f_X6_shelf s mso msz mhw mhh mhm x1 x2 x3).2.2.2 := by
  unfold f_X5_shelf f_X6_shelf k_X5_shelf_47 f_X5_isSheet f_X6_isSheet f_X5_isShelf f_X6_isShelf f_X2_holdPerson f_X2_holdRow f_X2_holdNothing
  rw [isin_eq (x := x1) (l := 0) (h := 3) rfl rfl, isin_eq (x := x2) (l := 0) (h := 2) rfl rfl, rt_has h, isin_eq (x := x3) (l := 0) (h := 3) rfl rfl]
  by_cases c1 : f_X5_isIn x1 0 3 = 0
  · rw [if_pos c1, if_pos c1]; exact ⟨rfl, hH⟩
  · rw [if_neg c1, if_neg c1]
    by_cases c2 : f_X5_isIn x2 0 2 = 0
    · rw [if_pos c2, if_pos c2]; exact ⟨rfl, hH⟩
    · rw [if_neg c2, if_neg c2]
      simp only [pr1_mk, pr2_mk, pr3_mk]
      by_cases d0 : x2 = 0
      · have d1 : ¬ x2 = 1 := by rw [d0]; decide
        simp only [if_pos d0, if_neg d1]
        by_cases c3 : f_X4_has ct x3 = 0
        · rw [if_pos c3, if_pos c3]; exact ⟨rfl, hH⟩
        · rw [if_neg c3, if_neg c3, if_pos trivial]
          refine ⟨rfl, ?_⟩
          have q := rh_upd (t := x1.toNatClampNeg) (w := 0) (n := x3) (z := shs x1.toNatClampNeg) (y := shz x1.toNatClampNeg) (a := 1) (b := x3) (c := 0) hH (.inl ⟨rfl, rfl, rfl⟩)
          rw [upd_id, upd_id] at q
          exact q
      · by_cases d1 : x2 = 1
        · simp only [if_neg d0, if_pos d1]
          by_cases c3 : f_X5_isIn x3 0 3 = 0
          · rw [if_pos c3, if_pos c3]; exact ⟨rfl, hH⟩
          · rw [if_neg c3, if_neg c3]
            have hv := in_isIn4 c3
            have hvn : x3.toNatClampNeg < 4 := by have := vp_in_iff.mp hv; have := cl_nn this.1; omega
            obtain ⟨⟨q1, q2⟩, -, -⟩ := hS.2.2 _ hvn
            by_cases c4 : ssr x3.toNatClampNeg = -1
            · rw [if_pos c4, if_pos ((neg_sort hS hvn).2.mp c4)]
              simp only [if_pos]
              refine ⟨trivial, ?_⟩
              have q := rh_upd (t := x1.toNatClampNeg) (w := 2) (n := shn x1.toNatClampNeg) (z := shs x1.toNatClampNeg) (y := shz x1.toNatClampNeg) (a := 0) (b := 0) (c := 0) hH (.inr (.inr ⟨rfl, rfl⟩))
              rw [upd_id, upd_id, upd_id] at q
              exact q
            · rw [if_neg c4, if_neg (fun q => c4 ((neg_sort hS hvn).2.mpr q))]
              simp only [if_neg i1n0]
              refine ⟨trivial, ?_⟩
              have q := rh_upd (t := x1.toNatClampNeg) (w := 1) (n := shn x1.toNatClampNeg) (z := ssr x3.toNatClampNeg) (y := ssi x3.toNatClampNeg) (a := 2) (b := mso x3.toNatClampNeg) (c := msz x3.toNatClampNeg) hH (.inr (.inl ⟨rfl, rfl, q1.symm, q2.symm⟩))
              rw [upd_id] at q
              exact q
        · simp only [if_neg d0, if_neg d1, if_pos]
          refine ⟨trivial, ?_⟩
          have q := rh_upd (t := x1.toNatClampNeg) (w := 2) (n := shn x1.toNatClampNeg) (z := shs x1.toNatClampNeg) (y := shz x1.toNatClampNeg) (a := 0) (b := 0) (c := 0) hH (.inr (.inr ⟨rfl, rfl⟩))
          rw [upd_id, upd_id, upd_id] at q
          exact q
theorem takenT (h : RT lw kd bt ph cn no ct sc rn lg dn zz s) (hH : RH shw shn shs shz mhw mhh mhm) {x1 x2 : Int32} (hi : x1.toNatClampNeg < 4) (h2 : (0 ≤ x2.toInt ∧ x2.toInt ≤ 5) ∨ 10 ≤ x2.toInt) : (if ((f_X5_holdsPerson ct (shw (x1).toNatClampNeg) (shn (x1).toNatClampNeg)) = 0) then (if ((shw (x1).toNatClampNeg) = 1) then (if (x2 < 10) then (if ((f_X5_holdsPerson ct (shw (x1).toNatClampNeg) (shn (x1).toNatClampNeg)) = 0) then ((-13) : Int32) else (if ((f_X5_isUnder (kd ((shn (x1).toNatClampNeg)).toNatClampNeg) x2) = 0) then ((-13) : Int32) else (shn (x1).toNatClampNeg))) else (if ((f_X5_holdsPerson ct (shw (x1).toNatClampNeg) (shn (x1).toNatClampNeg)) = 0) then (if ((shs (x1).toNatClampNeg) = (x2 - 10)) then (shz (x1).toNatClampNeg) else ((-13) : Int32)) else ((-13) : Int32))) else ((-11) : Int32)) else (if (x2 < 10) then (if ((f_X5_holdsPerson ct (shw (x1).toNatClampNeg) (shn (x1).toNatClampNeg)) = 0) then ((-13) : Int32) else (if ((f_X5_isUnder (kd ((shn (x1).toNatClampNeg)).toNatClampNeg) x2) = 0) then ((-13) : Int32) else (shn (x1).toNatClampNeg))) else (if ((f_X5_holdsPerson ct (shw (x1).toNatClampNeg) (shn (x1).toNatClampNeg)) = 0) then (if ((shs (x1).toNatClampNeg) = (x2 - 10)) then (shz (x1).toNatClampNeg) else ((-13) : Int32)) else ((-13) : Int32)))) = (if ((f_X6_heldOn s mhw mhh x1) = 0) then ((-11) : Int32) else (if (10 ≤ x2) then (if ((f_X6_heldOn s mhw mhh x1) = 2) then (if ((mhh (x1).toNatClampNeg) = (x2 - 10)) then (mhm (x1).toNatClampNeg) else ((-13) : Int32)) else ((-13) : Int32)) else (if ((f_X6_heldOn s mhw mhh x1) = 1) then (if ((f_X6_isUnder (f_X6_its s (mhh (x1).toNatClampNeg) (0 : Int32)) x2) = 0) then ((-13) : Int32) else (mhh (x1).toNatClampNeg)) else ((-13) : Int32)))) := by
  have e10 : (10 : Int32).toInt = 10 := rfl
  unfold f_X5_holdsPerson f_X6_heldOn
  rcases hH _ hi with ⟨a, b, c⟩ | ⟨a, b, c, d⟩ | ⟨a, b⟩
  · rw [a, b, c, if_pos rfl, if_pos rfl, rt_has h]
    by_cases g : f_X4_has ct (shn x1.toNatClampNeg) = 0
    · simp only [if_pos g, if_pos]
      rw [if_neg (show ¬ (0 : Int32) = 1 by decide)]
    · have hx := rt_in h g
      have hp := rt_p h hx.1 hx.2.1
      have hk := hp.2.1
      obtain ⟨i0, -, -, -, -⟩ := rp_its hx.1 hx.2.2 hp
      simp only [if_neg g, if_neg i1n0]
      rw [if_neg (show ¬ (1 : Int32) = 2 by decide), if_pos trivial]
      by_cases f : x2 < 10
      · have f' := i32_lt.mp f
        rw [e10] at f'
        have f2 : ¬ (10 : Int32) ≤ x2 := by rw [i32_le, e10]; omega
        rw [if_pos f, if_neg f2, i0, under_eq hk (by omega)]
      · have f' : 10 ≤ x2.toInt := by rw [i32_lt, e10] at f; omega
        have f2 : (10 : Int32) ≤ x2 := by rw [i32_le, e10]; omega
        rw [if_neg f, if_pos f2]
  · rw [a, b, c, d]
    rw [if_neg i1n0, if_pos rfl, if_pos rfl, if_neg (show ¬ (2 : Int32) = 1 by decide), if_neg (show ¬ (2 : Int32) = 0 by decide), if_pos rfl, if_neg (show ¬ (2 : Int32) = 1 by decide)]
    by_cases f : x2 < 10
    · have f' := i32_lt.mp f
      rw [e10] at f'
      have f2 : ¬ (10 : Int32) ≤ x2 := by rw [i32_le, e10]; omega
      rw [if_pos f, if_neg f2]
    · have f' : 10 ≤ x2.toInt := by rw [i32_lt, e10] at f; omega
      have f2 : (10 : Int32) ≤ x2 := by rw [i32_le, e10]; omega
      rw [if_neg f, if_pos f2]
      simp
  · rw [a, b]
    rw [if_neg (show ¬ (2 : Int32) = 0 by decide), if_pos rfl, if_neg (show ¬ (2 : Int32) = 1 by decide), if_neg (show ¬ (0 : Int32) = 1 by decide), if_pos rfl]
theorem e_taken (h : RT lw kd bt ph cn no ct sc rn lg dn zz s) (hH : RH shw shn shs shz mhw mhh mhm) (x1 x2 : Int32) : f_X5_taken kd ct shw shn shs shz x1 x2 = f_X6_taken s mhw mhh mhm x1 x2 := by
  unfold f_X5_taken f_X6_taken f_X5_isShelf f_X6_isShelf f_X5_isKind
  rw [isin_eq (x := x1) (l := 0) (h := 3) rfl rfl, isin_eq (x := x2) (l := 0) (h := 13) rfl rfl, isin_eq (x := x2) (l := 6) (h := 9) rfl rfl]
  by_cases c1 : f_X5_isIn x1 0 3 = 0
  · rw [if_pos c1, if_pos c1]
  · rw [if_neg c1, if_neg c1]
    have hv := in_isIn4 c1
    have hvn : x1.toNatClampNeg < 4 := by have := vp_in_iff.mp hv; have := cl_nn this.1; omega
    have e5 : (5 : Int32).toInt = 5 := rfl
    have e6 : (6 : Int32).toInt = 6 := rfl
    have e9 : (9 : Int32).toInt = 9 := rfl
    have e10 : (10 : Int32).toInt = 10 := rfl
    have e13 : (13 : Int32).toInt = 13 := rfl
    by_cases k : 0 ≤ x2.toInt ∧ x2.toInt ≤ 5
    · rw [if_neg (show ¬ f_X5_isIn x2 0 5 = 0 by rw [isin_y ⟨by rw [z0I]; exact k.1, by rw [e5]; exact k.2⟩]; decide), if_neg (show ¬ f_X5_isIn x2 0 13 = 0 by rw [isin_y ⟨by rw [z0I]; exact k.1, by rw [e13]; omega⟩]; decide), if_pos (isin_n (x := x2) (l := 6) (h := 9) (by rw [e6]; omega))]
      exact takenT h hH hvn (.inl k)
    · rw [if_pos (isin_n (x := x2) (l := 0) (h := 5) (by rw [z0I, e5]; exact k))]
      by_cases m : 10 ≤ x2.toInt ∧ x2.toInt ≤ 13
      · rw [if_neg (show ¬ f_X5_isIn x2 10 13 = 0 by rw [isin_y ⟨by rw [e10]; exact m.1, by rw [e13]; exact m.2⟩]; decide), if_neg (show ¬ f_X5_isIn x2 0 13 = 0 by rw [isin_y ⟨by rw [z0I]; omega, by rw [e13]; omega⟩]; decide), if_pos (isin_n (x := x2) (l := 6) (h := 9) (by rw [e9]; omega))]
        exact takenT h hH hvn (.inr m.1)
      · rw [if_pos (isin_n (x := x2) (l := 10) (h := 13) (by rw [e10, e13]; exact m))]
        by_cases o : 0 ≤ x2.toInt ∧ x2.toInt ≤ 13
        · rw [if_neg (show ¬ f_X5_isIn x2 0 13 = 0 by rw [isin_y ⟨by rw [z0I]; omega, by rw [e13]; omega⟩]; decide), if_neg (show ¬ f_X5_isIn x2 6 9 = 0 by rw [isin_y ⟨by rw [e6]; omega, by rw [e9]; omega⟩]; decide)]
        · rw [if_pos (isin_n (x := x2) (l := 0) (h := 13) (by rw [z0I, e13]; exact o))]
end PU17
