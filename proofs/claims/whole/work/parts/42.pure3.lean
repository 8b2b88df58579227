/-! seconds, and what is tried by seconds -/
theorem cpy_at {f g : Nat → Int32} {n k : Nat} (h : k < n) : va_cpy f g 0 0 n k = f k := by
  unfold va_cpy
  rw [if_pos ⟨Nat.zero_le _, by omega⟩, Nat.zero_add, Nat.sub_zero]
theorem and_m1 (x : Int32) : x &&& ((0 : Int32) ^^^ (-1)) = x := by
  apply Int32.toBitVec_inj.mp
  have e : ((0 : Int32) ^^^ (-1)).toBitVec = BitVec.allOnes 32 := by decide
  rw [Int32.toBitVec_and, e, BitVec.and_allOnes]
theorem grt_eq {a b : Int32} : f_X6_greatest a b = if a < b then b else a := by
  unfold f_X6_greatest
  by_cases c : a < b
  · rw [if_pos c, if_pos (Int32.le_of_lt c)]
  · rw [if_neg c]
    by_cases c2 : a ≤ b
    · rw [if_pos c2]
      rw [i32_lt] at c
      rw [i32_le] at c2
      exact i32_eq.mpr (by omega)
    · rw [if_neg c2]
theorem goes1 (s : Nat → Int32) (x2 : Int32) : f_X6_goes s 1 x2 = f_X6_goesBy s (f_X6_sounding s &&& (x2 ^^^ (-1))) := by
  have e : ∀ N : Nat, l_X6_goes_2 1 x2 (N + 1 + 1) 0 s = (0 + 1, f_X6_goesBy s (f_X6_sounding s &&& (x2 ^^^ (-1)))) := fun N => by
    rw [l_X6_goes_2, if_neg (by decide), pr1_mk, l_X6_goes_2, if_pos (by decide)]
  unfold f_X6_goes
  have e2 := e 298
  rw [show (298 + 1 + 1 : Nat) = 300 from rfl] at e2
  rw [e2, pr2_mk]
abbrev T13 := Int32 × (Nat → Int32) × (Nat → Int32) × (Nat → Int32) × (Nat → Int32) × (Nat → Int32) × (Nat → Int32) × Int32 × Int32 × Int32 × Int32 × Int32 × Int32
def RTq (lw kd bt ph cn : Nat → Int32) (ct zz : Int32) (r : (Nat → Int32) × Int32 × Int32 × Int32 × Int32) (s : Nat → Int32) : Prop := RT lw kd bt ph cn r.1 ct r.2.1 r.2.2.1 r.2.2.2.1 r.2.2.2.2 zz s
section PU4
variable {lw kd bt ph cn no s : Nat → Int32} {ct sc rn lg dn zz : Int32}
theorem rt_cpy {lw' kd' bt' ph' cn' no' : Nat → Int32} (h : RT lw kd bt ph cn no ct sc rn lg dn zz s) : RT (va_cpy lw lw' 0 0 4) (va_cpy kd kd' 0 0 8) (va_cpy bt bt' 0 0 8) (va_cpy ph ph' 0 0 8) (va_cpy cn cn' 0 0 8) (va_cpy no no' 0 0 8) ct sc rn lg dn zz s := by
  obtain ⟨ha, ⟨a6, a7, a8, a9⟩, hc, hr, hd, hl, hk⟩ := h
  refine ⟨ha, ⟨a6.trans (cpy_at (by decide)).symm, a7.trans (cpy_at (by decide)).symm, a8.trans (cpy_at (by decide)).symm, a9.trans (cpy_at (by decide)).symm⟩, hc, hr, hd, by rw [cpy_at (by decide)]; exact hl, fun k hk2 => ?_⟩
  have k8 : k < 8 := by omega
  exact rp_of (hk k hk2) (fun _ _ => rfl) (cpy_at k8) (cpy_at k8) (cpy_at k8) (cpy_at k8) (cpy_at k8)
theorem rt_passS (h : RT lw kd bt ph cn no ct sc rn lg dn zz s) : (f_X4_pass lw kd bt ph cn no ct sc rn lg dn).1 = f_X6_sounding s ∧ RTq lw kd bt ph cn ct zz (f_X4_pass lw kd bt ph cn no ct sc rn lg dn).2 (f_X6_goesBy s (f_X6_sounding s)) := by
  have e : f_X4_pass lw kd bt ph cn no ct sc rn lg dn = (f_X4_soundingSet lw kd bt ph ct sc rn, f_X4_hear lw kd ph cn no ct (f_X4_soundingSet lw kd bt ph ct sc rn), f_X4_endSecond lw sc rn lg dn (f_X4_soundingSet lw kd bt ph ct sc rn)) := rfl
  rw [e, rt_sounding h]
  exact ⟨rfl, rt_goesBy _ h⟩
theorem rt_passG (h : RT lw kd bt ph cn no ct sc rn lg dn zz s) : RTq lw kd bt ph cn ct zz (f_X4_pass lw kd bt ph cn no ct sc rn lg dn).2 (f_X6_goes s 1 0) := by
  rw [goes1, and_m1]
  exact (rt_passS h).2
end PU4
section PU5
variable {lw kd bt ph cn : Nat → Int32} {ct zz : Int32}
theorem rt_secL {x1 : Int32} : ∀ (N : Nat) (x2 : Int32) (no : Nat → Int32) (sc rn lg dn : Int32) (s : Nat → Int32), RT lw kd bt ph cn no ct sc rn lg dn zz s → RTq lw kd bt ph cn ct zz (l_X5_seconds_14 lw kd bt ph cn ct x1 N x2 no sc rn lg dn).2 (l_X6_goes_2 x1 0 N x2 s).2 := by
  intro N
  induction N with
  | zero => intro x2 no sc rn lg dn s h; rw [l_X5_seconds_14, l_X6_goes_2]; exact h
  | succ N ih =>
    intro x2 no sc rn lg dn s h
    rw [l_X5_seconds_14, l_X6_goes_2]
    by_cases c : x1 ≤ x2
    · rw [if_pos c, if_pos c]; exact h
    · rw [if_neg c, if_neg c]
      have hp := (rt_passS h).2
      rw [← and_m1 (f_X6_sounding s)] at hp
      generalize f_X4_pass lw kd bt ph cn no ct sc rn lg dn = p at hp ⊢
      obtain ⟨p0, p1, p2, p3, p4, p5⟩ := p
      rw [pr6_mk, pr1_mk]
      exact ih _ _ _ _ _ _ _ hp
theorem rt_runL {x1 : Int32} : ∀ (N : Nat) (x2 : Int32) (no : Nat → Int32) (sc rn lg dn : Int32) (s : Nat → Int32), RT lw kd bt ph cn no ct sc rn lg dn zz s → RTq lw kd bt ph cn ct zz (l_X5_runBehind_13 lw kd bt ph cn ct x1 N x2 no sc rn lg dn).2 (l_X6_goes_2 x1 0 N x2 s).2 := by
  intro N
  induction N with
  | zero => intro x2 no sc rn lg dn s h; rw [l_X5_runBehind_13, l_X6_goes_2]; exact h
  | succ N ih =>
    intro x2 no sc rn lg dn s h
    rw [l_X5_runBehind_13, l_X6_goes_2]
    by_cases c : x1 ≤ x2
    · rw [if_pos c, if_pos c]; exact h
    · rw [if_neg c, if_neg c]
      have hp := (rt_passS h).2
      rw [← and_m1 (f_X6_sounding s)] at hp
      generalize f_X4_pass lw kd bt ph cn no ct sc rn lg dn = p at hp ⊢
      obtain ⟨p0, p1, p2, p3, p4, p5⟩ := p
      rw [pr6_mk, pr1_mk]
      exact ih _ _ _ _ _ _ _ hp
theorem e_seconds {no s : Nat → Int32} {sc rn lg dn : Int32} (h : RT lw kd bt ph cn no ct sc rn lg dn zz s) (x1 : Int32) : (f_X5_seconds lw kd bt ph cn no ct sc rn lg dn x1).1 = (f_X6_seconds s x1).1 ∧ RTq lw kd bt ph cn ct zz (f_X5_seconds lw kd bt ph cn no ct sc rn lg dn x1).2 (f_X6_seconds s x1).2 := by
  unfold f_X5_seconds f_X6_seconds f_X6_goes
  rw [isin_eq (x := x1) (l := 1) (h := 60) rfl rfl]
  by_cases c1 : f_X5_isIn x1 1 60 = 0
  · rw [if_pos c1, if_pos c1]; exact ⟨rfl, h⟩
  · rw [if_neg c1, if_neg c1]
    have hp := rt_secL (x1 := x1) 300 0 no sc rn lg dn s h
    generalize l_X5_seconds_14 lw kd bt ph cn ct x1 300 0 no sc rn lg dn = p at hp ⊢
    obtain ⟨p0, p1, p2, p3, p4, p5⟩ := p
    generalize l_X6_goes_2 x1 0 300 0 s = q at hp ⊢
    obtain ⟨q0, q1⟩ := q
    rw [pr6_mk, pr2_mk, pr1_mk]
    exact ⟨hp.1.2.2.2.1.symm, hp⟩
theorem rt_run {no s : Nat → Int32} {sc rn lg dn : Int32} {tlw tkd tbt tph tcn tno : Nat → Int32} (h : RT lw kd bt ph cn no ct sc rn lg dn zz s) (x1 : Int32) : (f_X5_runBehind lw kd bt ph cn no ct sc rn lg dn zz tlw tkd tbt tph tcn tno x1).1 = f_X6_goes s x1 0 3 := by
  unfold f_X5_runBehind f_X6_goes
  have hp := rt_runL (x1 := x1) 300 0 _ sc rn lg dn s (rt_cpy (lw' := tlw) (kd' := tkd) (bt' := tbt) (ph' := tph) (cn' := tcn) (no' := tno) h)
  generalize l_X5_runBehind_13 (va_cpy lw tlw 0 0 4) (va_cpy kd tkd 0 0 8) (va_cpy bt tbt 0 0 8) (va_cpy ph tph 0 0 8) (va_cpy cn tcn 0 0 8) ct x1 300 0 (va_cpy no tno 0 0 8) sc rn lg dn = p at hp ⊢
  obtain ⟨p0, p1, p2, p3, p4, p5⟩ := p
  generalize l_X6_goes_2 x1 0 300 0 s = q at hp ⊢
  obtain ⟨q0, q1⟩ := q
  rw [pr6_mk, pr2_mk]
  exact hp.1.2.2.2.1.symm
theorem back_s {s mas : Nat → Int32} (t : Nat → Int32) : ∀ k, k < 50 → f_X6_copyRow__as t (f_X6_copyRow__sa s mas) k = s k := fun k hk => by rw [cpas _ _ k hk, cpsa _ _ k hk]
theorem e_lasts {no s mas : Nat → Int32} {sc rn lg dn : Int32} {tlw tkd tbt tph tcn tno : Nat → Int32} {tct tsc trn tlg tdn tzz : Int32} (h : RT lw kd bt ph cn no ct sc rn lg dn zz s) (x1 : Int32) : (f_X5_lasts lw kd bt ph cn no ct sc rn lg dn zz tlw tkd tbt tph tcn tno tct tsc trn tlg tdn tzz x1).1 = (f_X6_lasts s mas x1).1 ∧ ∀ k, k < 50 → (f_X6_lasts s mas x1).2.1 k = s k := by
  unfold f_X5_lasts f_X6_lasts
  rw [isin_eq (x := x1) (l := 0) (h := 60) rfl rfl]
  by_cases c1 : f_X5_isIn x1 0 60 = 0
  · rw [if_pos c1, if_pos c1]; exact ⟨rfl, fun _ _ => rfl⟩
  · rw [if_neg c1, if_neg c1]
    have hp := rt_run (tlw := tlw) (tkd := tkd) (tbt := tbt) (tph := tph) (tcn := tcn) (tno := tno) h x1
    generalize f_X5_runBehind lw kd bt ph cn no ct sc rn lg dn zz tlw tkd tbt tph tcn tno x1 = p at hp ⊢
    obtain ⟨p0, p1, p2, p3, p4, p5, p6, p7, p8, p9, p10, p11, p12⟩ := p
    rw [pr13_mk, pr1_mk, pr1_mk, pr1_mk]
    exact ⟨hp, back_s _⟩
theorem rt_lenL {x1 : Int32} : ∀ (N : Nat) (x2 x3 : Int32) (no : Nat → Int32) (sc rn lg dn : Int32) (s : Nat → Int32), RT lw kd bt ph cn no ct sc rn lg dn zz s → (l_X4_longestWithin_4 lw kd bt ph ct x1 N x2 x3 sc rn lg dn).1 = (l_X6_lengthBy_16 x1 0 N x2 x3 s).1 := by
  intro N
  induction N with
  | zero => intro x2 x3 no sc rn lg dn s h; rw [l_X4_longestWithin_4, l_X6_lengthBy_16]
  | succ N ih =>
    intro x2 x3 no sc rn lg dn s h
    rw [l_X4_longestWithin_4, l_X6_lengthBy_16]
    by_cases c : x1 ≤ x3
    · rw [if_pos c, if_pos c]
    · rw [if_neg c, if_neg c]
      have hp := rt_goesBy (f_X6_sounding s) h
      rw [goes1, and_m1, pr1_mk, ← rt_sounding h, grt_eq]
      generalize f_X4_endSecond lw sc rn lg dn (f_X6_sounding s) = p at hp ⊢
      obtain ⟨p0, p1, p2, p3⟩ := p
      rw [pr4_mk, hp.1.2.2.2.1]
      exact ih _ _ _ _ _ _ _ _ hp
theorem rt_length {no s mas : Nat → Int32} {sc rn lg dn : Int32} (h : RT lw kd bt ph cn no ct sc rn lg dn zz s) (x1 : Int32) : (f_X4_longestWithin lw kd bt ph ct sc rn lg dn x1).1 = (f_X6_lengthBy s mas x1 0).1 := by
  unfold f_X4_longestWithin f_X6_lengthBy
  have hp := rt_lenL (x1 := x1) 300 0 0 no sc rn lg dn s h
  generalize l_X4_longestWithin_4 lw kd bt ph ct x1 300 0 0 sc rn lg dn = p at hp ⊢
  obtain ⟨p0, p1, p2, p3, p4, p5⟩ := p
  generalize l_X6_lengthBy_16 x1 0 300 0 0 s = q at hp ⊢
  obtain ⟨q0, q1, q2⟩ := q
  rw [pr6_mk, pr1_mk, pr3_mk, pr1_mk]
  exact hp
theorem len_keep {s mas : Nat → Int32} {x1 x2 : Int32} : ∀ k, k < 50 → (f_X6_lengthBy s mas x1 x2).2.1 k = s k := lengthBy_keep (r := (f_X6_lengthBy s mas x1 x2).1) (s2 := (f_X6_lengthBy s mas x1 x2).2.1) (m2 := (f_X6_lengthBy s mas x1 x2).2.2) rfl
theorem e_length {no s mas : Nat → Int32} {sc rn lg dn : Int32} {tlw tkd tbt tph tcn tno : Nat → Int32} {tct tsc trn tlg tdn tzz : Int32} (h : RT lw kd bt ph cn no ct sc rn lg dn zz s) (x1 : Int32) : (f_X5_length lw kd bt ph cn no ct sc rn lg dn zz tlw tkd tbt tph tcn tno tct tsc trn tlg tdn tzz x1).1 = (f_X6_length s mas x1).1 ∧ ∀ k, k < 50 → (f_X6_length s mas x1).2.1 k = s k := by
  unfold f_X5_length f_X6_length f_X6_isLong
  rw [isin_eq (x := x1) (l := 1) (h := 60) rfl rfl]
  by_cases c1 : f_X5_isIn x1 1 60 = 0
  · rw [if_pos c1, if_pos c1]; exact ⟨rfl, fun _ _ => rfl⟩
  · rw [if_neg c1, if_neg c1]
    have hp := rt_length (mas := mas) (rt_cpy (lw' := tlw) (kd' := tkd) (bt' := tbt) (ph' := tph) (cn' := tcn) (no' := tno) h) x1
    have hk := len_keep (s := s) (mas := mas) (x1 := x1) (x2 := 0)
    generalize f_X4_longestWithin (va_cpy lw tlw 0 0 4) (va_cpy kd tkd 0 0 8) (va_cpy bt tbt 0 0 8) (va_cpy ph tph 0 0 8) ct sc rn lg dn x1 = p at hp ⊢
    obtain ⟨p0, p1, p2, p3, p4⟩ := p
    generalize f_X6_lengthBy s mas x1 0 = q at hp hk ⊢
    obtain ⟨q0, q1, q2⟩ := q
    rw [pr5_mk, pr3_mk]
    exact ⟨hp, hk⟩
theorem e_keptL {tz : Int32} (g : Int32 × (Nat → Int32) × Int32 × Int32 × Int32 × Int32 → T13) (hg : ∀ z, z.2.2.2.2.2 = 0 → (g z).1 = -3) : ∀ (N : Nat) (x1 : Int32) (no : Nat → Int32) (sc rn lg : Int32) (s : Nat → Int32), RT lw kd bt ph cn no ct sc rn lg 0 zz s → 0 ≤ x1.toInt → x1.toInt ≤ 60 → ((61 : Int) - x1.toInt).toNat < N → (sm (l_X5_kept_13 lw kd bt ph cn ct tz N x1 no sc rn lg 0) g (fun X => X)).1 = (if 60 < (l_X6_kept_13 N x1 s).1 then -3 else (l_X6_kept_13 N x1 s).1) := by
  have e60 : (60 : Int32).toInt = 60 := rfl
  intro N
  induction N with
  | zero => intro x1 no sc rn lg s _ _ _ h; exact absurd h (Nat.not_lt_zero _)
  | succ N ih =>
    intro x1 no sc rn lg s h h0 h1 hm
    have ea := i32_add1 (i := x1) (by omega)
    have q60 : ¬ (60 : Int32) < x1 := by rw [i32_lt, e60]; omega
    rw [l_X5_kept_13, l_X6_kept_13, if_neg q60, h.1.2.2.2.2.2, if_pos rfl, pr1_mk]
    have hp := rt_passG h
    by_cases c : (60 : Int32) ≤ x1
    · rw [if_pos c]
      have e : x1 = 60 := by rw [i32_le, e60] at c; exact i32_eq.mpr (by omega)
      have hN : ∃ M, N = M + 1 := ⟨N - 1, by omega⟩
      obtain ⟨M, rfl⟩ := hN
      rw [l_X6_kept_13, if_pos (show (60 : Int32) < x1 + 1 by rw [e]; decide), if_pos rfl]
      show (g (x1, no, sc, rn, lg, 0)).1 = if (60 : Int32) < x1 + 1 then -3 else x1 + 1
      rw [if_pos (show (60 : Int32) < x1 + 1 by rw [e]; decide)]
      exact hg _ rfl
    · have c' : x1.toInt < 60 := by rw [i32_le, e60] at c; omega
      rw [if_neg c, if_pos rfl]
      generalize f_X4_pass lw kd bt ph cn no ct sc rn lg 0 = p at hp ⊢
      obtain ⟨p0, p1, p2, p3, p4, p5⟩ := p
      rw [pr6_mk]
      have hd : p5 = 0 ∨ p5 = 1 := hp.2.2.2.2.1
      have q61 : ¬ (60 : Int32) < x1 + 1 := by rw [i32_lt, e60]; omega
      by_cases d : p5 = 1
      · rw [if_pos d]
        have hN : ∃ M, N = M + 1 := ⟨N - 1, by omega⟩
        obtain ⟨M, rfl⟩ := hN
        have e5 : ¬ f_X6_goes s 1 0 5 = 0 := by
          have q : f_X6_goes s 1 0 5 = p5 := hp.1.2.2.2.2.2
          rw [q, d]; exact i1n0
        rw [l_X6_kept_13, if_neg q61, if_neg e5, if_neg q61]
        rfl
      · have d0 : p5 = 0 := hd.resolve_right d
        rw [if_neg d]
        subst d0
        exact ih _ _ _ _ _ _ hp (by omega) (by omega) (by omega)
theorem e_kept {no s mas : Nat → Int32} {sc rn lg dn : Int32} {tlw tkd tbt tph tcn tno : Nat → Int32} (h : RT lw kd bt ph cn no ct sc rn lg dn zz s) : (f_X5_kept lw kd bt ph cn no ct sc rn lg dn zz tlw tkd tbt tph tcn tno).1 = (f_X6_kept s mas).1 ∧ ∀ k, k < 50 → (f_X6_kept s mas).2.1 k = s k := by
  have hb := back_s (s := s) (mas := mas) (l_X6_kept_13 300 0 s).2
  have h2 := rt_cpy (lw' := tlw) (kd' := tkd) (bt' := tbt) (ph' := tph) (cn' := tcn) (no' := tno) h
  have er : (f_X6_kept s mas).1 = (if 60 < (l_X6_kept_13 300 0 s).1 then -3 else (l_X6_kept_13 300 0 s).1) := by
    unfold f_X6_kept
    generalize l_X6_kept_13 300 0 s = q
    obtain ⟨q0, q1⟩ := q
    rw [pr1_mk, pr2_mk, pr1_mk]
    show (if 60 < q0 then _ else _ : Int32 × (Nat → Int32) × (Nat → Int32)).1 = if 60 < q0 then -3 else q0
    by_cases c : 60 < q0
    · rw [if_pos c, if_pos c]
    · rw [if_neg c, if_neg c]
  have ek : ∀ k, k < 50 → (f_X6_kept s mas).2.1 k = s k := by
    unfold f_X6_kept
    generalize l_X6_kept_13 300 0 s = q at hb ⊢
    obtain ⟨q0, q1⟩ := q
    rw [pr1_mk, pr2_mk, pr1_mk]
    by_cases c : 60 < q0
    · rw [if_pos c]; exact hb
    · rw [if_neg c]; exact hb
  refine ⟨?_, ek⟩
  rw [er]
  unfold f_X5_kept
  rcases h.2.2.2.2.1 with d | d
  · subst d
    exact e_keptL _ (fun z hz => by
      obtain ⟨z0, z1, z2, z3, z4, z5⟩ := z
      have hz' : z5 = 0 := hz
      rw [pr6_mk, if_neg (by rw [hz']; decide)]) 300 0 _ _ _ _ _ h2 (by decide) (by decide) (by decide)
  · subst d
    have e5 : ¬ s 5 = 0 := by rw [h.1.2.2.2.2.2]; decide
    have e1 : ∀ M : Nat, l_X6_kept_13 (M + 1) 0 s = (0, s) := fun M => by rw [l_X6_kept_13, if_neg (by decide), if_neg e5]
    have e2 : ∀ M : Nat, l_X5_kept_13 (va_cpy lw tlw 0 0 4) (va_cpy kd tkd 0 0 8) (va_cpy bt tbt 0 0 8) (va_cpy ph tph 0 0 8) (va_cpy cn tcn 0 0 8) ct zz (M + 1) 0 (va_cpy no tno 0 0 8) sc rn lg 1 = Sum.inl (0, va_cpy no tno 0 0 8, sc, rn, lg, 1) := fun M => by rw [l_X5_kept_13, if_neg (by decide), if_neg (by decide)]
    have e3 := e1 299
    have e4 := e2 299
    rw [show (299 + 1 : Nat) = 300 from rfl] at e3 e4
    rw [e3, e4]
    rfl
theorem ntz_tab : ∀ n : Fin 256, n.val ≠ 0 → f_J6_numberOfTrailingZeros_0f7a4 (Int32.ofNat n.val) = f_X6_leastOf (Int32.ofNat n.val) := by decide +kernel
theorem ntz_eq {x : Int32} (h : bS x) (hz : ¬ x = 0) : f_J6_numberOfTrailingZeros_0f7a4 x = f_X6_leastOf x := by
  have e := bS_of h
  have t := ntz_tab ⟨x.toBitVec.toNat, h⟩ (fun q => hz (by rw [e]; show Int32.ofNat x.toBitVec.toNat = 0; rw [show x.toBitVec.toNat = 0 from q]; rfl))
  rw [← e] at t
  exact t
theorem e_brokenL {tz x1 : Int32} (g : Int32 × (Nat → Int32) × Int32 × Int32 × Int32 × Int32 → T13) (hg : ∀ z, (g z).1 = -3) : ∀ (N : Nat) (n : Int32) (no : Nat → Int32) (sc rn lg dn : Int32) (s : Nat → Int32), RT lw kd bt ph cn no ct sc rn lg dn zz s → 0 ≤ n.toInt → n.toInt ≤ 60 → ((61 : Int) - n.toInt).toNat < N → (sm (l_X5_broken_24 lw kd bt ph cn ct tz x1 N (n + 1) no sc rn lg dn) g (fun X => X)).1 = (if (l_X6_broken_27 N n 0 s).2.1 = 0 then -3 else if x1 = 0 then (l_X6_broken_27 N n 0 s).1 else f_X6_leastOf (l_X6_broken_27 N n 0 s).2.1) := by
  have e60 : (60 : Int32).toInt = 60 := rfl
  intro N
  induction N with
  | zero => intro n no sc rn lg dn s _ _ _ h; exact absurd h (Nat.not_lt_zero _)
  | succ N ih =>
    intro n no sc rn lg dn s h h0 h1 hm
    have ea := i32_add1 (i := n) (by omega)
    rw [l_X5_broken_24, l_X6_broken_27]
    by_cases c : (60 : Int32) ≤ n
    · have c2 : (60 : Int32) < n + 1 := by rw [i32_le] at c; rw [i32_lt]; omega
      rw [if_pos c, if_pos c2, if_pos rfl]
      exact hg _
    · have c2 : ¬ (60 : Int32) < n + 1 := by rw [i32_le] at c; rw [i32_lt]; omega
      rw [if_neg c, if_neg c2, if_pos rfl, pr1_mk]
      have c' : n.toInt < 60 := by rw [i32_le, e60] at c; omega
      have hp := rt_passS h
      have hb := bS_sounding (rt_ok h)
      generalize f_X4_pass lw kd bt ph cn no ct sc rn lg dn = p at hp ⊢
      obtain ⟨p0, p1, p2, p3, p4, p5⟩ := p
      have hp0 : p0 = f_X6_sounding s := hp.1
      rw [pr6_mk, hp0]
      by_cases d : f_X6_sounding s = 0
      · rw [if_pos d]
        have hp2 := hp.2
        rw [d] at hp2 ⊢
        exact ih _ _ _ _ _ _ _ hp2 (by omega) (by omega) (by omega)
      · rw [if_neg d]
        have hN : ∃ M, N = M + 1 := ⟨N - 1, by omega⟩
        obtain ⟨M, rfl⟩ := hN
        have el : ∀ t : Nat → Int32, l_X6_broken_27 (M + 1) (n + 1) (f_X6_sounding s) t = (n + 1, f_X6_sounding s, t) := fun t => by
          rw [l_X6_broken_27, if_neg d]
          split <;> rfl
        rw [el, if_neg d]
        by_cases x0 : x1 = 0
        · rw [if_pos x0, if_pos x0]; rfl
        · rw [if_neg x0, if_neg x0]
          exact ntz_eq hb d
theorem e_broken {no s mas : Nat → Int32} {sc rn lg dn : Int32} {tlw tkd tbt tph tcn tno : Nat → Int32} {tct tsc trn tlg tdn tzz : Int32} (h : RT lw kd bt ph cn no ct sc rn lg dn zz s) (x1 : Int32) : (f_X5_broken lw kd bt ph cn no ct sc rn lg dn zz tlw tkd tbt tph tcn tno tct tsc trn tlg tdn tzz x1).1 = (f_X6_broken s mas x1).1 ∧ ∀ k, k < 50 → (f_X6_broken s mas x1).2.1 k = s k := by
  unfold f_X5_broken f_X6_broken
  rw [isin_eq (x := x1) (l := 0) (h := 1) rfl rfl]
  by_cases c1 : f_X5_isIn x1 0 1 = 0
  · rw [if_pos c1, if_pos c1]; exact ⟨rfl, fun _ _ => rfl⟩
  · rw [if_neg c1, if_neg c1]
    have hb := back_s (s := s) (mas := mas) (l_X6_broken_27 300 0 0 s).2.2
    have h2 := rt_cpy (lw' := tlw) (kd' := tkd) (bt' := tbt) (ph' := tph) (cn' := tcn) (no' := tno) h
    have hp := e_brokenL (tz := zz) (x1 := x1) (fun (z4 : Int32 × (Nat → Int32) × Int32 × Int32 × Int32 × Int32) => pr6 z4 (fun x2_4 tno_4 tsc_4 trn_4 tlg_4 tdn_4 => (((-3) : Int32), (va_cpy lw tlw 0 0 4), (va_cpy kd tkd 0 0 8), (va_cpy bt tbt 0 0 8), (va_cpy ph tph 0 0 8), (va_cpy cn tcn 0 0 8), tno_4, ct, tsc_4, trn_4, tlg_4, tdn_4, zz))) (fun z => rfl) 300 0 _ _ _ _ _ _ h2 (by decide) (by decide) (by decide)
    rw [show (0 : Int32) + 1 = 1 from rfl] at hp
    rw [hp]
    generalize l_X6_broken_27 300 0 0 s = q at hb ⊢
    obtain ⟨q0, q1, q2⟩ := q
    rw [pr1_mk, pr3_mk, pr1_mk]
    by_cases d : q1 = 0
    · rw [if_pos d, if_pos d]; exact ⟨rfl, hb⟩
    · rw [if_neg d, if_neg d]
      by_cases x0 : x1 = 0
      · rw [if_pos x0, if_pos x0]; exact ⟨rfl, hb⟩
      · rw [if_neg x0, if_neg x0]; exact ⟨rfl, hb⟩
theorem rt_secJ {no s2 : Nat → Int32} {sc rn lg dn z2 : Int32} (x : Int32) (h : RT lw kd bt ph cn no ct sc rn lg dn z2 s2) : (pr1 (f_X6_goesBy s2 x) (fun ss_6 => ((ss_6 3), ss_6))).1 = (pr1 (f_X4_hear lw kd ph cn no ct x) (fun no_6 => pr4 (f_X4_endSecond lw sc rn lg dn x) (fun sc_7 rn_7 lg_7 dn_7 => (no_6, sc_7, rn_7, lg_7, dn_7, z2)))).2.2.1 ∧ RT lw kd bt ph cn (pr1 (f_X4_hear lw kd ph cn no ct x) (fun no_6 => pr4 (f_X4_endSecond lw sc rn lg dn x) (fun sc_7 rn_7 lg_7 dn_7 => (no_6, sc_7, rn_7, lg_7, dn_7, z2)))).1 ct (pr1 (f_X4_hear lw kd ph cn no ct x) (fun no_6 => pr4 (f_X4_endSecond lw sc rn lg dn x) (fun sc_7 rn_7 lg_7 dn_7 => (no_6, sc_7, rn_7, lg_7, dn_7, z2)))).2.1 (pr1 (f_X4_hear lw kd ph cn no ct x) (fun no_6 => pr4 (f_X4_endSecond lw sc rn lg dn x) (fun sc_7 rn_7 lg_7 dn_7 => (no_6, sc_7, rn_7, lg_7, dn_7, z2)))).2.2.1 (pr1 (f_X4_hear lw kd ph cn no ct x) (fun no_6 => pr4 (f_X4_endSecond lw sc rn lg dn x) (fun sc_7 rn_7 lg_7 dn_7 => (no_6, sc_7, rn_7, lg_7, dn_7, z2)))).2.2.2.1 (pr1 (f_X4_hear lw kd ph cn no ct x) (fun no_6 => pr4 (f_X4_endSecond lw sc rn lg dn x) (fun sc_7 rn_7 lg_7 dn_7 => (no_6, sc_7, rn_7, lg_7, dn_7, z2)))).2.2.2.2.1 (pr1 (f_X4_hear lw kd ph cn no ct x) (fun no_6 => pr4 (f_X4_endSecond lw sc rn lg dn x) (fun sc_7 rn_7 lg_7 dn_7 => (no_6, sc_7, rn_7, lg_7, dn_7, z2)))).2.2.2.2.2 (pr1 (f_X6_goesBy s2 x) (fun ss_6 => ((ss_6 3), ss_6))).2 := by
  have hp := rt_goesBy x h
  generalize f_X4_endSecond lw sc rn lg dn x = p at hp ⊢
  generalize f_X4_hear lw kd ph cn no ct x = q at hp ⊢
  generalize f_X6_goesBy s2 x = r at hp ⊢
  obtain ⟨p0, p1, p2, p3⟩ := p
  have hp' : RT lw kd bt ph cn q ct p0 p1 p2 p3 z2 r := hp
  exact ⟨hp'.1.2.2.2.1, hp'⟩
theorem rt_second {no s : Nat → Int32} {sc rn lg dn : Int32} (h : RT lw kd bt ph cn no ct sc rn lg dn zz s) : (f_X6_second s).1 = (f_X4_passByDraws lw kd bt ph cn no ct sc rn lg dn zz).2.2.1 ∧ RT lw kd bt ph cn (f_X4_passByDraws lw kd bt ph cn no ct sc rn lg dn zz).1 ct (f_X4_passByDraws lw kd bt ph cn no ct sc rn lg dn zz).2.1 (f_X4_passByDraws lw kd bt ph cn no ct sc rn lg dn zz).2.2.1 (f_X4_passByDraws lw kd bt ph cn no ct sc rn lg dn zz).2.2.2.1 (f_X4_passByDraws lw kd bt ph cn no ct sc rn lg dn zz).2.2.2.2.1 (f_X4_passByDraws lw kd bt ph cn no ct sc rn lg dn zz).2.2.2.2.2 (f_X6_second s).2 := by
  unfold f_X6_second f_X4_passByDraws
  rw [h.1.1, rt_sounding h]
  generalize f_X4_soundingSet lw kd bt ph ct sc rn = S
  by_cases c : ct ≤ 0
  · rw [if_pos c, if_pos c, pr2_mk S s, pr2_mk (0 : Int32) zz, Int32.or_zero]
    exact rt_secJ _ h
  · have m : ∀ (s : Nat → Int32) (r z : Int32), f_X4_draw (s 2) = (r, z) → f_X6_drawn s = (r, upd s 2 z) := fun s r z e => by
      unfold f_X4_draw at e
      injection e with e1 e2
      unfold f_X6_drawn
      rw [e1, e2]
    obtain ⟨r2, z2, e2⟩ : ∃ r z, f_X4_draw zz = (r, z) := ⟨_, _, rfl⟩
    obtain ⟨r3, z3, e3⟩ : ∃ r z, f_X4_draw z2 = (r, z) := ⟨_, _, rfl⟩
    have n1 := m s r2 z2 (by rw [h.1.2.2.1]; exact e2)
    have n2 := m (upd s 2 z2) r3 z3 (by rw [pk_us]; exact e3)
    have e0 : ∀ a b : Int32, upd (upd s 2 a) 2 b 9 = lw 3 := fun a b => by rw [pk_un (by decide), pk_un (by decide)]; exact h.2.1.2.2.2
    have e1 : ∀ a : Int32, upd s 2 a 0 = ct := fun a => by rw [pk_un (by decide)]; exact h.1.1
    have hz := rt_zz (rt_zz h z2) z3
    rw [if_neg c, if_neg c, n1, e2, pr2_mk r2 (upd s 2 z2), pr2_mk r2 z2, n2, e3, pr2_mk r3 (upd (upd s 2 z2) 2 z3), pr2_mk r3 z3, e0, e1]
    by_cases c2 : lw 3 ≤ r3 - r3 / 100 * 100
    · rw [if_pos c2, if_pos c2, pr1_mk, pr2_mk (S ||| 0) (upd (upd s 2 z2) 2 z3), pr2_mk (0 : Int32) z3]
      exact rt_secJ _ hz
    · rw [if_neg c2, if_neg c2, pr1_mk, pr2_mk (S ||| ((1 : Int32) <<< ((r2 - r2 / ct * ct) &&& 31))) (upd (upd s 2 z2) 2 z3), pr2_mk ((1 : Int32) <<< ((r2 - r2 / ct * ct) &&& 31)) z3]
      exact rt_secJ _ hz
theorem e_second {no s : Nat → Int32} {sc rn lg dn : Int32} (h : RT lw kd bt ph cn no ct sc rn lg dn zz s) : (f_X5_second lw kd bt ph cn no ct sc rn lg dn zz).1 = (f_X6_second s).1 ∧ RT lw kd bt ph cn (f_X5_second lw kd bt ph cn no ct sc rn lg dn zz).2.1 ct (f_X5_second lw kd bt ph cn no ct sc rn lg dn zz).2.2.1 (f_X5_second lw kd bt ph cn no ct sc rn lg dn zz).2.2.2.1 (f_X5_second lw kd bt ph cn no ct sc rn lg dn zz).2.2.2.2.1 (f_X5_second lw kd bt ph cn no ct sc rn lg dn zz).2.2.2.2.2.1 (f_X5_second lw kd bt ph cn no ct sc rn lg dn zz).2.2.2.2.2.2 (f_X6_second s).2 := by
  have hp := rt_second h
  unfold f_X5_second
  generalize f_X4_passByDraws lw kd bt ph cn no ct sc rn lg dn zz = p at hp ⊢
  obtain ⟨p1, p2, p3, p4, p5, p6⟩ := p
  rw [pr6_mk]
  exact ⟨hp.1.symm, hp.2⟩
theorem e_spoiltL {no s mas : Nat → Int32} {sc rn lg dn x1 x2 : Int32} (h : RT lw kd bt ph cn no ct sc rn lg dn zz s) : ∀ (N : Nat) (x3 x4 x5 : Int32) (tlw tkd tbt tph tcn tno : Nat → Int32) (tct tsc trn tlg tdn tzz : Int32) (t : Nat → Int32), (l_X5_spoilt_32 lw kd bt ph cn no ct sc rn lg dn x1 x2 N x3 x4 x5 tlw tkd tbt tph tcn tno tct tsc trn tlg tdn tzz).1 = (l_X6_spoilt_51 (f_X6_copyRow__sa s mas) x1 x2 N x4 x3 x5 t).2.1 := by
  intro N
  induction N with
  | zero => intro x3 x4 x5 tlw tkd tbt tph tcn tno tct tsc trn tlg tdn tzz t; rw [l_X5_spoilt_32, l_X6_spoilt_51]
  | succ N ih =>
    intro x3 x4 x5 tlw tkd tbt tph tcn tno tct tsc trn tlg tdn tzz t
    rw [l_X5_spoilt_32, l_X6_spoilt_51]
    by_cases c : x1 ≤ x5
    · rw [if_pos c, if_pos c]
    · rw [if_neg c, if_neg c, pr1_mk]
      have h2 := rt_zz (rt_same (rt_cpy (lw' := tlw) (kd' := tkd) (bt' := tbt) (ph' := tph) (cn' := tcn) (no' := tno) h) (back_s (mas := mas) t)) x4
      have hp := rt_second h2
      generalize f_X4_passByDraws (va_cpy lw tlw 0 0 4) (va_cpy kd tkd 0 0 8) (va_cpy bt tbt 0 0 8) (va_cpy ph tph 0 0 8) (va_cpy cn tcn 0 0 8) (va_cpy no tno 0 0 8) ct sc rn lg dn x4 = p at hp ⊢
      obtain ⟨p1, p2, p3, p4, p5, p6⟩ := p
      generalize f_X6_second (upd (f_X6_copyRow__as t (f_X6_copyRow__sa s mas)) 2 x4) = q at hp ⊢
      obtain ⟨q0, q1⟩ := q
      rw [pr6_mk, pr2_mk]
      have e0 : q0 = p3 := hp.1
      have e2 : q1 2 = p6 := hp.2.1.2.2.1
      rw [e0, e2]
      by_cases c2 : x2 ≤ p3
      · rw [if_pos c2, if_pos c2, pr1_mk, pr1_mk, Int32.add_zero]; exact ih _ _ _ _ _ _ _ _ _ _ _ _ _ _ _ _
      · rw [if_neg c2, if_neg c2, pr1_mk, pr1_mk]; exact ih _ _ _ _ _ _ _ _ _ _ _ _ _ _ _ _
theorem e_spoilt {no s mas : Nat → Int32} {sc rn lg dn : Int32} {tlw tkd tbt tph tcn tno : Nat → Int32} {tct tsc trn tlg tdn tzz : Int32} (h : RT lw kd bt ph cn no ct sc rn lg dn zz s) (x1 : Int32) : (f_X5_spoilt lw kd bt ph cn no ct sc rn lg dn zz tlw tkd tbt tph tcn tno tct tsc trn tlg tdn tzz x1).1 = (f_X6_spoilt s mas x1).1 ∧ ∀ k, k < 50 → (f_X6_spoilt s mas x1).2.1 k = s k := by
  unfold f_X5_spoilt f_X6_spoilt
  rw [isin_eq (x := x1) (l := 1) (h := 30) rfl rfl]
  by_cases c1 : f_X5_isIn x1 1 30 = 0
  · rw [if_pos c1, if_pos c1]; exact ⟨rfl, fun _ _ => rfl⟩
  · rw [if_neg c1, if_neg c1]
    have hp := rt_run (tlw := tlw) (tkd := tkd) (tbt := tbt) (tph := tph) (tcn := tcn) (tno := tno) h 1
    generalize f_X5_runBehind lw kd bt ph cn no ct sc rn lg dn zz tlw tkd tbt tph tcn tno 1 = p at hp ⊢
    obtain ⟨p0, p1, p2, p3, p4, p5, p6, p7, p8, p9, p10, p11, p12⟩ := p
    have hp0 : p0 = f_X6_goes s 1 0 3 := hp
    rw [pr13_mk, pr1_mk, pr1_mk, ← hp0, cpsa s mas 2 (by decide), h.1.2.2.1]
    have hl := e_spoiltL (mas := mas) (x1 := x1) (x2 := p0) h 300 0 zz 0 p1 p2 p3 p4 p5 p6 p7 p8 p9 p10 p11 p12 (f_X6_goes s 1 0)
    have hb := fun t => back_s (s := s) (mas := mas) t
    generalize l_X5_spoilt_32 lw kd bt ph cn no ct sc rn lg dn x1 p0 300 0 zz 0 p1 p2 p3 p4 p5 p6 p7 p8 p9 p10 p11 p12 = q at hl ⊢
    obtain ⟨q0, q1, q2, q3, q4, q5, q6, q7, q8, q9, q10, q11, q12, q13, q14⟩ := q
    generalize l_X6_spoilt_51 (f_X6_copyRow__sa s mas) x1 p0 300 zz 0 0 (f_X6_goes s 1 0) = r at hl ⊢
    obtain ⟨r0, r1, r2, r3⟩ := r
    rw [pr15_mk, pr4_mk, pr1_mk]
    exact ⟨hl, hb _⟩
end PU5
