/-! the town against the model's row: the relation, and what one second does -/
def RP (kd bt ph cn no s : Nat → Int32) (k : Nat) : Prop := (s (10 + 5 * k) = kd k ∧ s (10 + 5 * k + 1) = bt k ∧ s (10 + 5 * k + 2) = ph k ∧ s (10 + 5 * k + 3) = cn k ∧ s (10 + 5 * k + 4) = no k) ∧ (0 ≤ (kd k).toInt ∧ (kd k).toInt ≤ 5) ∧ (1 ≤ (bt k).toInt ∧ (bt k).toInt ≤ 9) ∧ (0 ≤ (ph k).toInt ∧ (ph k).toInt ≤ 8) ∧ (0 ≤ (cn k).toInt ∧ (cn k).toInt ≤ 11) ∧ (0 ≤ (no k).toInt ∧ (no k).toInt ≤ 9999)
def RT (lw kd bt ph cn no : Nat → Int32) (ct sc rn lg dn zz : Int32) (s : Nat → Int32) : Prop := (s 0 = ct ∧ s 1 = sc ∧ s 2 = zz ∧ s 3 = rn ∧ s 4 = lg ∧ s 5 = dn) ∧ (s 6 = lw 0 ∧ s 7 = lw 1 ∧ s 8 = lw 2 ∧ s 9 = lw 3) ∧ (0 ≤ ct.toInt ∧ ct.toInt ≤ 8) ∧ (0 ≤ rn.toInt ∧ rn.toInt ≤ 9999) ∧ (dn = 0 ∨ dn = 1) ∧ (0 ≤ (lw 3).toInt ∧ (lw 3).toInt ≤ 99) ∧ ∀ k : Nat, (k : Int) < ct.toInt → RP kd bt ph cn no s k
theorem z0I : (0 : Int32).toInt = 0 := rfl
theorem z1I : (1 : Int32).toInt = 1 := rfl
theorem z12I : (12 : Int32).toInt = 12 := rfl
theorem z9I : (9999 : Int32).toInt = 9999 := rfl
theorem i1n0 : ¬ (1 : Int32) = 0 := by decide
theorem i0e0 : (0 : Int32) = 0 := rfl
theorem cl_nn {x : Int32} (h : 0 ≤ x.toInt) : (x.toNatClampNeg : Int) = x.toInt := by
  show ((x.toInt.toNat : Nat) : Int) = x.toInt
  omega
section PU1
variable {lw kd bt ph cn no s : Nat → Int32} {ct sc rn lg dn zz : Int32}
theorem rt_ok (h : RT lw kd bt ph cn no ct sc rn lg dn zz s) : okS s := by
  obtain ⟨⟨h0, _⟩, _, hc, _, _, _, hk⟩ := h
  refine ⟨by rw [h0]; exact hc.1, by rw [h0]; exact hc.2, fun k hk1 => ?_⟩
  rw [h0] at hk1
  obtain ⟨⟨_, hb, _⟩, _, hb2, _⟩ := hk k hk1
  rw [hb]
  exact nz1 hb2.1
theorem rt_p (h : RT lw kd bt ph cn no ct sc rn lg dn zz s) {x : Int32} (h0 : 0 ≤ x.toInt) (h1 : x.toInt < ct.toInt) : RP kd bt ph cn no s x.toNatClampNeg := h.2.2.2.2.2.2 _ (by rw [cl_nn h0]; exact h1)
theorem rp_its {x : Int32} (h0 : 0 ≤ x.toInt) (h8 : x.toInt < 8) (h : RP kd bt ph cn no s x.toNatClampNeg) : f_X6_its s x 0 = kd x.toNatClampNeg ∧ f_X6_its s x 1 = bt x.toNatClampNeg ∧ f_X6_its s x 2 = ph x.toNatClampNeg ∧ f_X6_its s x 3 = cn x.toNatClampNeg ∧ f_X6_its s x 4 = no x.toNatClampNeg := by
  obtain ⟨⟨a0, a1, a2, a3, a4⟩, _⟩ := h
  unfold f_X6_its
  have e0 : (0 : Int32).toNatClampNeg = 0 := rfl
  have e1 : (1 : Int32).toNatClampNeg = 1 := rfl
  have e2 : (2 : Int32).toNatClampNeg = 2 := rfl
  have e3 : (3 : Int32).toNatClampNeg = 3 := rfl
  have e4 : (4 : Int32).toNatClampNeg = 4 := rfl
  refine ⟨?_, ?_, ?_, ?_, ?_⟩
  · rw [its_ix (w := 0) h0 h8 (by decide) (by decide), e0, Nat.add_zero]; exact a0
  · rw [its_ix (w := 1) h0 h8 (by decide) (by decide), e1]; exact a1
  · rw [its_ix (w := 2) h0 h8 (by decide) (by decide), e2]; exact a2
  · rw [its_ix (w := 3) h0 h8 (by decide) (by decide), e3]; exact a3
  · rw [its_ix (w := 4) h0 h8 (by decide) (by decide), e4]; exact a4
theorem rt_sounds (h : RT lw kd bt ph cn no ct sc rn lg dn zz s) {x : Int32} (h0 : 0 ≤ x.toInt) (h1 : x.toInt < ct.toInt) : f_X6_sounds s x = f_X4_isSounding lw kd bt ph sc rn x := by
  have hp := rt_p h h0 h1
  obtain ⟨⟨hct, hsc, hzz, hrn, hlg, hdn⟩, ⟨h6, h7, h8, h9⟩, hc, _⟩ := h
  obtain ⟨i0, i1, i2, i3, i4⟩ := rp_its h0 (by omega) hp
  obtain ⟨_, _, hb, _⟩ := hp
  have hB : ¬ bt x.toNatClampNeg ≤ 0 := by rw [i32_le, z0I]; omega
  unfold f_X6_sounds f_X4_isSounding f_X4_isCooking f_X4_isMarching f_X4_isOnBeat
  simp only [pr1, i0, i1, i2, hsc, hrn, h7, h8, if_neg hB]
  generalize (sc + ph x.toNatClampNeg) - (sc + ph x.toNatClampNeg) / bt x.toNatClampNeg * bt x.toNatClampNeg = m1
  generalize sc - sc / 2 * 2 = m2
  generalize sc - sc / 7 * 7 = m7
  by_cases c1 : m1 = 0 <;> by_cases c2 : rn < lw 1 <;> by_cases c3 : m2 = 0 <;> simp [c1, c2, c3, i1n0]
theorem rt_reach (h : RT lw kd bt ph cn no ct sc rn lg dn zz s) {x : Int32} (h0 : 0 ≤ x.toInt) (h1 : x.toInt < ct.toInt) : f_X6_reaches s x = f_X4_reachOf lw kd ph x := by
  have hp := rt_p h h0 h1
  obtain ⟨_, ⟨h6, h7, h8, h9⟩, hc, _⟩ := h
  obtain ⟨i0, i1, i2, i3, i4⟩ := rp_its h0 (by omega) hp
  unfold f_X6_reaches f_X4_reachOf
  simp only [i0, i2, h7]
  rw [Int32.mul_comm 2 (2 + lw 1)]
theorem bit_in {x : Int32} (h0 : 0 ≤ x.toInt) (h8 : x.toInt < 8) : bS ((1 : Int32) <<< (x &&& 31)) := bS_shl (vpI h0 h8)
theorem rt_soundL (h : RT lw kd bt ph cn no ct sc rn lg dn zz s) : ∀ (N : Nat) (x1 x2 : Int32), 0 ≤ x2.toInt → l_X6_sounding_4 s N x1 x2 = l_X4_soundingSet_4 lw kd bt ph ct sc rn N x1 x2 := by
  intro N
  induction N with
  | zero => intro x1 x2 _; rw [l_X6_sounding_4, l_X4_soundingSet_4]
  | succ N ih =>
    intro x1 x2 h0
    rw [l_X6_sounding_4, l_X4_soundingSet_4, h.1.1]
    by_cases c : ct ≤ x2
    · rw [if_pos c, if_pos c]
    · rw [if_neg c, if_neg c]
      have hs := cnt_step (B := 8) h0 h.2.2.1.2 (by decide) c
      have hlt : x2.toInt < ct.toInt := by have := mt i32_le.mpr c; omega
      rw [rt_sounds h h0 hlt]
      by_cases c2 : f_X4_isSounding lw kd bt ph sc rn x2 = 0
      · rw [if_pos c2, if_pos c2, pr1_mk, pr1_mk, Int32.or_zero]; exact ih _ _ hs.1
      · rw [if_neg c2, if_neg c2, pr1_mk, pr1_mk]; exact ih _ _ hs.1
theorem rt_sounding (h : RT lw kd bt ph cn no ct sc rn lg dn zz s) : f_X6_sounding s = f_X4_soundingSet lw kd bt ph ct sc rn := by
  unfold f_X6_sounding f_X4_soundingSet
  rw [rt_soundL h 300 0 0 (by decide)]
theorem steps_eq {a b n : Int32} (ha : 0 ≤ a.toInt ∧ a.toInt ≤ 11) (hb : 0 ≤ b.toInt ∧ b.toInt ≤ 11) (hn : (if 0 ≤ (a - b) then (a - b) else 0 - (a - b)) = n) : (if ((12 : Int32) - n) < n then ((12 : Int32) - n) else n) = f_X6_stepsOff a b := by
  have e1 : (a - b).toInt = a.toInt - b.toInt := i32_subE (by omega) (by omega)
  have e2 : (b - a).toInt = b.toInt - a.toInt := i32_subE (by omega) (by omega)
  have e3 : (0 - (a - b)).toInt = 0 - (a - b).toInt := i32_subE (a := 0) (b := a - b) (by rw [z0I]; omega) (by rw [z0I]; omega)
  have e : (if 0 ≤ (a - b) then (a - b) else 0 - (a - b)) = (if b ≤ a then (a - b) else (b - a)) := by
    by_cases c : b ≤ a
    · have c2 : 0 ≤ a - b := by rw [i32_le] at c ⊢; rw [z0I]; omega
      rw [if_pos c, if_pos c2]
    · have c2 : ¬ 0 ≤ a - b := by rw [i32_le] at c ⊢; rw [z0I]; omega
      rw [if_neg c, if_neg c2]
      exact i32_eq.mpr (by omega)
  unfold f_X6_stepsOff f_X6_least
  rw [← e, hn]
  simp only [pr1]
  by_cases c : (12 : Int32) - n < n
  · have c2 : (12 : Int32) - n ≤ n := Int32.le_of_lt c
    rw [if_pos c, if_pos c2]
  · rw [if_neg c]
    by_cases c2 : (12 : Int32) - n ≤ n
    · rw [if_pos c2]
      rw [i32_lt] at c
      rw [i32_le] at c2
      exact i32_eq.mpr (by omega)
    · rw [if_neg c2]
theorem rt_heardL (h : RT lw kd bt ph cn no ct sc rn lg dn zz s) {x1 x2 : Int32} (hx : 0 ≤ x2.toInt ∧ x2.toInt ≤ 11) : ∀ (N : Nat) (x3 x4 : Int32), 0 ≤ x4.toInt → l_X6_heardOf_5 s x1 x2 N x3 x4 = l_X4_heardOf_5 lw kd ph cn ct x1 x2 N x3 x4 := by
  intro N
  induction N with
  | zero => intro x3 x4 _; rw [l_X6_heardOf_5, l_X4_heardOf_5]
  | succ N ih =>
    intro x3 x4 h0
    rw [l_X6_heardOf_5, l_X4_heardOf_5, h.1.1]
    by_cases c : ct ≤ x4
    · rw [if_pos c, if_pos c]
    · rw [if_neg c, if_neg c]
      have hs := cnt_step (B := 8) h0 h.2.2.1.2 (by decide) c
      have hlt : x4.toInt < ct.toInt := by have := mt i32_le.mpr c; omega
      have hp := rt_p h h0 hlt
      have hcn := hp.2.2.2.2.1
      obtain ⟨i0, i1, i2, i3, i4⟩ := rp_its h0 hs.2.2.2 hp
      simp only [pr1_mk]
      generalize hn : (if 0 ≤ (cn x4.toNatClampNeg - x2) then (cn x4.toNatClampNeg - x2) else 0 - (cn x4.toNatClampNeg - x2)) = n3
      rw [rt_reach h h0 hlt, i3, ← steps_eq hcn hx hn]
      by_cases c1 : ((x1 >>> (x4 &&& 31)) &&& 1) = 1
      · simp only [if_pos c1]
        by_cases c2 : f_X4_reachOf lw kd ph x4 < (if ((12 : Int32) - n3) < n3 then ((12 : Int32) - n3) else n3)
        · rw [if_pos c2, if_pos c2, Int32.or_zero]; exact ih _ _ hs.1
        · rw [if_neg c2, if_neg c2]; exact ih _ _ hs.1
      · simp only [if_neg c1]
        rw [Int32.or_zero]; exact ih _ _ hs.1
theorem rt_heard (h : RT lw kd bt ph cn no ct sc rn lg dn zz s) {x1 x2 : Int32} (hx : 0 ≤ x2.toInt ∧ x2.toInt ≤ 11) : f_X6_heardOf s x1 x2 = f_X4_heardOf lw kd ph cn ct x1 x2 := by
  unfold f_X6_heardOf f_X4_heardOf
  rw [rt_heardL h hx 300 0 0 (by decide)]
theorem rt_atL (h : RT lw kd bt ph cn no ct sc rn lg dn zz s) {x1 : Int32} : ∀ (N : Nat) (x2 x3 : Int32), 0 ≤ x3.toInt → l_X6_thoseAt_4 s x1 N x2 x3 = l_X4_setAt_4 cn ct x1 N x2 x3 := by
  intro N
  induction N with
  | zero => intro x2 x3 _; rw [l_X6_thoseAt_4, l_X4_setAt_4]
  | succ N ih =>
    intro x2 x3 h0
    rw [l_X6_thoseAt_4, l_X4_setAt_4, h.1.1]
    by_cases c : ct ≤ x3
    · rw [if_pos c, if_pos c]
    · rw [if_neg c, if_neg c]
      have hs := cnt_step (B := 8) h0 h.2.2.1.2 (by decide) c
      have hlt : x3.toInt < ct.toInt := by have := mt i32_le.mpr c; omega
      obtain ⟨i0, i1, i2, i3, i4⟩ := rp_its h0 hs.2.2.2 (rt_p h h0 hlt)
      rw [i3]
      by_cases c2 : cn x3.toNatClampNeg = x1
      · rw [if_pos c2, if_pos c2, pr1_mk, pr1_mk]; exact ih _ _ hs.1
      · rw [if_neg c2, if_neg c2, pr1_mk, pr1_mk, Int32.or_zero]; exact ih _ _ hs.1
theorem rt_at (h : RT lw kd bt ph cn no ct sc rn lg dn zz s) {x1 : Int32} : f_X6_thoseAt s x1 = f_X4_setAt cn ct x1 := by
  unfold f_X6_thoseAt f_X4_setAt
  rw [rt_atL h 300 0 0 (by decide)]
theorem rt_noisesL (h : RT lw kd bt ph cn no ct sc rn lg dn zz s) : ∀ (N : Nat) (x2 x3 : Int32), 0 ≤ x3.toInt → l_X6_noises_4 s N x2 x3 = l_X4_noiseOfAll_4 no ct N x2 x3 := by
  intro N
  induction N with
  | zero => intro x2 x3 _; rw [l_X6_noises_4, l_X4_noiseOfAll_4]
  | succ N ih =>
    intro x2 x3 h0
    rw [l_X6_noises_4, l_X4_noiseOfAll_4, h.1.1]
    by_cases c : ct ≤ x3
    · rw [if_pos c, if_pos c]
    · rw [if_neg c, if_neg c]
      have hs := cnt_step (B := 8) h0 h.2.2.1.2 (by decide) c
      have hlt : x3.toInt < ct.toInt := by have := mt i32_le.mpr c; omega
      obtain ⟨i0, i1, i2, i3, i4⟩ := rp_its h0 hs.2.2.2 (rt_p h h0 hlt)
      rw [i4]
      exact ih _ _ hs.1
theorem rt_noises (h : RT lw kd bt ph cn no ct sc rn lg dn zz s) : f_X6_noises s = f_X4_noiseOfAll no ct := by
  unfold f_X6_noises f_X4_noiseOfAll
  rw [rt_noisesL h 300 0 0 (by decide)]
theorem rp_of {kd' bt' ph' cn' no' s' : Nat → Int32} {k : Nat} (h : RP kd bt ph cn no s k) (e : ∀ w, w < 5 → s' (10 + 5 * k + w) = s (10 + 5 * k + w)) (ek : kd' k = kd k) (eb : bt' k = bt k) (ep : ph' k = ph k) (ec : cn' k = cn k) (en : no' k = no k) : RP kd' bt' ph' cn' no' s' k := by
  unfold RP
  have q0 := e 0 (by decide)
  rw [Nat.add_zero] at q0
  rw [q0, e 1 (by decide), e 2 (by decide), e 3 (by decide), e 4 (by decide), ek, eb, ep, ec, en]
  exact h
theorem rt_of {kd' bt' ph' cn' no' s' : Nat → Int32} (h : RT lw kd bt ph cn no ct sc rn lg dn zz s) (e : ∀ k, k < 10 → s' k = s k) (hp : ∀ k : Nat, (k : Int) < ct.toInt → RP kd' bt' ph' cn' no' s' k) : RT lw kd' bt' ph' cn' no' ct sc rn lg dn zz s' := by
  obtain ⟨⟨a0, a1, a2, a3, a4, a5⟩, ⟨a6, a7, a8, a9⟩, hc, hr, hd, hl, hk⟩ := h
  exact ⟨⟨(e 0 (by decide)).trans a0, (e 1 (by decide)).trans a1, (e 2 (by decide)).trans a2, (e 3 (by decide)).trans a3, (e 4 (by decide)).trans a4, (e 5 (by decide)).trans a5⟩, ⟨(e 6 (by decide)).trans a6, (e 7 (by decide)).trans a7, (e 8 (by decide)).trans a8, (e 9 (by decide)).trans a9⟩, hc, hr, hd, hl, hp⟩
theorem rt_same {s' : Nat → Int32} (h : RT lw kd bt ph cn no ct sc rn lg dn zz s) (e : ∀ k, k < 50 → s' k = s k) : RT lw kd bt ph cn no ct sc rn lg dn zz s' := by
  have hc := h.2.2.1
  exact rt_of h (fun k hk => e k (by omega)) (fun k hk => rp_of (h.2.2.2.2.2.2 k hk) (fun w hw => e _ (by omega)) rfl rfl rfl rfl rfl)
theorem rt_kd (h : RT lw kd bt ph cn no ct sc rn lg dn zz s) {k0 : Nat} {v : Int32} (hk0 : (k0 : Int) < ct.toInt) (hv : 0 ≤ v.toInt ∧ v.toInt ≤ 5) : RT lw (upd kd k0 v) bt ph cn no ct sc rn lg dn zz (upd s (10 + 5 * k0) v) := by
  refine rt_of h (fun k hk => pk_un (by omega)) (fun k hk => ?_)
  by_cases e : k = k0
  · subst e
    obtain ⟨⟨a0, a1, a2, a3, a4⟩, r0, r1, r2, r3, r4⟩ := h.2.2.2.2.2.2 k hk
    exact ⟨⟨pk_us.trans pk_us.symm, (pk_un (by omega)).trans a1, (pk_un (by omega)).trans a2, (pk_un (by omega)).trans a3, (pk_un (by omega)).trans a4⟩, by rw [pk_us]; exact hv, r1, r2, r3, r4⟩
  · exact rp_of (h.2.2.2.2.2.2 k hk) (fun w hw => pk_un (by omega)) (pk_un e) rfl rfl rfl rfl
theorem rt_bt (h : RT lw kd bt ph cn no ct sc rn lg dn zz s) {k0 : Nat} {v : Int32} (hk0 : (k0 : Int) < ct.toInt) (hv : 1 ≤ v.toInt ∧ v.toInt ≤ 9) : RT lw kd (upd bt k0 v) ph cn no ct sc rn lg dn zz (upd s (10 + 5 * k0 + 1) v) := by
  refine rt_of h (fun k hk => pk_un (by omega)) (fun k hk => ?_)
  by_cases e : k = k0
  · subst e
    obtain ⟨⟨a0, a1, a2, a3, a4⟩, r0, r1, r2, r3, r4⟩ := h.2.2.2.2.2.2 k hk
    exact ⟨⟨(pk_un (by omega)).trans a0, pk_us.trans pk_us.symm, (pk_un (by omega)).trans a2, (pk_un (by omega)).trans a3, (pk_un (by omega)).trans a4⟩, r0, by rw [pk_us]; exact hv, r2, r3, r4⟩
  · exact rp_of (h.2.2.2.2.2.2 k hk) (fun w hw => pk_un (by omega)) rfl (pk_un e) rfl rfl rfl
theorem rt_ph (h : RT lw kd bt ph cn no ct sc rn lg dn zz s) {k0 : Nat} {v : Int32} (hk0 : (k0 : Int) < ct.toInt) (hv : 0 ≤ v.toInt ∧ v.toInt ≤ 8) : RT lw kd bt (upd ph k0 v) cn no ct sc rn lg dn zz (upd s (10 + 5 * k0 + 2) v) := by
  refine rt_of h (fun k hk => pk_un (by omega)) (fun k hk => ?_)
  by_cases e : k = k0
  · subst e
    obtain ⟨⟨a0, a1, a2, a3, a4⟩, r0, r1, r2, r3, r4⟩ := h.2.2.2.2.2.2 k hk
    exact ⟨⟨(pk_un (by omega)).trans a0, (pk_un (by omega)).trans a1, pk_us.trans pk_us.symm, (pk_un (by omega)).trans a3, (pk_un (by omega)).trans a4⟩, r0, r1, by rw [pk_us]; exact hv, r3, r4⟩
  · exact rp_of (h.2.2.2.2.2.2 k hk) (fun w hw => pk_un (by omega)) rfl rfl (pk_un e) rfl rfl
theorem rt_cn (h : RT lw kd bt ph cn no ct sc rn lg dn zz s) {k0 : Nat} {v : Int32} (hk0 : (k0 : Int) < ct.toInt) (hv : 0 ≤ v.toInt ∧ v.toInt ≤ 11) : RT lw kd bt ph (upd cn k0 v) no ct sc rn lg dn zz (upd s (10 + 5 * k0 + 3) v) := by
  refine rt_of h (fun k hk => pk_un (by omega)) (fun k hk => ?_)
  by_cases e : k = k0
  · subst e
    obtain ⟨⟨a0, a1, a2, a3, a4⟩, r0, r1, r2, r3, r4⟩ := h.2.2.2.2.2.2 k hk
    exact ⟨⟨(pk_un (by omega)).trans a0, (pk_un (by omega)).trans a1, (pk_un (by omega)).trans a2, pk_us.trans pk_us.symm, (pk_un (by omega)).trans a4⟩, r0, r1, r2, by rw [pk_us]; exact hv, r4⟩
  · exact rp_of (h.2.2.2.2.2.2 k hk) (fun w hw => pk_un (by omega)) rfl rfl rfl (pk_un e) rfl
theorem rt_no (h : RT lw kd bt ph cn no ct sc rn lg dn zz s) {k0 : Nat} {v : Int32} (hk0 : (k0 : Int) < ct.toInt) (hv : 0 ≤ v.toInt ∧ v.toInt ≤ 9999) : RT lw kd bt ph cn (upd no k0 v) ct sc rn lg dn zz (upd s (10 + 5 * k0 + 4) v) := by
  refine rt_of h (fun k hk => pk_un (by omega)) (fun k hk => ?_)
  by_cases e : k = k0
  · subst e
    obtain ⟨⟨a0, a1, a2, a3, a4⟩, r0, r1, r2, r3, r4⟩ := h.2.2.2.2.2.2 k hk
    exact ⟨⟨(pk_un (by omega)).trans a0, (pk_un (by omega)).trans a1, (pk_un (by omega)).trans a2, (pk_un (by omega)).trans a3, pk_us.trans pk_us.symm⟩, r0, r1, r2, r3, by rw [pk_us]; exact hv⟩
  · exact rp_of (h.2.2.2.2.2.2 k hk) (fun w hw => pk_un (by omega)) rfl rfl rfl rfl (pk_un e)
end PU1
theorem size_tab : ∀ n : Fin 256, f_X6_size (Int32.ofNat n.val) = f_J6_bitCount_0f7a4 (Int32.ofNat n.val) ∧ 0 ≤ (f_X6_size (Int32.ofNat n.val)).toInt ∧ (f_X6_size (Int32.ofNat n.val)).toInt ≤ 8 := by decide +kernel
theorem size_eq {x : Int32} (h : bS x) : f_X6_size x = f_J6_bitCount_0f7a4 x := by
  have t := (size_tab ⟨x.toBitVec.toNat, h⟩).1
  rw [← bS_of h] at t
  exact t
theorem size_rng {x : Int32} (h : bS x) : 0 ≤ (f_X6_size x).toInt ∧ (f_X6_size x).toInt ≤ 8 := by
  have t := (size_tab ⟨x.toBitVec.toNat, h⟩).2
  rw [← bS_of h] at t
  exact t
theorem bS_and {x y : Int32} (h : bS x) : bS (x &&& y) := by
  unfold bS at *
  rw [Int32.toBitVec_and, BitVec.toNat_and]
  exact Nat.lt_of_le_of_lt Nat.and_le_left h
theorem bS_heardL {ss : Nat → Int32} {y1 y2 : Int32} (hok : okS ss) : ∀ (N : Nat) (x1 x2 : Int32), bS x1 → 0 ≤ x2.toInt → bS (l_X6_heardOf_5 ss y1 y2 N x1 x2).1 := by
  intro N
  induction N with
  | zero => intro x1 x2 h _; rw [l_X6_heardOf_5]; exact h
  | succ N ih =>
    intro x1 x2 h h0
    rw [l_X6_heardOf_5]
    by_cases c : ss 0 ≤ x2
    · rw [if_pos c]; exact h
    · rw [if_neg c]
      have hs := cnt_step (B := 8) h0 hok.2.1 (by decide) c
      have hv : vp_in x2 8 := vpI h0 hs.2.2.2
      rw [pr1_mk]
      refine ih _ _ (bS_or h ?_) hs.1
      split
      · split
        · exact bS0
        · exact bS_shl hv
      · exact bS0
theorem bS_heard {ss : Nat → Int32} {y1 y2 : Int32} (hok : okS ss) : bS (f_X6_heardOf ss y1 y2) := by
  unfold f_X6_heardOf
  have h := bS_heardL (y1 := y1) (y2 := y2) hok 300 0 0 bS0 (by decide)
  generalize l_X6_heardOf_5 ss y1 y2 300 0 0 = p at h
  obtain ⟨x, y⟩ := p
  exact h
theorem sh0 {x : Int32} (h : vp_in x 8) : ¬ (((0 : Int32) >>> (x &&& 31)) &&& 1) = 1 := by
  rcases eight_of h with rfl | rfl | rfl | rfl | rfl | rfl | rfl | rfl <;> decide
theorem heard0L {ss : Nat → Int32} {y2 : Int32} (hok : okS ss) : ∀ (N : Nat) (x1 x2 : Int32), 0 ≤ x2.toInt → (l_X6_heardOf_5 ss 0 y2 N x1 x2).1 = x1 := by
  intro N
  induction N with
  | zero => intro x1 x2 _; rw [l_X6_heardOf_5]
  | succ N ih =>
    intro x1 x2 h0
    rw [l_X6_heardOf_5]
    by_cases c : ss 0 ≤ x2
    · rw [if_pos c]
    · rw [if_neg c]
      have hs := cnt_step (B := 8) h0 hok.2.1 (by decide) c
      rw [if_neg (sh0 (vpI h0 hs.2.2.2)), pr1_mk, Int32.or_zero]
      exact ih _ _ hs.1
theorem heard0 {ss : Nat → Int32} {y2 : Int32} (hok : okS ss) : f_X6_heardOf ss 0 y2 = 0 := by
  unfold f_X6_heardOf
  have h := heard0L (y2 := y2) hok 300 0 0 (by decide)
  generalize l_X6_heardOf_5 ss 0 y2 300 0 0 = p at h
  obtain ⟨x, y⟩ := p
  exact h
theorem size0 : f_X6_size ((0 : Int32) &&& 0) = 0 := by decide +kernel
theorem and0 {x : Int32} : (0 : Int32) &&& x = 0 := Int32.zero_and
theorem upd_self {f : Nat → Int32} {k : Nat} {v : Int32} (h : f k = v) (j : Nat) : upd f k v j = f j := by
  by_cases e : j = k
  · rw [e, pk_us, h]
  · exact pk_un e
section PU2
variable {lw kd bt ph cn : Nat → Int32} {ct zz : Int32}
theorem rt_quietL {no : Nat → Int32} {sc rn lg dn : Int32} : ∀ (N : Nat) (x2 : Int32) (s : Nat → Int32), 0 ≤ x2.toInt → RT lw kd bt ph cn no ct sc rn lg dn zz s → RT lw kd bt ph cn no ct sc rn lg dn zz (l_X6_goesBy_2 0 N x2 s).2 := by
  intro N
  induction N with
  | zero => intro x2 s _ h; rw [l_X6_goesBy_2]; exact h
  | succ N ih =>
    intro x2 s h0 h
    rw [l_X6_goesBy_2, h.1.1]
    by_cases c : ct ≤ x2
    · rw [if_pos c]; exact h
    · rw [if_neg c]
      have hs := cnt_step (B := 8) h0 h.2.2.1.2 (by decide) c
      have hlt : x2.toInt < ct.toInt := by have := mt i32_le.mpr c; omega
      have hp := rt_p h h0 hlt
      have hr := hp.2.2.2.2.2
      obtain ⟨i0, i1, i2, i3, i4⟩ := rp_its h0 hs.2.2.2 hp
      have ei := its_ix (o := x2) (w := 4) h0 hs.2.2.2 (by decide) (by decide)
      have e4 : (4 : Int32).toNatClampNeg = 4 := rfl
      have ec : f_X6_its s x2 4 = s (10 + 5 * x2.toNatClampNeg + 4) := by unfold f_X6_its; rw [ei, e4]
      have ez : f_X6_size ((0 : Int32) &&& (((1 : Int32) <<< (x2 &&& 31)) ^^^ (-1))) = 0 := by rw [and0]; exact size0
      have el : f_X6_least 9999 (f_X6_its s x2 4 + 0) = f_X6_its s x2 4 := by
        rw [Int32.add_zero, i4]
        unfold f_X6_least
        rw [if_pos (by rw [i32_le, z9I]; exact hr.2)]
      rw [heard0 (rt_ok h), ez, pr1_mk, el, ei, e4]
      exact ih _ _ hs.1 (rt_same h (fun k _ => upd_self ec.symm k))
theorem least_eq {y : Int32} : f_X6_least 9999 y = if y < (9999 : Int32) then y else (9999 : Int32) := by
  unfold f_X6_least
  by_cases c : y < (9999 : Int32)
  · rw [if_pos c, if_pos (Int32.le_of_lt c)]
  · rw [if_neg c]
    by_cases c2 : y ≤ (9999 : Int32)
    · rw [if_pos c2]
      rw [i32_lt] at c
      rw [i32_le] at c2
      exact i32_eq.mpr (by omega)
    · rw [if_neg c2]
theorem min_rng {y : Int32} (h : 0 ≤ y.toInt) : 0 ≤ (if y < (9999 : Int32) then y else (9999 : Int32)).toInt ∧ (if y < (9999 : Int32) then y else (9999 : Int32)).toInt ≤ 9999 := by
  by_cases c : y < (9999 : Int32)
  · rw [if_pos c]
    rw [i32_lt, z9I] at c
    omega
  · rw [if_neg c, z9I]; omega
theorem rt_noisyL {x1 sc rn lg dn : Int32} (hx : ¬ x1 = 0) : ∀ (N : Nat) (x2 : Int32) (no s : Nat → Int32), 0 ≤ x2.toInt → RT lw kd bt ph cn no ct sc rn lg dn zz s → RT lw kd bt ph cn (l_X4_hear_2 lw kd ph cn ct x1 N x2 no).2 ct sc rn lg dn zz (l_X6_goesBy_2 x1 N x2 s).2 := by
  intro N
  induction N with
  | zero => intro x2 no s _ h; rw [l_X6_goesBy_2, l_X4_hear_2]; exact h
  | succ N ih =>
    intro x2 no s h0 h
    rw [l_X6_goesBy_2, l_X4_hear_2, h.1.1]
    by_cases c : ct ≤ x2
    · rw [if_pos c, if_pos c]; exact h
    · rw [if_neg c, if_neg c, if_neg hx]
      have hs := cnt_step (B := 8) h0 h.2.2.1.2 (by decide) c
      have hlt : x2.toInt < ct.toInt := by have := mt i32_le.mpr c; omega
      have hp := rt_p h h0 hlt
      have hr := hp.2.2.2.2.2
      have hcn := hp.2.2.2.2.1
      obtain ⟨i0, i1, i2, i3, i4⟩ := rp_its h0 hs.2.2.2 hp
      have ei := its_ix (o := x2) (w := 4) h0 hs.2.2.2 (by decide) (by decide)
      have e4 : (4 : Int32).toNatClampNeg = 4 := rfl
      have hb : bS (f_X6_heardOf s x1 (cn x2.toNatClampNeg) &&& (((1 : Int32) <<< (x2 &&& 31)) ^^^ (-1))) := bS_and (bS_heard (rt_ok h))
      have hz := size_rng hb
      have he := size_eq hb
      rw [rt_heard h hcn] at hb hz he
      rw [i3, i4, rt_heard h hcn, pr1_mk, pr1_mk, least_eq, he, ei, e4]
      rw [he] at hz
      have ea := i32_addE (a := no x2.toNatClampNeg) (b := f_J6_bitCount_0f7a4 (f_X4_heardOf lw kd ph cn ct x1 (cn x2.toNatClampNeg) &&& (((1 : Int32) <<< (x2 &&& 31)) ^^^ (-1)))) (by omega) (by omega)
      exact ih _ _ _ hs.1 (rt_no h (by rw [cl_nn h0]; exact hlt) (min_rng (by omega)))
theorem rt_end {no s : Nat → Int32} {x sc rn lg dn : Int32} (h : RT lw kd bt ph cn no ct sc rn lg dn zz s) : RT lw kd bt ph cn no ct (f_X4_endSecond lw sc rn lg dn x).1 (f_X4_endSecond lw sc rn lg dn x).2.1 (f_X4_endSecond lw sc rn lg dn x).2.2.1 (f_X4_endSecond lw sc rn lg dn x).2.2.2 zz (pr1 (if (x = 0) then (f_X6_least (9999 : Int32) ((s 3) + 1)) else (0 : Int32)) (fun j72_0 => pr1 (if (j72_0 < (s 6)) then (s 5) else (1 : Int32)) (fun j133_0 => ((upd (upd (upd (upd s 3 j72_0) 4 (f_X6_greatest (s 4) j72_0)) 5 j133_0) 1 ((s 1) + 1)))))) := by
  obtain ⟨⟨a0, a1, a2, a3, a4, a5⟩, ⟨a6, a7, a8, a9⟩, hc, hr, hd, hl, hk⟩ := h
  unfold f_X4_endSecond
  simp only [pr1]
  rw [a1, a3, a4, a5, a6, least_eq]
  have hj : 0 ≤ (if x = 0 then (if rn + 1 < (9999 : Int32) then rn + 1 else (9999 : Int32)) else (0 : Int32)).toInt ∧ (if x = 0 then (if rn + 1 < (9999 : Int32) then rn + 1 else (9999 : Int32)) else (0 : Int32)).toInt ≤ 9999 := by
    by_cases c : x = 0
    · rw [if_pos c]
      have e := i32_add1 (i := rn) (by omega)
      exact min_rng (by omega)
    · rw [if_neg c]; decide
  generalize (if x = 0 then (if rn + 1 < (9999 : Int32) then rn + 1 else (9999 : Int32)) else (0 : Int32)) = j at hj
  have hg : f_X6_greatest lg j = if lg < j then j else lg := by
    unfold f_X6_greatest
    by_cases c : lg < j
    · rw [if_pos c, if_pos (Int32.le_of_lt c)]
    · rw [if_neg c]
      by_cases c2 : lg ≤ j
      · rw [if_pos c2]
        rw [i32_lt] at c
        rw [i32_le] at c2
        exact i32_eq.mpr (by omega)
      · rw [if_neg c2]
  rw [hg]
  have hd2 : (if j < lw 0 then dn else (1 : Int32)) = 0 ∨ (if j < lw 0 then dn else (1 : Int32)) = 1 := by
    split
    · exact hd
    · exact .inr rfl
  generalize (if j < lw 0 then dn else (1 : Int32)) = d at hd2
  generalize (if lg < j then j else lg) = g
  have q : ∀ k : Nat, k ≠ 1 → k ≠ 3 → k ≠ 4 → k ≠ 5 → upd (upd (upd (upd s 3 j) 4 g) 5 d) 1 (sc + 1) k = s k := fun k k1 k3 k4 k5 => by rw [pk_un k1, pk_un k5, pk_un k4, pk_un k3]
  refine ⟨⟨(q 0 (by decide) (by decide) (by decide) (by decide)).trans a0, pk_us, (q 2 (by decide) (by decide) (by decide) (by decide)).trans a2, ?_, ?_, ?_⟩, ⟨(q 6 (by decide) (by decide) (by decide) (by decide)).trans a6, (q 7 (by decide) (by decide) (by decide) (by decide)).trans a7, (q 8 (by decide) (by decide) (by decide) (by decide)).trans a8, (q 9 (by decide) (by decide) (by decide) (by decide)).trans a9⟩, hc, hj, hd2, hl, fun k hk2 => rp_of (hk k hk2) (fun w hw => q _ (by omega) (by omega) (by omega) (by omega)) rfl rfl rfl rfl rfl⟩
  · rw [pk_un (by decide), pk_un (by decide), pk_un (by decide), pk_us]
  · rw [pk_un (by decide), pk_un (by decide), pk_us]
  · rw [pk_un (by decide), pk_us]
theorem hear0 {no : Nat → Int32} : f_X4_hear lw kd ph cn no ct 0 = no := by
  unfold f_X4_hear
  rw [l_X4_hear_2]
  split
  · rfl
  · rw [if_pos rfl]; rfl
theorem rt_goesBy {no s : Nat → Int32} {sc rn lg dn : Int32} (x : Int32) (h : RT lw kd bt ph cn no ct sc rn lg dn zz s) : RT lw kd bt ph cn (f_X4_hear lw kd ph cn no ct x) ct (f_X4_endSecond lw sc rn lg dn x).1 (f_X4_endSecond lw sc rn lg dn x).2.1 (f_X4_endSecond lw sc rn lg dn x).2.2.1 (f_X4_endSecond lw sc rn lg dn x).2.2.2 zz (f_X6_goesBy s x) := by
  have h1 : RT lw kd bt ph cn (f_X4_hear lw kd ph cn no ct x) ct sc rn lg dn zz (l_X6_goesBy_2 x 300 0 s).2 := by
    by_cases c : x = 0
    · rw [c, hear0]; exact rt_quietL 300 0 s (by decide) h
    · unfold f_X4_hear
      have h2 := rt_noisyL c 300 0 no s (by decide) h
      generalize l_X4_hear_2 lw kd ph cn ct x 300 0 no = p at h2 ⊢
      obtain ⟨p1, p2⟩ := p
      exact h2
  unfold f_X6_goesBy
  generalize l_X6_goesBy_2 x 300 0 s = p at h1 ⊢
  obtain ⟨p1, p2⟩ := p
  rw [pr2_mk]
  exact rt_end h1
end PU2
