/-! town(): one statement, the loop, the whole -/
section TW4
variable {bs mtp : Nat → Int32} {tz so fr tt vl : Int32} {lw kd bt ph cn no ss : Nat → Int32} {ct sc rn lg dn zz : Int32}
def IT (bs mtp : Nat → Int32) (tz so fr tt vl : Int32) (lw kd bt ph cn no ss : Nat → Int32) (ct sc rn lg dn zz : Int32) : Prop := ∃ so' fr' tt' ft' lw' kd' bt' ph' cn' no' ct' ss' k' f' t' v' w', f_X3_readStatement bs tz so fr tt (-1) lw kd bt ph cn no ct = (so', fr', tt', ft', lw', kd', bt', ph', cn', no', ct') ∧ f_X6_itemHere ss mtp tz so fr tt vl 0 = (ss', k', f', t', v', w') ∧ PG bs tz so' fr' tt' ft' k' f' t' v' w' ∧ (w' = 0 → RT lw' kd' bt' ph' cn' no' ct' sc rn lg dn zz ss' ∧ fr.toInt < f'.toInt)
theorem law_one (h : RTp bs mtp tz) (q : TK bs tz so fr tt vl) (hs : ¬ so = 0) (R : RT lw kd bt ph cn no ct sc rn lg dn zz ss) (j : Nat) (J X lo hi : Int32) (eK : f_X3_kindNamed bs tz so fr tt = -1) (eC : f_X3_lawNamed bs tz so fr tt = J) (eM : f_X6_lawHere mtp tz so fr tt = X) (J0 : ¬ J < 0) (X0 : ¬ X < 0) (hJ : J.toNatClampNeg = j) (hX : X.toNatClampNeg = 6 + j) (hj : j < 4) (l1 : saG 1 j = lo) (l2 : saG 2 j = hi) (l3 : (if X = 6 then (1 : Int32) else (0 : Int32)) = lo) (l4 : (if X = 7 then (9 : Int32) else (99 : Int32)) = hi) (lo0 : 0 ≤ lo.toInt) (h99 : hi.toInt ≤ 99) : IT bs mtp tz so fr tt vl lw kd bt ph cn no ss ct sc rn lg dn zz := by
  have hk := (kind_eq h q).symm.trans eK
  obtain ⟨k1, f1, t1, v1, n1, n2, n3, n4⟩ := next_ok h q
  obtain ⟨r, s2, f2, t2, ft2, ss2, k2, f2', t2', v2, w2, A2, M2, G2, W2⟩ := num_st h (so := k1) (fr := f1) (tt := t1) (ft := -1) (k := k1) (f := f1) (t := t1) (v := v1) (w := 0) X ss lo hi (.inl ⟨rfl, rfl, rfl, rfl, rfl, n3⟩) lo0
  obtain ⟨s3, f3, t3, ft3, k3, f3', t3', v3, w3, A3, M3, G3, W3⟩ := semi_st h G2
  refine ⟨s3, f3, t3, ft3, upd lw j r, kd, bt, ph, cn, no, ct, ss2, k3, f3', t3', v3, w3, ?_, ?_, G3, fun z => ?_⟩
  · unfold f_X3_readStatement
    rw [eK, if_pos (show (-1 : Int32) < 0 by decide), eC, if_neg J0, n2, pr3_mk k1 f1 t1, hJ, l1, l2, A2, pr5_mk r s2 f2 t2 ft2, A3, pr4_mk s3 f3 t3 ft3]
  · unfold f_X6_itemHere
    rw [hk, if_pos (show (-1 : Int32) < 0 by decide), eM, if_neg X0, n1, pr4_mk k1 f1 t1 v1, l3, pr1_mk, l4, pr1_mk, M2, pr6_mk ss2 k2 f2' t2' v2 w2, pr6_mk ss2 k2 f2' t2' v2 w2, pr1_mk, M3, pr5_mk k3 f3' t3' v3 w3]
  · obtain ⟨z2, p3⟩ := W3 z
    obtain ⟨-, e1, e4, e5, p2⟩ := W2 z2
    have p1 := n3.1.2.1
    have p0 := q.1.2.2.2 hs
    have pp : f2'.toInt ≤ t2'.toInt := by
      rcases G2 with ⟨_, _, _, rfl, rfl, q2⟩ | ⟨_, b, _, _⟩
      · exact q2.1.2.1
      · exact absurd z2 b
    refine ⟨?_, by omega⟩
    rw [e1, hX]
    exact rt_law R hj ⟨by omega, by omega⟩
theorem item_none (h : RTp bs mtp tz) (q : TK bs tz so fr tt vl) (eK : f_X3_kindNamed bs tz so fr tt = -1) (eC : f_X3_lawNamed bs tz so fr tt = -1) (eM : f_X6_lawHere mtp tz so fr tt = -1) : IT bs mtp tz so fr tt vl lw kd bt ph cn no ss ct sc rn lg dn zz := by
  have hk := (kind_eq h q).symm.trans eK
  refine ⟨so, fr, tt, fr, lw, kd, bt, ph, cn, no, ct, ss, so, fr, tt, vl, 1, ?_, ?_, .inr ⟨nn_m1 q.1.1, one_nz, rfl, q.1.1⟩, fun z => absurd z one_nz⟩
  · unfold f_X3_readStatement
    rw [eK, if_pos (show (-1 : Int32) < 0 by decide), eC, if_pos (show (-1 : Int32) < 0 by decide), fl_g, pr1_mk]
  · unfold f_X6_itemHere
    rw [hk, if_pos (show (-1 : Int32) < 0 by decide), eM, if_pos (show (-1 : Int32) < 0 by decide), nd_no, pr5_mk so fr tt vl 1, pr6_mk ss so fr tt vl 1, pr1_mk, nd_w one_nz, pr5_mk so fr tt vl 1]
theorem per_full (h : RTp bs mtp tz) (q : TK bs tz so fr tt vl) (R : RT lw kd bt ph cn no ct sc rn lg dn zz ss) (hc : (8 : Int32) ≤ ct) {K : Int32} (eK : f_X3_kindNamed bs tz so fr tt = K) (hK : 0 ≤ K.toInt ∧ K.toInt ≤ 5) : IT bs mtp tz so fr tt vl lw kd bt ph cn no ss ct sc rn lg dn zz := by
  have hk := (kind_eq h q).symm.trans eK
  have eC := kind_law (bs := bs) (tz := tz) (so := so) (fr := fr) (tt := tt) (by rw [eK]; exact hK.1)
  have hKn : ¬ K < 0 := fun w => by have := i32_lt.mp w; rw [z0I] at this; omega
  have e0 : ss 0 = ct := R.1.1
  obtain ⟨s1, M1⟩ := num_bad (mtp := mtp) (tz := tz) (k := so) (f := fr) (t := tt) (v := vl) (w := 1) (x := 0) (l := 0) (hh := 11) (ss := ss) one_nz
  have P : f_X6_personHere ss mtp tz so fr tt vl 0 K = (s1, so, fr, tt, vl, 1) := by
    unfold f_X6_personHere
    rw [if_pos (show (8 : Int32) ≤ ss 0 by rw [e0]; exact hc), pr1_mk, nd_no, pr5_mk so fr tt vl 1, pr1_mk, nd_w one_nz, pr5_mk so fr tt vl 1, if_neg one_nz, pr1_mk, if_neg one_nz, pr1_mk, M1, pr6_mk s1 so fr tt vl 1, perh_bad one_nz, pr6_mk s1 so fr tt vl 1, perh_bad one_nz, pr6_mk s1 so fr tt vl 1]
  refine ⟨so, fr, tt, fr, lw, kd, bt, ph, cn, no, ct, s1, so, fr, tt, vl, 1, ?_, ?_, .inr ⟨nn_m1 q.1.1, one_nz, rfl, q.1.1⟩, fun z => absurd z one_nz⟩
  · unfold f_X3_readStatement
    rw [eK, if_neg hKn, if_pos hc, eC, if_pos (show (-1 : Int32) < 0 by decide), fl_g, pr1_mk]
  · unfold f_X6_itemHere
    rw [hk, if_neg hKn, P, pr6_mk s1 so fr tt vl 1, pr6_mk s1 so fr tt vl 1, pr1_mk, nd_w one_nz, pr5_mk so fr tt vl 1]
theorem b_of {r d l h : Int32} (b : r = d ∨ l.toInt ≤ r.toInt ∧ r.toInt ≤ h.toInt) (d1 : l.toInt ≤ d.toInt) (d2 : d.toInt ≤ h.toInt) : l.toInt ≤ r.toInt ∧ r.toInt ≤ h.toInt := by
  rcases b with rfl | b
  · exact ⟨d1, d2⟩
  · exact b
theorem at_st (h : RTp bs mtp tz) {k1 f1 t1 v1 : Int32} (n3 : TK bs tz k1 f1 t1 v1) : ∃ b2 s2 f2 t2 ft2 k2 f2' t2' v2 w2, f_X3_tookName__at bs tz k1 f1 t1 (-1) = (b2, s2, f2, t2) ∧ (if (b2 = 0) then (pr1 (f_X3_fail f2 (-1)) (fun ft_3 => ft_3)) else (-1 : Int32)) = ft2 ∧ f_X6_needs mtp tz k1 f1 t1 v1 0 (if k1 = 1 then (if (t1 - f1) = 2 then (if f_X6_byteAt mtp tz f1 = 97 then (if f_X6_byteAt mtp tz (f1 + 1) = 116 then (1 : Int32) else (0 : Int32)) else (0 : Int32)) else (0 : Int32)) else (0 : Int32)) = (k2, f2', t2', v2, w2) ∧ PG bs tz s2 f2 t2 ft2 k2 f2' t2' v2 w2 ∧ (w2 = 0 → t1.toInt ≤ f2'.toInt) := by
  by_cases c : f_X3_isName__n10 bs tz k1 f1 t1 = 0
  · have m : (if k1 = 1 then (if (t1 - f1) = 2 then (if f_X6_byteAt mtp tz f1 = 97 then (if f_X6_byteAt mtp tz (f1 + 1) = 116 then (1 : Int32) else (0 : Int32)) else (0 : Int32)) else (0 : Int32)) else (0 : Int32)) = 0 := Classical.byContradiction fun z => by
      rw [z_ite, z_ite, z_ite, z_ite] at z
      exact (q_10 h n3).mpr ⟨z.1, z.2.1, z.2.2.1, z.2.2.2.1⟩ c
    refine ⟨0, k1, f1, t1, f1, k1, f1, t1, v1, 1, ?_, ?_, ?_, .inr ⟨nn_m1 n3.1.1, one_nz, rfl, n3.1.1⟩, fun z => absurd z one_nz⟩
    · unfold f_X3_tookName__at
      rw [if_pos (show (-1 : Int32) = -1 from rfl), if_pos c]
    · rw [if_pos (show (0 : Int32) = 0 from rfl), fl_g, pr1_mk]
    · rw [m]; exact nd_no
  · have m := (q_10 h n3).mp c
    obtain ⟨k3, f3, t3, v3, m1, m2, m3, m4⟩ := next_ok h n3
    refine ⟨1, k3, f3, t3, -1, k3, f3, t3, v3, 0, ?_, if_neg one_nz, ?_, .inl ⟨rfl, rfl, rfl, rfl, rfl, m3⟩, fun _ => m4⟩
    · unfold f_X3_tookName__at
      rw [if_pos (show (-1 : Int32) = -1 from rfl), if_neg c, m2, pr3_mk k3 f3 t3]
    · rw [if_pos m.1, if_pos m.2.1, if_pos m.2.2.1, if_pos m.2.2.2]; exact nd_ok one_nz m1
theorem pg_le {k f t v w ft : Int32} (G : PG bs tz so fr tt ft k f t v w) (z : w = 0) : f.toInt ≤ t.toInt := by
  rcases G with ⟨_, _, _, rfl, rfl, q2⟩ | ⟨_, b, _, _⟩
  · exact q2.1.2.1
  · exact absurd z b
set_option maxHeartbeats 4000000 in
theorem per_st (h : RTp bs mtp tz) (q : TK bs tz so fr tt vl) (hs : ¬ so = 0) (R : RT lw kd bt ph cn no ct sc rn lg dn zz ss) (hc : ¬ (8 : Int32) ≤ ct) {K : Int32} (eK : f_X3_kindNamed bs tz so fr tt = K) (hK : 0 ≤ K.toInt ∧ K.toInt ≤ 5) : IT bs mtp tz so fr tt vl lw kd bt ph cn no ss ct sc rn lg dn zz := by
  have hk := (kind_eq h q).symm.trans eK
  have hKn : ¬ K < 0 := fun w => by have := i32_lt.mp w; rw [z0I] at this; omega
  have e0 : ss 0 = ct := R.1.1
  have hc' := per_lt hc
  have c0 : 0 ≤ ct.toInt := R.2.2.1.1
  have s0 : 0 ≤ (ss 0).toInt := by rw [e0]; exact c0
  have s8 : (ss 0).toInt < 8 := by rw [e0]; exact hc'
  obtain ⟨k1, f1, t1, v1, n1, n2, n3, n4⟩ := next_ok h q
  obtain ⟨g21, s2, f2, t2, ft2, k2, f2', t2', v2, w2, B2, A2, M2, G2, W2⟩ := at_st h n3
  obtain ⟨S0, hS0, cS⟩ : ∃ S0, (if w2 = 0 then (pr1 (f_X6_comes ss K (5 : Int32) (0 : Int32) (0 : Int32)) (fun ss_11 => ss_11)) else ss) = S0 ∧ (w2 = 0 → S0 = f_X6_comes ss K 5 0 0) := ⟨_, rfl, fun z => by rw [if_pos z, pr1_mk]⟩
  obtain ⟨X3, hX3, cX⟩ : ∃ X3, (if w2 = 0 then (((10 : Int32) + ((5 : Int32) * (ss 0))) + 3) else (0 : Int32)) = X3 ∧ (w2 = 0 → X3 = (10 : Int32) + (5 : Int32) * (ss 0) + 3) := ⟨_, rfl, fun z => if_pos z⟩
  obtain ⟨r5, s3, f3, t3, ft3, ss3, k3, f3', t3', v3, w3, A3, M3, G3, W3⟩ := num_st h X3 S0 0 11 G2 (by decide)
  have i1 : ((10 : Int32) + (5 : Int32) * (ss 0) + 1).toNatClampNeg = 10 + 5 * (ss 0).toNatClampNeg + 1 := its_ix s0 s8 (w := 1) (by decide) (by decide)
  have i2 : ((10 : Int32) + (5 : Int32) * (ss 0) + 2).toNatClampNeg = 10 + 5 * (ss 0).toNatClampNeg + 2 := its_ix s0 s8 (w := 2) (by decide) (by decide)
  have i3 : ((10 : Int32) + (5 : Int32) * (ss 0) + 3).toNatClampNeg = 10 + 5 * (ss 0).toNatClampNeg + 3 := its_ix s0 s8 (w := 3) (by decide) (by decide)
  have ca := fun j => comes_at (s := ss) (kd := K) (bt := 5) (ph := 0) (cn := 0) s0 s8 j
  have u3 : w3 = 0 → ss3 = upd (f_X6_comes ss K 5 0 0) (10 + 5 * (ss 0).toNatClampNeg + 3) r5 := fun z => by
    obtain ⟨z2, e1, -, -, -⟩ := W3 z
    rw [e1, cX z2, i3, cS z2]
  obtain ⟨g41, g42, g43, g44, r6, s4, f4, t4, ft4, ss4, k4, f4', t4', v4, w4, B4, A4, M4, G4, W4⟩ := nmd_11 h ((10 : Int32) + (5 : Int32) * (ss 0) + 1) ss3 1 9 5 G3 (by decide) (fun z => by rw [u3 z, i1, pk_un (by omega), ca, if_neg (by omega), if_neg (by omega), if_neg (by omega), if_neg (by omega), if_pos rfl])
  have u4 : w4 = 0 → ∀ j, ss4 j = upd (upd (f_X6_comes ss K 5 0 0) (10 + 5 * (ss 0).toNatClampNeg + 3) r5) (10 + 5 * (ss 0).toNatClampNeg + 1) r6 j := fun z j => by
    obtain ⟨z3, e2, -, -⟩ := W4 z
    rw [e2 j, i1, u3 z3]
  obtain ⟨g51, g52, g53, g54, r7, s5, f5, t5, ft5, ss5, k5, f5', t5', v5, w5, B5, A5, M5, G5, W5⟩ := nmd_12 h ((10 : Int32) + (5 : Int32) * (ss 0) + 2) ss4 0 8 0 G4 (by decide) (fun z => by rw [u4 z, i2, pk_un (by omega), pk_un (by omega), ca, if_neg (by omega), if_neg (by omega), if_neg (by omega), if_pos rfl])
  obtain ⟨s6, f6, t6, ft6, k6, f6', t6', v6, w6, A6, M6, G6, W6⟩ := semi_st h G5
  have c8 : ct < 8 := i32_lt.mpr hc'
  refine ⟨s6, f6, t6, ft6, lw, upd kd ct.toNatClampNeg K, upd bt ct.toNatClampNeg r6, upd ph ct.toNatClampNeg r7, upd cn ct.toNatClampNeg r5, upd no ct.toNatClampNeg 0, ct + 1, ss5, k6, f6', t6', v6, w6, ?_, ?_, G6, fun z => ?_⟩
  · have P : f_X3_readPerson bs tz k1 f1 t1 (-1) kd bt ph cn no ct K = (s6, f6, t6, ft6, upd kd ct.toNatClampNeg K, upd bt ct.toNatClampNeg r6, upd ph ct.toNatClampNeg r7, upd cn ct.toNatClampNeg r5, upd no ct.toNatClampNeg 0, ct + 1) := by
      unfold f_X3_readPerson
      rw [B2, pr4_mk g21 s2 f2 t2, A2, pr1_mk ft2, A3, pr5_mk r5 s3 f3 t3 ft3, B4, pr4_mk g41 g42 g43 g44, A4, pr5_mk r6 s4 f4 t4 ft4, B5, pr4_mk g51 g52 g53 g54, A5, pr5_mk r7 s5 f5 t5 ft5, A6, pr4_mk s6 f6 t6 ft6]
      unfold f_X4_add
      rw [if_pos c8]
      rfl
    unfold f_X3_readStatement
    rw [eK, if_neg hKn, if_neg hc, n2, pr3_mk k1 f1 t1, P]
    rfl
  · have P : f_X6_personHere ss mtp tz so fr tt vl 0 K = (ss5, k5, f5', t5', v5, w5) := by
      unfold f_X6_personHere
      rw [if_neg (show ¬ (8 : Int32) ≤ ss 0 by rw [e0]; exact hc), pr1_mk, nd_ok one_nz n1, pr5_mk k1 f1 t1 v1 0, pr1_mk, M2, pr5_mk k2 f2' t2' v2 w2, hS0, pr1_mk, hX3, pr1_mk, M3, pr6_mk ss3 k3 f3' t3' v3 w3, M4, pr6_mk ss4 k4 f4' t4' v4 w4, M5, pr6_mk ss5 k5 f5' t5' v5 w5]
    unfold f_X6_itemHere
    rw [hk, if_neg hKn, P, pr6_mk ss5 k5 f5' t5' v5 w5, pr6_mk ss5 k5 f5' t5' v5 w5, pr1_mk, M6, pr5_mk k6 f6' t6' v6 w6]
  · obtain ⟨z5, p6⟩ := W6 z
    obtain ⟨z4, e5, b5, p5⟩ := W5 z5
    obtain ⟨z3, e4, b4, p4⟩ := W4 z4
    obtain ⟨z2, e3, b31, b32, p3⟩ := W3 z3
    have p2 := W2 z2
    have p1 := n3.1.2.1
    have p0 := q.1.2.2.2 hs
    have g5 := pg_le G5 z5
    have g2 := pg_le G2 z2
    refine ⟨rt_same (rt_add R hc' hK (b_of b4 (by decide) (by decide)) (b_of b5 (by decide) (by decide)) ⟨b31, b32⟩) (fun j hj => ?_), by omega⟩
    rw [e5 j, i2, comes_at (s := ss) (kd := K) (bt := r6) (ph := r7) (cn := r5) s0 s8 j]
    by_cases d2 : j = 10 + 5 * (ss 0).toNatClampNeg + 2
    · rw [d2, pk_us, if_neg (by omega), if_neg (by omega), if_neg (by omega), if_pos rfl]
    · rw [pk_un d2, u4 z4 j]
      by_cases d1 : j = 10 + 5 * (ss 0).toNatClampNeg + 1
      · rw [d1, pk_us, if_neg (by omega), if_neg (by omega), if_neg (by omega), if_neg (by omega), if_pos rfl]
      · rw [pk_un d1]
        by_cases d3 : j = 10 + 5 * (ss 0).toNatClampNeg + 3
        · rw [d3, pk_us, if_neg (by omega), if_neg (by omega), if_pos rfl]
        · rw [pk_un d3, ca j, if_neg d3, if_neg d3, if_neg d2, if_neg d2, if_neg d1, if_neg d1]
theorem item_st (h : RTp bs mtp tz) (q : TK bs tz so fr tt vl) (hs : ¬ so = 0) (R : RT lw kd bt ph cn no ct sc rn lg dn zz ss) : IT bs mtp tz so fr tt vl lw kd bt ph cn no ss ct sc rn lg dn zz := by
  rcases kind_in (bs := bs) (tz := tz) (so := so) (fr := fr) (tt := tt) with eK | ⟨k0, k5, _⟩
  · rcases law_eq h q with ⟨a, b⟩ | ⟨a, b⟩ | ⟨a, b⟩ | ⟨a, b⟩ | ⟨a, b⟩
    · exact item_none h q eK a b
    · exact law_one h q hs R 0 0 6 1 99 eK a b (by decide) (by decide) (by decide) (by decide) (by decide) (by decide) (by decide) (by decide) (by decide) (by decide) (by decide)
    · exact law_one h q hs R 1 1 7 0 9 eK a b (by decide) (by decide) (by decide) (by decide) (by decide) (by decide) (by decide) (by decide) (by decide) (by decide) (by decide)
    · exact law_one h q hs R 2 2 8 0 99 eK a b (by decide) (by decide) (by decide) (by decide) (by decide) (by decide) (by decide) (by decide) (by decide) (by decide) (by decide)
    · exact law_one h q hs R 3 3 9 0 99 eK a b (by decide) (by decide) (by decide) (by decide) (by decide) (by decide) (by decide) (by decide) (by decide) (by decide) (by decide)
  · by_cases hc : (8 : Int32) ≤ ct
    · exact per_full h q R hc rfl ⟨k0, k5⟩
    · exact per_st h q hs R hc rfl ⟨k0, k5⟩
theorem loop_st (h : RTp bs mtp tz) : ∀ (N : Nat) (x2 so fr tt ft ct : Int32) (lw kd bt ph cn no ss : Nat → Int32) (k f t v w : Int32), PG bs tz so fr tt ft k f t v w → (w = 0 → RT lw kd bt ph cn no ct sc rn lg dn zz ss ∧ x2.toInt ≤ f.toInt) → 0 ≤ x2.toInt → ((201 : Int) - x2.toInt).toNat < N → ∃ x2' so' fr' tt' ft' lw' kd' bt' ph' cn' no' ct' ss' k' f' t' v' w', l_X3_readInto_16 bs tz N x2 so fr tt ft lw kd bt ph cn no ct = (x2', so', fr', tt', ft', lw', kd', bt', ph', cn', no', ct') ∧ l_X6_town_29 mtp tz N ss k f t v w = (ss', k', f', t', v', w') ∧ PG bs tz so' fr' tt' ft' k' f' t' v' w' ∧ (w' = 0 → RT lw' kd' bt' ph' cn' no' ct' sc rn lg dn zz ss') := by
  intro N
  induction N with
  | zero => intro x2 so fr tt ft ct lw kd bt ph cn no ss k f t v w _ _ _ hN; exact absurd hN (Nat.not_lt_zero _)
  | succ N ih =>
    intro x2 so fr tt ft ct lw kd bt ph cn no ss k f t v w g hR h0 hN
    rcases g with ⟨rfl, rfl, rfl, rfl, rfl, q⟩ | ⟨a, b, c, d⟩
    · obtain ⟨R, hx⟩ := hR rfl
      by_cases c0 : k = 0
      · have A : l_X3_readInto_16 bs tz (N + 1) x2 k f t (-1) lw kd bt ph cn no ct = (x2, k, f, t, -1, lw, kd, bt, ph, cn, no, ct) := by
          rw [l_X3_readInto_16]
          by_cases c2 : (200 : Int32) ≤ x2
          · rw [if_pos c2]
          · rw [if_neg c2, if_pos c0]
        have M : l_X6_town_29 mtp tz (N + 1) ss k f t v 0 = (ss, k, f, t, v, 0) := by
          rw [l_X6_town_29, if_pos (show (0 : Int32) = 0 from rfl), if_pos c0]
        exact ⟨x2, k, f, t, -1, lw, kd, bt, ph, cn, no, ct, ss, k, f, t, v, 0, A, M, .inl ⟨rfl, rfl, rfl, rfl, rfl, q⟩, fun _ => R⟩
      · have hlt := q.1.2.2.2 c0
        have hl2 := q.1.2.2.1
        have c2 : ¬ (200 : Int32) ≤ x2 := fun z => by have := i32_le.mp z; rw [show (200 : Int32).toInt = 200 from rfl] at this; omega
        have e1 := i32_add1 (i := x2) (by omega)
        obtain ⟨so1, fr1, tt1, ft1, lw1, kd1, bt1, ph1, cn1, no1, ct1, ss1, k1, f1, t1, v1, w1, A1, M1, G1, W1⟩ := item_st h q c0 R
        obtain ⟨x9, so9, fr9, tt9, ft9, lw9, kd9, bt9, ph9, cn9, no9, ct9, ss9, k9, f9, t9, v9, w9, A2, M2, G2, W2⟩ := ih (x2 + 1) so1 fr1 tt1 ft1 ct1 lw1 kd1 bt1 ph1 cn1 no1 ss1 k1 f1 t1 v1 w1 G1 (fun z => ⟨(W1 z).1, by have := (W1 z).2; omega⟩) (by omega) (by omega)
        refine ⟨x9, so9, fr9, tt9, ft9, lw9, kd9, bt9, ph9, cn9, no9, ct9, ss9, k9, f9, t9, v9, w9, ?_, ?_, G2, W2⟩
        · rw [l_X3_readInto_16, if_neg c2, if_neg c0, if_pos (show (-1 : Int32) = -1 from rfl), A1, pr11_mk so1 fr1 tt1 ft1 lw1 kd1 bt1 ph1 cn1 no1 ct1, A2]
        · rw [l_X6_town_29, if_pos (show (0 : Int32) = 0 from rfl), if_neg c0, M1, pr6_mk ss1 k1 f1 t1 v1 w1, M2]
    · have A : l_X3_readInto_16 bs tz (N + 1) x2 so fr tt ft lw kd bt ph cn no ct = (x2, so, fr, tt, ft, lw, kd, bt, ph, cn, no, ct) := by
        rw [l_X3_readInto_16]
        by_cases c2 : (200 : Int32) ≤ x2
        · rw [if_pos c2]
        · rw [if_neg c2]
          by_cases c0 : so = 0
          · rw [if_pos c0]
          · rw [if_neg c0, if_neg a]
      have M : l_X6_town_29 mtp tz (N + 1) ss k f t v w = (ss, k, f, t, v, w) := by
        rw [l_X6_town_29, if_neg b]
      exact ⟨x2, so, fr, tt, ft, lw, kd, bt, ph, cn, no, ct, ss, k, f, t, v, w, A, M, .inr ⟨a, b, c, d⟩, fun z => absurd z b⟩
theorem sa_0 : saG 0 0 = 12 ∧ saG 0 1 = 1 ∧ saG 0 2 = 6 ∧ saG 0 3 = 20 := by decide
theorem rt_fresh {lw' kd' bt' ph' cn' no' : Nat → Int32} (R : RT lw kd bt ph cn no ct sc rn lg dn zz ss) : RT (va_cpy (saG 0) lw' 0 0 4) kd' bt' ph' cn' no' 0 0 0 0 0 zz (f_X6_begins ss) := by
  have e2 : ss 2 = zz := R.1.2.2.1
  have l0 : va_cpy (saG 0) lw' 0 0 4 0 = 12 := (cpy_at (by decide)).trans sa_0.1
  have l1 : va_cpy (saG 0) lw' 0 0 4 1 = 1 := (cpy_at (by decide)).trans sa_0.2.1
  have l2 : va_cpy (saG 0) lw' 0 0 4 2 = 6 := (cpy_at (by decide)).trans sa_0.2.2.1
  have l3 : va_cpy (saG 0) lw' 0 0 4 3 = 20 := (cpy_at (by decide)).trans sa_0.2.2.2
  have b := fun k hk => begins_at ss k hk
  refine ⟨⟨b 0 (by decide), b 1 (by decide), (b 2 (by decide)).trans e2, b 3 (by decide), b 4 (by decide), b 5 (by decide)⟩, ⟨(b 6 (by decide)).trans l0.symm, (b 7 (by decide)).trans l1.symm, (b 8 (by decide)).trans l2.symm, (b 9 (by decide)).trans l3.symm⟩, ⟨by decide, by decide⟩, ⟨by decide, by decide⟩, .inl rfl, ⟨by rw [l3]; decide, by rw [l3]; decide⟩, fun k hk => ?_⟩
  rw [z0I] at hk
  omega
end TW4
section TW5
variable {bs mtp mbf ss nlw nkd nbt nph ncn nno tlw tkd tbt tph tcn tno : Nat → Int32} {tz rc mrn nct nsc nrn nlg ndn nzz : Int32}
theorem e_town (R : RT nlw nkd nbt nph ncn nno nct nsc nrn nlg ndn nzz ss) (h : RTp bs mtp tz) (hr : rc = mrn) : (f_X5_town rc nlw nkd nbt nph ncn nno nct nsc nrn nlg ndn nzz tlw tkd tbt tph tcn tno bs tz).1 = (f_X6_town ss mbf mtp tz mrn).1 ∧ ((f_X5_town rc nlw nkd nbt nph ncn nno nct nsc nrn nlg ndn nzz tlw tkd tbt tph tcn tno bs tz).2.1 = (f_X6_town ss mbf mtp tz mrn).2.2.2.2.2.2.2.2.2 ∧ ((f_X5_town rc nlw nkd nbt nph ncn nno nct nsc nrn nlg ndn nzz tlw tkd tbt tph tcn tno bs tz).2.1 = rc ∨ (f_X5_town rc nlw nkd nbt nph ncn nno nct nsc nrn nlg ndn nzz tlw tkd tbt tph tcn tno bs tz).2.1 = 0)) ∧ ((f_X5_town rc nlw nkd nbt nph ncn nno nct nsc nrn nlg ndn nzz tlw tkd tbt tph tcn tno bs tz).2.2.2.2.2.2.2.2.2.2.2.2.2.2.2.2.2.2.2.2.2.2.2.2.2.1 = 0 ∧ (f_X6_town ss mbf mtp tz mrn).2.2.2.1 = 0) ∧ RT (f_X5_town rc nlw nkd nbt nph ncn nno nct nsc nrn nlg ndn nzz tlw tkd tbt tph tcn tno bs tz).2.2.1 (f_X5_town rc nlw nkd nbt nph ncn nno nct nsc nrn nlg ndn nzz tlw tkd tbt tph tcn tno bs tz).2.2.2.1 (f_X5_town rc nlw nkd nbt nph ncn nno nct nsc nrn nlg ndn nzz tlw tkd tbt tph tcn tno bs tz).2.2.2.2.1 (f_X5_town rc nlw nkd nbt nph ncn nno nct nsc nrn nlg ndn nzz tlw tkd tbt tph tcn tno bs tz).2.2.2.2.2.1 (f_X5_town rc nlw nkd nbt nph ncn nno nct nsc nrn nlg ndn nzz tlw tkd tbt tph tcn tno bs tz).2.2.2.2.2.2.1 (f_X5_town rc nlw nkd nbt nph ncn nno nct nsc nrn nlg ndn nzz tlw tkd tbt tph tcn tno bs tz).2.2.2.2.2.2.2.1 (f_X5_town rc nlw nkd nbt nph ncn nno nct nsc nrn nlg ndn nzz tlw tkd tbt tph tcn tno bs tz).2.2.2.2.2.2.2.2.1 (f_X5_town rc nlw nkd nbt nph ncn nno nct nsc nrn nlg ndn nzz tlw tkd tbt tph tcn tno bs tz).2.2.2.2.2.2.2.2.2.1 (f_X5_town rc nlw nkd nbt nph ncn nno nct nsc nrn nlg ndn nzz tlw tkd tbt tph tcn tno bs tz).2.2.2.2.2.2.2.2.2.2.1 (f_X5_town rc nlw nkd nbt nph ncn nno nct nsc nrn nlg ndn nzz tlw tkd tbt tph tcn tno bs tz).2.2.2.2.2.2.2.2.2.2.2.1 (f_X5_town rc nlw nkd nbt nph ncn nno nct nsc nrn nlg ndn nzz tlw tkd tbt tph tcn tno bs tz).2.2.2.2.2.2.2.2.2.2.2.2.1 nzz (f_X6_town ss mbf mtp tz mrn).2.1 := by
  obtain ⟨c0, c1, hC⟩ : ∃ c0 c1, f_X4_clear (va_cpy nlw tlw 0 0 4) (va_cpy nno tno 0 0 8) = (va_cpy (saG 0) c0 0 0 4, c1, 0, 0, 0, 0, 0) := ⟨_, _, rfl⟩
  obtain ⟨k0, f0, t0, v0, n1, n2, n3, n4⟩ := sign_eq h TN0 (show (0 : Int32).toInt ≤ tz.toInt from h.1.1)
  have F := rt_fresh (lw' := c0) (kd' := va_cpy nkd tkd 0 0 8) (bt' := va_cpy nbt tbt 0 0 8) (ph' := va_cpy nph tph 0 0 8) (cn' := va_cpy ncn tcn 0 0 8) (no' := c1) R
  obtain ⟨x9, so9, fr9, tt9, ft9, lw9, kd9, bt9, ph9, cn9, no9, ct9, ss9, k9, f9, t9, v9, w9, A, M, G, W⟩ := loop_st h 300 0 k0 f0 t0 (-1) 0 _ _ _ _ _ _ _ k0 f0 t0 v0 0 (.inl ⟨rfl, rfl, rfl, rfl, rfl, n3⟩) (fun _ => ⟨F, n4⟩) (by decide) (by decide)
  have hI : f_X3_readInto bs tz (va_cpy (saG 0) c0 0 0 4) (va_cpy nkd tkd 0 0 8) (va_cpy nbt tbt 0 0 8) (va_cpy nph tph 0 0 8) (va_cpy ncn tcn 0 0 8) c1 0 = (ft9, so9, fr9, tt9, ft9, lw9, kd9, bt9, ph9, cn9, no9, ct9) := by
    unfold f_X3_readInto
    rw [n2, pr3_mk k0 f0 t0, A, pr12_mk x9 so9 fr9 tt9 ft9 lw9 kd9 bt9 ph9 cn9 no9 ct9]
  rcases G with ⟨g1, g2, -, -, -, -⟩ | ⟨g1, g2, g3, g4⟩
  · have eA : f_X5_town rc nlw nkd nbt nph ncn nno nct nsc nrn nlg ndn nzz tlw tkd tbt tph tcn tno bs tz = (ct9, 0, va_cpy lw9 nlw 0 0 4, va_cpy kd9 nkd 0 0 8, va_cpy bt9 nbt 0 0 8, va_cpy ph9 nph 0 0 8, va_cpy cn9 ncn 0 0 8, va_cpy no9 nno 0 0 8, ct9, 0, 0, 0, 0, lw9, kd9, bt9, ph9, cn9, no9, ct9, 0, 0, 0, 0, nzz, 0, so9, fr9, tt9, ft9) := by
      unfold f_X5_town
      rw [hC, pr7_mk (va_cpy (saG 0) c0 0 0 4) c1 0 0 0 0 0, hI, pr12_mk ft9 so9 fr9 tt9 ft9 lw9 kd9 bt9 ph9 cn9 no9 ct9, if_pos (show ft9 < 0 by rw [g1]; decide)]
    have eM : f_X6_town ss mbf mtp tz mrn = (ss9 0, ss9, f_X6_copyRow__sb ss mbf, 0, k9, f9, t9, v9, w9, 0) := by
      unfold f_X6_town
      rw [pr1_mk, pr1_mk, n1, pr4_mk k0 f0 t0 v0, M, pr6_mk ss9 k9 f9 t9 v9 w9, if_pos g2]
    have R9 := W g2
    rw [eA, eM]
    exact ⟨R9.1.1.symm, ⟨rfl, .inr rfl⟩, ⟨rfl, rfl⟩, rt_cpy R9⟩
  · have eA : f_X5_town rc nlw nkd nbt nph ncn nno nct nsc nrn nlg ndn nzz tlw tkd tbt tph tcn tno bs tz = ((-100) - ft9, rc, nlw, nkd, nbt, nph, ncn, nno, nct, nsc, nrn, nlg, ndn, lw9, kd9, bt9, ph9, cn9, no9, ct9, 0, 0, 0, 0, nzz, 0, so9, fr9, tt9, ft9) := by
      unfold f_X5_town
      rw [hC, pr7_mk (va_cpy (saG 0) c0 0 0 4) c1 0 0 0 0 0, hI, pr12_mk ft9 so9 fr9 tt9 ft9 lw9 kd9 bt9 ph9 cn9 no9 ct9, if_neg (show ¬ ft9 < 0 by rw [g3, i32_lt, z0I]; omega)]
    have eM : f_X6_town ss mbf mtp tz mrn = ((-100) - f9, f_X6_copyRow__bs ss9 (f_X6_copyRow__sb ss mbf), f_X6_copyRow__sb ss mbf, 0, k9, f9, t9, v9, w9, mrn) := by
      unfold f_X6_town
      rw [pr1_mk, pr1_mk, n1, pr4_mk k0 f0 t0 v0, M, pr6_mk ss9 k9 f9 t9 v9 w9, if_neg g2, pr1_mk]
    rw [eA, eM]
    exact ⟨by rw [g3], ⟨hr, .inl rfl⟩, ⟨rfl, rfl⟩, rt_same R (fun k hk => show f_X6_copyRow__bs ss9 (f_X6_copyRow__sb ss mbf) k = ss k from (cpbs _ _ k hk).trans (cpsb _ _ k hk))⟩
end TW5
