/-! town(): the steps of the reader, one statement, the loop, the whole -/
def PG (bs : Nat → Int32) (tz so fr tt ft k f t v w : Int32) : Prop := (ft = -1 ∧ w = 0 ∧ k = so ∧ f = fr ∧ t = tt ∧ TK bs tz so fr tt v) ∨ (¬ ft = -1 ∧ ¬ w = 0 ∧ ft = f ∧ 0 ≤ f.toInt)
section TW3
variable {bs mtp : Nat → Int32} {tz so fr tt vl : Int32}
theorem nd_ok {k f t v x k' f' t' v' : Int32} (hx : ¬ x = 0) (e : f_X6_nextToken mtp tz t = (k', f', t', v')) : f_X6_needs mtp tz k f t v 0 x = (k', f', t', v', 0) := by
  unfold f_X6_needs
  rw [if_pos (show (0 : Int32) = 0 from rfl), if_neg hx, pr1_mk, if_pos (show (0 : Int32) = 0 from rfl), e, pr4_mk]
theorem nd_no {k f t v : Int32} : f_X6_needs mtp tz k f t v 0 0 = (k, f, t, v, 1) := by
  unfold f_X6_needs
  rw [if_pos (show (0 : Int32) = 0 from rfl), if_pos (show (0 : Int32) = 0 from rfl), pr1_mk, if_neg one_nz]
theorem nd_w {k f t v w x : Int32} (hw : ¬ w = 0) : f_X6_needs mtp tz k f t v w x = (k, f, t, v, 1) := by
  unfold f_X6_needs
  rw [if_neg hw, pr1_mk, if_neg one_nz]
theorem tk_TN (k : TK bs tz so fr tt vl) : TN tt := ⟨Int.le_trans k.1.1 k.1.2.1, k.1.2.2.1⟩
theorem next_ok (h : RTp bs mtp tz) (k : TK bs tz so fr tt vl) : ∃ s f t v, f_X6_nextToken mtp tz tt = (s, f, t, v) ∧ f_X3_readSign bs tz tt = (s, f, t) ∧ TK bs tz s f t v ∧ tt.toInt ≤ f.toInt := sign_eq h (tk_TN k) k.2.1
theorem fl_g : f_X3_fail fr (-1) = fr := by unfold f_X3_fail; rw [if_pos rfl]
theorem fl_b {ft : Int32} (h : ¬ ft = -1) : f_X3_fail fr ft = ft := by unfold f_X3_fail; rw [if_neg h]
theorem nn_m1 {x : Int32} (h : 0 ≤ x.toInt) : ¬ x = -1 := fun e => by rw [e] at h; exact absurd h (by decide)
theorem in_m1 {l h : Int32} (l0 : 0 ≤ l.toInt) : f_X5_isIn (-1) l h = 0 := by
  unfold f_X5_isIn
  rw [if_pos (i32_lt.mpr (by rw [show (-1 : Int32).toInt = -1 from rfl]; omega))]
theorem num_ok (k : TK bs tz so fr tt vl) {l h : Int32} (l0 : 0 ≤ l.toInt) : ((if so = 2 then (if (3 : Int32) < tt - fr then (0 : Int32) else (if vl < l then (0 : Int32) else (if h < vl then (0 : Int32) else (1 : Int32)))) else (0 : Int32)) = 0 ∧ f_X5_isIn (f_X3_numberRead bs tz so fr tt) l h = 0) ∨ ((if so = 2 then (if (3 : Int32) < tt - fr then (0 : Int32) else (if vl < l then (0 : Int32) else (if h < vl then (0 : Int32) else (1 : Int32)))) else (0 : Int32)) = 1 ∧ (¬ f_X5_isIn (f_X3_numberRead bs tz so fr tt) l h = 0) ∧ f_X3_numberRead bs tz so fr tt = vl ∧ l.toInt ≤ vl.toInt ∧ vl.toInt ≤ h.toInt) := by
  have e1 := tk_len k
  by_cases c1 : so = 2
  · by_cases c2 : (3 : Int32) < tt - fr
    · refine .inl ⟨by rw [if_pos c1, if_pos c2], ?_⟩
      have c2' := i32_lt.mp c2
      rw [show (3 : Int32).toInt = 3 from rfl] at c2'
      have e : f_X3_numberRead bs tz so fr tt = -1 := by
        unfold f_X3_numberRead
        rw [if_pos c1, if_neg (fun w => by have := i32_le.mp w; rw [show (3 : Int32).toInt = 3 from rfl] at this; omega)]
      rw [e]; exact in_m1 l0
    · have c2' := mt i32_lt.mpr c2
      rw [show (3 : Int32).toInt = 3 from rfl] at c2'
      have e := k.2.2.2 c1 (by omega)
      rw [if_pos c1, if_neg c2, ← e]
      unfold f_X5_isIn
      by_cases c3 : vl < l
      · rw [if_pos c3]; exact .inl ⟨rfl, rfl⟩
      · rw [if_neg c3]
        by_cases c4 : h < vl
        · rw [if_pos c4]; exact .inl ⟨rfl, rfl⟩
        · rw [if_neg c4]
          exact .inr ⟨rfl, one_nz, rfl, by have := mt i32_lt.mpr c3; omega, by have := mt i32_lt.mpr c4; omega⟩
  · refine .inl ⟨if_neg c1, ?_⟩
    have e : f_X3_numberRead bs tz so fr tt = -1 := by
      unfold f_X3_numberRead
      rw [if_neg c1]
    rw [e]; exact in_m1 l0
theorem num_bad {k f t v w x l hh : Int32} {ss : Nat → Int32} (b : ¬ w = 0) : ∃ s1, f_X6_numberTo ss mtp tz k f t v w x l hh = (s1, k, f, t, v, 1) := ⟨(f_X6_numberTo ss mtp tz k f t v w x l hh).1, by unfold f_X6_numberTo; rw [pr1_mk, pr1_mk, nd_w b, pr5_mk]⟩
theorem perh_bad {k f t v w a x l hh : Int32} {ss : Nat → Int32} (b : ¬ w = 0) : f_X6_perhaps ss mtp tz k f t v w a x l hh = (ss, k, f, t, v, w) := by
  unfold f_X6_perhaps
  rw [if_neg b]
theorem num_st (h : RTp bs mtp tz) {ft k f t v w : Int32} (x : Int32) (ss : Nat → Int32) (l hh : Int32) (g : PG bs tz so fr tt ft k f t v w) (l0 : 0 ≤ l.toInt) : ∃ r so' fr' tt' ft' ss' k' f' t' v' w', f_X3_takeNumber bs tz so fr tt ft l hh = (r, so', fr', tt', ft') ∧ f_X6_numberTo ss mtp tz k f t v w x l hh = (ss', k', f', t', v', w') ∧ PG bs tz so' fr' tt' ft' k' f' t' v' w' ∧ (w' = 0 → w = 0 ∧ ss' = upd ss x.toNatClampNeg r ∧ l.toInt ≤ r.toInt ∧ r.toInt ≤ hh.toInt ∧ t.toInt ≤ f'.toInt) := by
  rcases g with ⟨rfl, rfl, rfl, rfl, rfl, q⟩ | ⟨a, b, c, d⟩
  · rcases num_ok (h := hh) q l0 with ⟨e1, e2⟩ | ⟨e1, e2, e3, e4, e5⟩
    · have A : f_X3_takeNumber bs tz k f t (-1) l hh = (l, k, f, t, f) := by
        unfold f_X3_takeNumber
        rw [if_pos (show (-1 : Int32) = -1 from rfl), if_pos e2, fl_g, pr1_mk]
      have M : f_X6_numberTo ss mtp tz k f t v 0 x l hh = (ss, k, f, t, v, 1) := by
        unfold f_X6_numberTo
        rw [e1, pr1_mk, if_pos (show (0 : Int32) = 0 from rfl), pr1_mk, nd_no, pr5_mk]
      exact ⟨l, k, f, t, f, ss, k, f, t, v, 1, A, M, .inr ⟨nn_m1 q.1.1, one_nz, rfl, q.1.1⟩, fun z => absurd z one_nz⟩
    · obtain ⟨k1, f1, t1, v1, n1, n2, n3, n4⟩ := next_ok h q
      have A : f_X3_takeNumber bs tz k f t (-1) l hh = (v, k1, f1, t1, -1) := by
        unfold f_X3_takeNumber
        rw [if_pos (show (-1 : Int32) = -1 from rfl), if_neg e2, n2, pr3_mk, e3]
      have M : f_X6_numberTo ss mtp tz k f t v 0 x l hh = (upd ss x.toNatClampNeg v, k1, f1, t1, v1, 0) := by
        unfold f_X6_numberTo
        rw [e1, pr1_mk, if_neg one_nz, if_pos (show (0 : Int32) = 0 from rfl), pr1_mk, nd_ok one_nz n1, pr5_mk]
      exact ⟨v, k1, f1, t1, -1, _, k1, f1, t1, v1, 0, A, M, .inl ⟨rfl, rfl, rfl, rfl, rfl, n3⟩, fun _ => ⟨rfl, rfl, e4, e5, n4⟩⟩
  · have A : f_X3_takeNumber bs tz so fr tt ft l hh = (l, so, fr, tt, ft) := by
      unfold f_X3_takeNumber
      rw [if_neg a]
    obtain ⟨s1, M⟩ := num_bad (mtp := mtp) (tz := tz) (k := k) (f := f) (t := t) (v := v) (x := x) (l := l) (hh := hh) (ss := ss) b
    exact ⟨l, so, fr, tt, ft, s1, k, f, t, v, 1, A, M, .inr ⟨a, one_nz, c, d⟩, fun z => absurd z one_nz⟩
theorem semi_st (h : RTp bs mtp tz) {ft k f t v w : Int32} (g : PG bs tz so fr tt ft k f t v w) : ∃ so' fr' tt' ft' k' f' t' v' w', f_X3_takeSemicolon bs tz so fr tt ft = (so', fr', tt', ft') ∧ f_X6_needs mtp tz k f t v w (if k = 3 then (if f_X6_byteAt mtp tz f = 59 then (1 : Int32) else (0 : Int32)) else (0 : Int32)) = (k', f', t', v', w') ∧ PG bs tz so' fr' tt' ft' k' f' t' v' w' ∧ (w' = 0 → w = 0 ∧ t.toInt ≤ f'.toInt) := by
  rcases g with ⟨rfl, rfl, rfl, rfl, rfl, q⟩ | ⟨a, b, c, d⟩
  · have bad : ∀ {A M}, f_X3_takeSemicolon bs tz k f t (-1) = A → f_X6_needs mtp tz k f t v 0 (if k = 3 then (if f_X6_byteAt mtp tz f = 59 then (1 : Int32) else (0 : Int32)) else (0 : Int32)) = M → A = (k, f, t, f) → M = (k, f, t, v, 1) → ∃ so' fr' tt' ft' k' f' t' v' w', f_X3_takeSemicolon bs tz k f t (-1) = (so', fr', tt', ft') ∧ f_X6_needs mtp tz k f t v 0 (if k = 3 then (if f_X6_byteAt mtp tz f = 59 then (1 : Int32) else (0 : Int32)) else (0 : Int32)) = (k', f', t', v', w') ∧ PG bs tz so' fr' tt' ft' k' f' t' v' w' ∧ (w' = 0 → (0 : Int32) = 0 ∧ t.toInt ≤ f'.toInt) := fun a1 a2 a3 a4 => ⟨k, f, t, f, k, f, t, v, 1, a1.trans a3, a2.trans a4, .inr ⟨nn_m1 q.1.1, one_nz, rfl, q.1.1⟩, fun z => absurd z one_nz⟩
    by_cases c1 : k = 3
    · have hlt := q.1.2.2.2 (by rw [c1]; decide)
      have hl2 := q.2.1
      have hz := h.1
      have h00 := q.1.1
      have B := by_bs h q.1.1 (fun c => by have := i32_le.mp c; omega)
      have e : (tz - 1).toInt = tz.toInt - (1 : Int32).toInt := i32_subE (by rw [show (1 : Int32).toInt = 1 from rfl]; omega) (by rw [show (1 : Int32).toInt = 1 from rfl]; omega)
      rw [show (1 : Int32).toInt = 1 from rfl] at e
      have hin : ¬ f_X5_isIn f 0 (tz - 1) = 0 := by
        unfold f_X5_isIn
        rw [if_neg (fun w => by have := i32_lt.mp w; rw [z0I] at this; omega), if_neg (fun w => by have := i32_lt.mp w; omega)]
        exact one_nz
      by_cases c2 : bs f.toNatClampNeg = 59
      · obtain ⟨k1, f1, t1, v1, n1, n2, n3, n4⟩ := next_ok h q
        have A : f_X3_takeSemicolon bs tz k f t (-1) = (k1, f1, t1, -1) := by
          unfold f_X3_takeSemicolon
          rw [if_pos (show (-1 : Int32) = -1 from rfl), if_pos c1, if_neg hin, if_pos c2, n2, pr3_mk]
        have M : f_X6_needs mtp tz k f t v 0 (if k = 3 then (if f_X6_byteAt mtp tz f = 59 then (1 : Int32) else (0 : Int32)) else (0 : Int32)) = (k1, f1, t1, v1, 0) := by
          rw [if_pos c1, if_pos (B.1.trans c2)]; exact nd_ok one_nz n1
        exact ⟨k1, f1, t1, -1, k1, f1, t1, v1, 0, A, M, .inl ⟨rfl, rfl, rfl, rfl, rfl, n3⟩, fun _ => ⟨rfl, n4⟩⟩
      · refine bad rfl rfl ?_ ?_
        · unfold f_X3_takeSemicolon
          rw [if_pos (show (-1 : Int32) = -1 from rfl), if_pos c1, if_neg hin, if_neg c2, fl_g, pr1_mk]
        · rw [if_pos c1, if_neg (fun z => c2 (B.1.symm.trans z))]; exact nd_no
    · refine bad rfl rfl ?_ ?_
      · unfold f_X3_takeSemicolon
        rw [if_pos (show (-1 : Int32) = -1 from rfl), if_neg c1, fl_g, pr1_mk]
      · rw [if_neg c1]; exact nd_no
  · have A : f_X3_takeSemicolon bs tz so fr tt ft = (so, fr, tt, ft) := by
      unfold f_X3_takeSemicolon
      rw [if_neg a]
    exact ⟨so, fr, tt, ft, k, f, t, v, 1, A, nd_w b, .inr ⟨a, one_nz, c, d⟩, fun z => absurd z one_nz⟩
theorem nmd_11 (h : RTp bs mtp tz) {ft k f t v w : Int32} (x : Int32) (ss : Nat → Int32) (l hh d : Int32) (g : PG bs tz so fr tt ft k f t v w) (l0 : 0 ≤ l.toInt) (hd : w = 0 → ss x.toNatClampNeg = d) : ∃ b1 b2 b3 b4 r so' fr' tt' ft' ss' k' f' t' v' w', f_X3_tookName__beat bs tz so fr tt ft = (b1, b2, b3, b4) ∧ (if (b1 = 0) then (d, b2, b3, b4, ft) else (pr5 (f_X3_takeNumber bs tz b2 b3 b4 ft l hh) (fun r7 so_7 fr_7 tt_7 ft_7 => (r7, so_7, fr_7, tt_7, ft_7)))) = (r, so', fr', tt', ft') ∧ f_X6_perhaps ss mtp tz k f t v w (f_X6_isFour mtp tz k f t 98 101 97 116) x l hh = (ss', k', f', t', v', w') ∧ PG bs tz so' fr' tt' ft' k' f' t' v' w' ∧ (w' = 0 → w = 0 ∧ (∀ j, ss' j = upd ss x.toNatClampNeg r j) ∧ (r = d ∨ l.toInt ≤ r.toInt ∧ r.toInt ≤ hh.toInt) ∧ f.toInt ≤ f'.toInt) := by
  rcases g with ⟨rfl, rfl, rfl, rfl, rfl, q⟩ | ⟨a, b, c, e⟩
  · by_cases c : f_X3_isName__n11 bs tz k f t = 0
    · have m : f_X6_isFour mtp tz k f t 98 101 97 116 = 0 := Classical.byContradiction fun z => (q_11 h q).mpr z c
      have B : f_X3_tookName__beat bs tz k f t (-1) = (0, k, f, t) := by
        unfold f_X3_tookName__beat
        rw [if_pos (show (-1 : Int32) = -1 from rfl), if_pos c]
      have A : (if ((0 : Int32) = 0) then (d, k, f, t, (-1)) else (pr5 (f_X3_takeNumber bs tz k f t (-1) l hh) (fun r7 so_7 fr_7 tt_7 ft_7 => (r7, so_7, fr_7, tt_7, ft_7)))) = (d, k, f, t, -1) := if_pos rfl
      have M : f_X6_perhaps ss mtp tz k f t v 0 (f_X6_isFour mtp tz k f t 98 101 97 116) x l hh = (ss, k, f, t, v, 0) := by
        unfold f_X6_perhaps
        rw [if_pos (show (0 : Int32) = 0 from rfl), if_pos m]
      exact ⟨0, k, f, t, d, k, f, t, -1, ss, k, f, t, v, 0, B, A, M, .inl ⟨rfl, rfl, rfl, rfl, rfl, q⟩, fun _ => ⟨rfl, fun j => (upd_self (hd rfl) j).symm, .inl rfl, Int.le_refl _⟩⟩
    · have m := (q_11 h q).mp c
      obtain ⟨k1, f1, t1, v1, n1, n2, n3, n4⟩ := next_ok h q
      obtain ⟨r, s2, f2, t2, ft2, ss2, k2, f2', t2', v2, w2, A2, M2, G2, W2⟩ := num_st h (so := k1) (fr := f1) (tt := t1) (ft := -1) (k := k1) (f := f1) (t := t1) (v := v1) (w := 0) x ss l hh (.inl ⟨rfl, rfl, rfl, rfl, rfl, n3⟩) l0
      have B : f_X3_tookName__beat bs tz k f t (-1) = (1, k1, f1, t1) := by
        unfold f_X3_tookName__beat
        rw [if_pos (show (-1 : Int32) = -1 from rfl), if_neg c, n2, pr3_mk]
      have A : (if ((1 : Int32) = 0) then (d, k1, f1, t1, (-1)) else (pr5 (f_X3_takeNumber bs tz k1 f1 t1 (-1) l hh) (fun r7 so_7 fr_7 tt_7 ft_7 => (r7, so_7, fr_7, tt_7, ft_7)))) = (r, s2, f2, t2, ft2) := by
        rw [if_neg one_nz, A2, pr5_mk]
      have M : f_X6_perhaps ss mtp tz k f t v 0 (f_X6_isFour mtp tz k f t 98 101 97 116) x l hh = (ss2, k2, f2', t2', v2, w2) := by
        unfold f_X6_perhaps
        rw [if_pos (show (0 : Int32) = 0 from rfl), if_neg m, n1, pr4_mk, M2, pr6_mk]
      refine ⟨1, k1, f1, t1, r, s2, f2, t2, ft2, ss2, k2, f2', t2', v2, w2, B, A, M, G2, fun z => ?_⟩
      obtain ⟨-, e1, e4, e5, p⟩ := W2 z
      have p1 := q.1.2.1
      have p2 := n3.1.2.1
      exact ⟨rfl, fun j => by rw [e1], .inr ⟨e4, e5⟩, by omega⟩
  · have B : f_X3_tookName__beat bs tz so fr tt ft = (0, so, fr, tt) := by
      unfold f_X3_tookName__beat
      rw [if_neg a]
    have A : (if ((0 : Int32) = 0) then (d, so, fr, tt, ft) else (pr5 (f_X3_takeNumber bs tz so fr tt ft l hh) (fun r7 so_7 fr_7 tt_7 ft_7 => (r7, so_7, fr_7, tt_7, ft_7)))) = (d, so, fr, tt, ft) := if_pos rfl
    exact ⟨0, so, fr, tt, d, so, fr, tt, ft, ss, k, f, t, v, w, B, A, perh_bad b, .inr ⟨a, b, c, e⟩, fun z => absurd z b⟩
theorem nmd_12 (h : RTp bs mtp tz) {ft k f t v w : Int32} (x : Int32) (ss : Nat → Int32) (l hh d : Int32) (g : PG bs tz so fr tt ft k f t v w) (l0 : 0 ≤ l.toInt) (hd : w = 0 → ss x.toNatClampNeg = d) : ∃ b1 b2 b3 b4 r so' fr' tt' ft' ss' k' f' t' v' w', f_X3_tookName__phase bs tz so fr tt ft = (b1, b2, b3, b4) ∧ (if (b1 = 0) then (d, b2, b3, b4, ft) else (pr5 (f_X3_takeNumber bs tz b2 b3 b4 ft l hh) (fun r7 so_7 fr_7 tt_7 ft_7 => (r7, so_7, fr_7, tt_7, ft_7)))) = (r, so', fr', tt', ft') ∧ f_X6_perhaps ss mtp tz k f t v w (f_X6_isFive mtp tz k f t 112 104 97 115 101) x l hh = (ss', k', f', t', v', w') ∧ PG bs tz so' fr' tt' ft' k' f' t' v' w' ∧ (w' = 0 → w = 0 ∧ (∀ j, ss' j = upd ss x.toNatClampNeg r j) ∧ (r = d ∨ l.toInt ≤ r.toInt ∧ r.toInt ≤ hh.toInt) ∧ f.toInt ≤ f'.toInt) := by
  rcases g with ⟨rfl, rfl, rfl, rfl, rfl, q⟩ | ⟨a, b, c, e⟩
  · by_cases c : f_X3_isName__n12 bs tz k f t = 0
    · have m : f_X6_isFive mtp tz k f t 112 104 97 115 101 = 0 := Classical.byContradiction fun z => (q_12 h q).mpr z c
      have B : f_X3_tookName__phase bs tz k f t (-1) = (0, k, f, t) := by
        unfold f_X3_tookName__phase
        rw [if_pos (show (-1 : Int32) = -1 from rfl), if_pos c]
      have A : (if ((0 : Int32) = 0) then (d, k, f, t, (-1)) else (pr5 (f_X3_takeNumber bs tz k f t (-1) l hh) (fun r7 so_7 fr_7 tt_7 ft_7 => (r7, so_7, fr_7, tt_7, ft_7)))) = (d, k, f, t, -1) := if_pos rfl
      have M : f_X6_perhaps ss mtp tz k f t v 0 (f_X6_isFive mtp tz k f t 112 104 97 115 101) x l hh = (ss, k, f, t, v, 0) := by
        unfold f_X6_perhaps
        rw [if_pos (show (0 : Int32) = 0 from rfl), if_pos m]
      exact ⟨0, k, f, t, d, k, f, t, -1, ss, k, f, t, v, 0, B, A, M, .inl ⟨rfl, rfl, rfl, rfl, rfl, q⟩, fun _ => ⟨rfl, fun j => (upd_self (hd rfl) j).symm, .inl rfl, Int.le_refl _⟩⟩
    · have m := (q_12 h q).mp c
      obtain ⟨k1, f1, t1, v1, n1, n2, n3, n4⟩ := next_ok h q
      obtain ⟨r, s2, f2, t2, ft2, ss2, k2, f2', t2', v2, w2, A2, M2, G2, W2⟩ := num_st h (so := k1) (fr := f1) (tt := t1) (ft := -1) (k := k1) (f := f1) (t := t1) (v := v1) (w := 0) x ss l hh (.inl ⟨rfl, rfl, rfl, rfl, rfl, n3⟩) l0
      have B : f_X3_tookName__phase bs tz k f t (-1) = (1, k1, f1, t1) := by
        unfold f_X3_tookName__phase
        rw [if_pos (show (-1 : Int32) = -1 from rfl), if_neg c, n2, pr3_mk]
      have A : (if ((1 : Int32) = 0) then (d, k1, f1, t1, (-1)) else (pr5 (f_X3_takeNumber bs tz k1 f1 t1 (-1) l hh) (fun r7 so_7 fr_7 tt_7 ft_7 => (r7, so_7, fr_7, tt_7, ft_7)))) = (r, s2, f2, t2, ft2) := by
        rw [if_neg one_nz, A2, pr5_mk]
      have M : f_X6_perhaps ss mtp tz k f t v 0 (f_X6_isFive mtp tz k f t 112 104 97 115 101) x l hh = (ss2, k2, f2', t2', v2, w2) := by
        unfold f_X6_perhaps
        rw [if_pos (show (0 : Int32) = 0 from rfl), if_neg m, n1, pr4_mk, M2, pr6_mk]
      refine ⟨1, k1, f1, t1, r, s2, f2, t2, ft2, ss2, k2, f2', t2', v2, w2, B, A, M, G2, fun z => ?_⟩
      obtain ⟨-, e1, e4, e5, p⟩ := W2 z
      have p1 := q.1.2.1
      have p2 := n3.1.2.1
      exact ⟨rfl, fun j => by rw [e1], .inr ⟨e4, e5⟩, by omega⟩
  · have B : f_X3_tookName__phase bs tz so fr tt ft = (0, so, fr, tt) := by
      unfold f_X3_tookName__phase
      rw [if_neg a]
    have A : (if ((0 : Int32) = 0) then (d, so, fr, tt, ft) else (pr5 (f_X3_takeNumber bs tz so fr tt ft l hh) (fun r7 so_7 fr_7 tt_7 ft_7 => (r7, so_7, fr_7, tt_7, ft_7)))) = (d, so, fr, tt, ft) := if_pos rfl
    exact ⟨0, so, fr, tt, d, so, fr, tt, ft, ss, k, f, t, v, w, B, A, perh_bad b, .inr ⟨a, b, c, e⟩, fun z => absurd z b⟩
end TW3
