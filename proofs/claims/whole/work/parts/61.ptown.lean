/-! the tape read: signs against tokens -/
theorem one_nz : ¬ (1 : Int32) = 0 := by decide
theorem z32 : (32 : Int32).toInt = 32 := rfl
section TW1
variable {bs mtp : Nat → Int32} {tz : Int32}
theorem tp_n (h : RTp bs mtp tz) : TN tz := h.1
theorem by_hi {x : Int32} (c : tz ≤ x) : f_X6_byteAt mtp tz x = -1 := by unfold f_X6_byteAt; rw [if_pos c]
theorem by_lo {x : Int32} (c : ¬ tz ≤ x) : f_X6_byteAt mtp tz x = mtp x.toNatClampNeg := by unfold f_X6_byteAt; rw [if_neg c]
theorem by_bs (h : RTp bs mtp tz) {x : Int32} (h0 : 0 ≤ x.toInt) (c : ¬ tz ≤ x) : f_X6_byteAt mtp tz x = bs x.toNatClampNeg ∧ 0 ≤ (bs x.toNatClampNeg).toInt ∧ (bs x.toNatClampNeg).toInt ≤ 255 := by
  have c' := mt i32_le.mpr c
  have q := h.2 x.toNatClampNeg (by rw [cl_nn h0]; omega)
  rw [by_lo c, q.1]
  exact ⟨rfl, q.2⟩
theorem sort_eq (h : RTp bs mtp tz) {x : Int32} (h0 : 0 ≤ x.toInt) : f_X3_sortAt bs tz x = if (0 : Int32) ≤ f_X6_byteAt mtp tz x then (if f_X6_isAlpha (f_X6_byteAt mtp tz x) = 0 then (if f_X6_isDigit (f_X6_byteAt mtp tz x) = 0 then 3 else 2) else 1) else 0 := by
  unfold f_X3_sortAt
  rw [if_neg (show ¬ x < 0 by rw [i32_lt, z0I]; omega)]
  by_cases c : tz ≤ x
  · rw [by_hi c, if_neg (show ¬ x < tz by rw [i32_lt]; have := i32_le.mp c; omega), if_neg (by decide)]
  · have q := by_bs h h0 c
    rw [q.1, if_pos (show x < tz by rw [i32_lt]; have := mt i32_le.mpr c; omega), if_pos (show (0 : Int32) ≤ bs x.toNatClampNeg by rw [i32_le, z0I]; exact q.2.1)]
    unfold f_X6_isAlpha f_X6_isDigit
    generalize bs x.toNatClampNeg = b
    by_cases c1 : b < 97
    · rw [if_pos c1, if_pos c1, if_pos rfl]
      by_cases c2 : b < 48
      · rw [if_pos c2, if_pos c2, if_pos rfl]
      · rw [if_neg c2, if_neg c2]
        by_cases c3 : (57 : Int32) < b
        · rw [if_pos c3, if_pos c3, if_pos rfl]
        · rw [if_neg c3, if_neg c3, if_neg i1n0]
    · rw [if_neg c1, if_neg c1]
      by_cases c4 : (122 : Int32) < b
      · rw [if_pos c4, if_pos c4, if_pos rfl]
        by_cases c2 : b < 48
        · rw [if_pos c2, if_pos c2, if_pos rfl]
        · rw [if_neg c2, if_neg c2]
          by_cases c3 : (57 : Int32) < b
          · rw [if_pos c3, if_pos c3, if_pos rfl]
          · rw [if_neg c3, if_neg c3, if_neg i1n0]
      · rw [if_neg c4, if_neg c4, if_neg i1n0]
theorem sort_in {x : Int32} : f_X3_sortAt bs tz x = 0 ∨ f_X3_sortAt bs tz x = 1 ∨ f_X3_sortAt bs tz x = 2 ∨ f_X3_sortAt bs tz x = 3 := by
  unfold f_X3_sortAt
  repeat' split
  all_goals decide
theorem sort_al (h : RTp bs mtp tz) {x : Int32} (h0 : 0 ≤ x.toInt) : f_X3_sortAt bs tz x = 1 ↔ ¬ f_X6_isAlpha (f_X6_byteAt mtp tz x) = 0 := by
  rw [sort_eq h h0]
  by_cases c : (0 : Int32) ≤ f_X6_byteAt mtp tz x
  · rw [if_pos c]
    by_cases d : f_X6_isAlpha (f_X6_byteAt mtp tz x) = 0
    · rw [if_pos d]
      refine ⟨fun q => ?_, fun q => absurd d q⟩
      exfalso
      by_cases e : f_X6_isDigit (f_X6_byteAt mtp tz x) = 0
      · rw [if_pos e] at q; exact absurd q (by decide)
      · rw [if_neg e] at q; exact absurd q (by decide)
    · rw [if_neg d]; exact ⟨fun _ => d, fun _ => rfl⟩
  · rw [if_neg c]
    refine ⟨fun q => absurd q (by decide), fun q => ?_⟩
    exfalso
    apply q
    unfold f_X6_isAlpha
    rw [if_pos]
    rw [i32_le, z0I] at c
    rw [i32_lt, show (97 : Int32).toInt = 97 from rfl]
    omega
theorem sort_dg (h : RTp bs mtp tz) {x : Int32} (h0 : 0 ≤ x.toInt) : f_X3_sortAt bs tz x = 2 ↔ ¬ f_X6_isDigit (f_X6_byteAt mtp tz x) = 0 := by
  rw [sort_eq h h0]
  by_cases c : (0 : Int32) ≤ f_X6_byteAt mtp tz x
  · rw [if_pos c]
    by_cases d : f_X6_isAlpha (f_X6_byteAt mtp tz x) = 0
    · rw [if_pos d]
      by_cases e : f_X6_isDigit (f_X6_byteAt mtp tz x) = 0
      · rw [if_pos e]; exact ⟨fun q => absurd q (by decide), fun q => absurd e q⟩
      · rw [if_neg e]; exact ⟨fun _ => e, fun _ => rfl⟩
    · rw [if_neg d]
      refine ⟨fun q => absurd q (by decide), fun q => ?_⟩
      exfalso
      unfold f_X6_isAlpha at d
      unfold f_X6_isDigit at q
      generalize f_X6_byteAt mtp tz x = b at d q
      by_cases c1 : b < 97
      · rw [if_pos c1] at d; exact d rfl
      · rw [if_neg (show ¬ b < 48 from fun w => c1 (by rw [i32_lt, show (97 : Int32).toInt = 97 from rfl]; have := i32_lt.mp w; rw [show (48 : Int32).toInt = 48 from rfl] at this; omega)), if_pos (show (57 : Int32) < b by rw [i32_lt, show (97 : Int32).toInt = 97 from rfl] at c1; rw [i32_lt, show (57 : Int32).toInt = 57 from rfl]; omega)] at q
        exact q rfl
  · rw [if_neg c]
    refine ⟨fun q => absurd q (by decide), fun q => ?_⟩
    exfalso
    apply q
    unfold f_X6_isDigit
    rw [if_pos]
    rw [i32_le, z0I] at c
    rw [i32_lt, show (48 : Int32).toInt = 48 from rfl]
    omega
theorem sort_lt {x : Int32} (h0 : 0 ≤ x.toInt) (h : ¬ f_X3_sortAt bs tz x = 0) : ¬ tz ≤ x := fun c => by
  apply h
  unfold f_X3_sortAt
  rw [if_neg (show ¬ x < 0 by rw [i32_lt, z0I]; omega), if_neg (show ¬ x < tz by rw [i32_lt]; have := i32_le.mp c; omega)]
theorem L8_eq (h : RTp bs mtp tz) : ∀ (N : Nat) (f : Int32), TN f → f.toInt ≤ tz.toInt → l_X3_readSign_8 bs tz N f = l_X6_nextToken_8 mtp tz N f ∧ (l_X3_readSign_8 bs tz N f).toInt ≤ tz.toInt := by
  intro N
  induction N with
  | zero => intro f _ hl; rw [l_X3_readSign_8, l_X6_nextToken_8]; exact ⟨rfl, hl⟩
  | succ N ih =>
    intro f hf hl
    rw [l_X3_readSign_8, l_X6_nextToken_8]
    by_cases c : tz ≤ f
    · rw [if_pos c, by_hi c, if_neg (by decide)]; exact ⟨rfl, hl⟩
    · have q := by_bs h hf.1 c
      have hs := rs_step (tp_n h) hf c
      rw [if_neg c, q.1]
      by_cases d : bs f.toNatClampNeg = 32
      · rw [if_pos d, if_pos d]; exact ih _ hs.1 (by omega)
      · rw [if_neg d, if_neg d]; exact ⟨rfl, hl⟩
theorem L91_eq (h : RTp bs mtp tz) : ∀ (N : Nat) (f : Int32), TN f → f.toInt ≤ tz.toInt → l_X3_readSign_84 bs tz 1 N f = l_X6_nextToken_91 mtp tz 1 N f ∧ (l_X3_readSign_84 bs tz 1 N f).toInt ≤ tz.toInt := by
  intro N
  induction N with
  | zero => intro f _ hl; rw [l_X3_readSign_84, l_X6_nextToken_91]; exact ⟨rfl, hl⟩
  | succ N ih =>
    intro f hf hl
    rw [l_X3_readSign_84, l_X6_nextToken_91, if_pos rfl, if_pos rfl]
    have q := sort_al h hf.1
    by_cases c : tz ≤ f
    · have d : f_X6_isAlpha (f_X6_byteAt mtp tz f) = 0 := by rw [by_hi c]; rfl
      rw [if_pos c, if_pos d]; exact ⟨rfl, hl⟩
    · rw [if_neg c]
      have hs := rs_step (tp_n h) hf c
      by_cases d : f_X6_isAlpha (f_X6_byteAt mtp tz f) = 0
      · rw [if_pos d, if_neg (fun w => q.mp w d)]; exact ⟨rfl, hl⟩
      · rw [if_neg d, if_pos (q.mpr d)]; exact ih _ hs.1 (by omega)
theorem L126_eq (h : RTp bs mtp tz) : ∀ (N : Nat) (f v : Int32), TN f → f.toInt ≤ tz.toInt → l_X3_readSign_84 bs tz 2 N f = (l_X6_nextToken_126 mtp tz 2 N f v).1 ∧ (l_X3_readSign_84 bs tz 2 N f).toInt ≤ tz.toInt := by
  intro N
  induction N with
  | zero => intro f v _ hl; rw [l_X3_readSign_84, l_X6_nextToken_126]; exact ⟨rfl, hl⟩
  | succ N ih =>
    intro f v hf hl
    rw [l_X3_readSign_84, l_X6_nextToken_126, if_neg (show ¬ (2 : Int32) = 1 by decide), if_pos rfl, if_pos rfl]
    have q := sort_dg h hf.1
    by_cases c : tz ≤ f
    · have d : f_X6_isDigit (f_X6_byteAt mtp tz f) = 0 := by rw [by_hi c]; rfl
      rw [if_pos c, if_pos d]; exact ⟨rfl, hl⟩
    · rw [if_neg c]
      have hs := rs_step (tp_n h) hf c
      by_cases d : f_X6_isDigit (f_X6_byteAt mtp tz f) = 0
      · rw [if_pos d, if_neg (fun w => q.mp w d)]; exact ⟨rfl, hl⟩
      · rw [if_neg d, if_pos (q.mpr d), pr1_mk]; exact ih _ _ hs.1 (by omega)
theorem L84_n {so : Int32} (h1 : ¬ so = 1) (h2 : ¬ so = 2) (N : Nat) (f : Int32) : l_X3_readSign_84 bs tz so N f = f := by
  cases N with
  | zero => rw [l_X3_readSign_84]
  | succ N => rw [l_X3_readSign_84, if_neg h1, if_neg h2]
/-- the value of a number of three digits at most -/
theorem val_eq (h : RTp bs mtp tz) : ∀ (N M : Nat) (f v : Int32) (d : Nat), TN f → f.toInt ≤ tz.toInt → ((201 : Int) - f.toInt).toNat < N → ((201 : Int) - f.toInt).toNat < M → d ≤ 3 → 0 ≤ v.toInt → v.toInt < (10 ^ d : Nat) → (l_X6_nextToken_126 mtp tz 2 N f v).1.toInt - f.toInt ≤ 3 - d → (l_X6_nextToken_126 mtp tz 2 N f v).2 = (l_X3_numberRead_30 bs tz (l_X6_nextToken_126 mtp tz 2 N f v).1 M v f).1 := by
  intro N
  induction N with
  | zero => intro M f v d _ _ hN; exact absurd hN (Nat.not_lt_zero _)
  | succ N ih =>
    intro M f v d hf hl hN hM hd v0 v1 ht
    obtain ⟨M', rfl⟩ : ∃ K, M = K + 1 := ⟨M - 1, by omega⟩
    have hm := nt126 (p := mtp) (n := tz) (k := 2) (tp_n h)
    rw [l_X6_nextToken_126, if_pos rfl] at ht ⊢
    by_cases c : f_X6_isDigit (f_X6_byteAt mtp tz f) = 0
    · rw [if_pos c]
      rw [l_X3_numberRead_30, if_pos (show f ≤ f from i32_le.mpr (Int.le_refl _))]
    · rw [if_neg c, pr1_mk] at ht ⊢
      have hlt : ¬ tz ≤ f := sort_lt hf.1 (by rw [(sort_dg h hf.1).mpr c]; decide)
      have q := by_bs h hf.1 hlt
      have hs := rs_step (tp_n h) hf hlt
      rw [q.1] at c ht ⊢
      have hb : 48 ≤ (bs f.toNatClampNeg).toInt ∧ (bs f.toNatClampNeg).toInt ≤ 57 := by
        unfold f_X6_isDigit at c
        by_cases c1 : bs f.toNatClampNeg < 48
        · rw [if_pos c1] at c; exact absurd rfl c
        · rw [if_neg c1] at c
          by_cases c2 : (57 : Int32) < bs f.toNatClampNeg
          · rw [if_pos c2] at c; exact absurd rfl c
          · rw [i32_lt, show (48 : Int32).toInt = 48 from rfl] at c1
            rw [i32_lt, show (57 : Int32).toInt = 57 from rfl] at c2
            omega
      have hd3 : d = 0 ∨ d = 1 ∨ d = 2 ∨ d = 3 := by omega
      have e10 : (10 : Int32).toInt = 10 := rfl
      have e48 : (48 : Int32).toInt = 48 := rfl
      have hv : v.toInt < 1000 := by
        rcases hd3 with rfl | rfl | rfl | rfl
        · have : (10 ^ 0 : Nat) = 1 := rfl
          omega
        · have : (10 ^ 1 : Nat) = 10 := rfl
          omega
        · have : (10 ^ 2 : Nat) = 100 := rfl
          omega
        · have : (10 ^ 3 : Nat) = 1000 := rfl
          omega
      rw [if_pos (show v ≤ (999 : Int32) by rw [i32_le, show (999 : Int32).toInt = 999 from rfl]; omega)] at ht ⊢
      have m1 : ((10 : Int32) * v).toInt = 10 * v.toInt := i32_mulE (a := 10) (b := v) (by rw [e10]; omega) (by rw [e10]; omega)
      have m2 : ((10 : Int32) * v + bs f.toNatClampNeg).toInt = 10 * v.toInt + (bs f.toNatClampNeg).toInt := by rw [i32_addE (by omega) (by omega), m1]
      have m3 : ((10 : Int32) * v + bs f.toNatClampNeg - 48).toInt = 10 * v.toInt + (bs f.toNatClampNeg).toInt - 48 := by rw [i32_subE (by rw [e48]; omega) (by rw [e48]; omega), m2, e48]
      have hmm := hm N (f + 1) ((10 : Int32) * v + bs f.toNatClampNeg - 48) hs.1
      have hd2 : d ≤ 2 := by omega
      have hpw : (10 ^ (d + 1) : Nat) = 10 * 10 ^ d := by rw [Nat.pow_succ, Nat.mul_comm]
      rw [l_X3_numberRead_30, if_neg (fun w => by have := i32_le.mp w; omega), if_neg hlt, Int32.mul_comm v 10]
      exact ih M' (f + 1) _ (d + 1) hs.1 (by omega) (by omega) (by omega) (by omega) (by omega) (by omega) (by omega)
/-- a token as both have read it -/
def TK (bs : Nat → Int32) (tz so fr tt vl : Int32) : Prop := TX so fr tt ∧ tt.toInt ≤ tz.toInt ∧ (so = 0 ∨ so = 1 ∨ so = 2 ∨ so = 3) ∧ (so = 2 → tt.toInt - fr.toInt ≤ 3 → vl = f_X3_numberRead bs tz so fr tt)
theorem sign_eq (h : RTp bs mtp tz) {t0 : Int32} (ht : TN t0) (hl : t0.toInt ≤ tz.toInt) : ∃ k f t v, f_X6_nextToken mtp tz t0 = (k, f, t, v) ∧ f_X3_readSign bs tz t0 = (k, f, t) ∧ TK bs tz k f t v ∧ t0.toInt ≤ f.toInt := by
  obtain ⟨k, f, t, v, e⟩ : ∃ k f t v, f_X6_nextToken mtp tz t0 = (k, f, t, v) := ⟨_, _, _, _, rfl⟩
  have hx := next_TX (tp_n h) ht e
  obtain ⟨e8, l8⟩ := L8_eq h 300 t0 ht hl
  have n8 := rsL8 (bs := bs) (tp_n h) 300 t0 ht
  refine ⟨k, f, t, v, e, ?_, ?_⟩
  all_goals unfold f_X6_nextToken at e
  · unfold f_X3_readSign
    rw [← e8] at e
    generalize l_X3_readSign_8 bs tz 300 t0 = p at e l8 n8 ⊢
    rw [pr1_mk, pr1_mk] at e
    rw [pr1_mk, pr1_mk, pr1_mk]
    rw [← sort_eq h n8.1] at e
    rcases sort_in (bs := bs) (tz := tz) (x := p) with c | c | c | c
    · rw [c, if_neg (by decide), L84_n (by decide) (by decide)]
      rw [c, pr1_mk, nt91n (by decide), nt126n (by decide), pr2_mk, if_pos (by decide), pr1_mk, Int32.add_zero] at e
      simp only [Prod.mk.injEq] at e ⊢
      exact ⟨e.1, e.2.1, e.2.2.1⟩
    · rw [c, if_neg (by decide), (L91_eq h 300 p n8 l8).1]
      rw [c, pr1_mk, nt126n (by decide), pr2_mk, if_pos (by decide), pr1_mk, Int32.add_zero] at e
      simp only [Prod.mk.injEq] at e ⊢
      exact ⟨e.1, e.2.1, e.2.2.1⟩
    · rw [c, if_neg (by decide), (L126_eq h 300 p 0 n8 l8).1]
      rw [c, pr1_mk, nt91n (by decide)] at e
      generalize l_X6_nextToken_126 mtp tz 2 300 p 0 = r at e ⊢
      obtain ⟨r0, r1⟩ := r
      rw [pr2_mk, if_pos (by decide), pr1_mk, Int32.add_zero] at e
      simp only [Prod.mk.injEq] at e ⊢
      exact ⟨e.1, e.2.1, e.2.2.1⟩
    · rw [c, if_pos rfl, L84_n (by decide) (by decide)]
      rw [c, pr1_mk, nt91n (by decide), nt126n (by decide), pr2_mk, if_neg (by decide), pr1_mk] at e
      simp only [Prod.mk.injEq] at e ⊢
      exact ⟨e.1, e.2.1, e.2.2.1⟩
  · refine ⟨⟨hx.1, ?_⟩, hx.2⟩
    rw [← e8] at e
    generalize l_X3_readSign_8 bs tz 300 t0 = p at e l8 n8
    rw [pr1_mk, pr1_mk, ← sort_eq h n8.1] at e
    rcases sort_in (bs := bs) (tz := tz) (x := p) with c | c | c | c
    · rw [c, pr1_mk, nt91n (by decide), nt126n (by decide), pr2_mk, if_pos (by decide), pr1_mk, Int32.add_zero] at e
      simp only [Prod.mk.injEq] at e
      obtain ⟨e1, e2, e3, _⟩ := e
      refine ⟨by rw [← e3]; exact l8, .inl e1.symm, fun w => ?_⟩
      rw [← e1] at w; exact absurd w (by decide)
    · have q := (L91_eq h 300 p n8 l8)
      rw [c, pr1_mk, nt126n (by decide), pr2_mk, if_pos (by decide), pr1_mk, Int32.add_zero, ← q.1] at e
      simp only [Prod.mk.injEq] at e
      obtain ⟨e1, e2, e3, _⟩ := e
      refine ⟨by rw [← e3]; exact q.2, .inr (.inl e1.symm), fun w => ?_⟩
      rw [← e1] at w; exact absurd w (by decide)
    · have q := (L126_eq h 300 p 0 n8 l8)
      have w := val_eq h 300 300 p 0 0 n8 l8 (nt_fuel n8) (nt_fuel n8) (by decide) (by decide) (by decide)
      rw [c, pr1_mk, nt91n (by decide)] at e
      generalize l_X6_nextToken_126 mtp tz 2 300 p 0 = r at e q w
      obtain ⟨r0, r1⟩ := r
      rw [pr2_mk, if_pos (by decide), pr1_mk, Int32.add_zero] at e
      simp only [Prod.mk.injEq] at e
      obtain ⟨e1, e2, e3, e4⟩ := e
      have q1 : l_X3_readSign_84 bs tz 2 300 p = r0 := q.1
      have q2 := q.2
      rw [q1] at q2
      refine ⟨by rw [← e3]; exact q2, .inr (.inr (.inl e1.symm)), fun _ h3 => ?_⟩
      have w' : r0.toInt - p.toInt ≤ 3 - (0 : Nat) → r1 = (l_X3_numberRead_30 bs tz r0 300 0 p).1 := w
      have ht3 : t.toInt ≤ 200 := hx.1.2.2.1
      have hf0 : 0 ≤ f.toInt := hx.1.1
      have hft : f.toInt ≤ t.toInt := hx.1.2.1
      have e5 : (t - f).toInt = t.toInt - f.toInt := i32_subE (by omega) (by omega)
      rw [← e4, ← e1]
      unfold f_X3_numberRead
      rw [if_pos rfl, if_pos (show t - f ≤ (3 : Int32) by rw [i32_le, show (3 : Int32).toInt = 3 from rfl]; omega), w' (by rw [e2, e3]; omega), e2, e3]
      rfl
    · rw [c, pr1_mk, nt91n (by decide), nt126n (by decide), pr2_mk, if_neg (by decide), pr1_mk] at e
      simp only [Prod.mk.injEq] at e
      obtain ⟨e1, e2, e3, _⟩ := e
      have hlt : ¬ tz ≤ p := sort_lt n8.1 (by rw [c]; decide)
      have hs := rs_step (tp_n h) n8 hlt
      refine ⟨by rw [← e3]; omega, .inr (.inr (.inr e1.symm)), fun w => ?_⟩
      rw [← e1] at w; exact absurd w (by decide)
end TW1
theorem nmL_0 {bs : Nat → Int32} {fr : Int32} : ∀ (N : Nat) (x2 : Int32), 0 ≤ x2.toInt → x2.toInt ≤ 9 → ((9 : Int) - x2.toInt).toNat < N → (∃ z, l_X3_isName__n0_39 bs fr N x2 = Sum.inl z ∧ ∀ i : Int32, x2.toInt ≤ i.toInt → i.toInt < 9 → bs (fr + i).toNatClampNeg = kch 0 i.toNatClampNeg) ∨ (l_X3_isName__n0_39 bs fr N x2 = Sum.inr 0 ∧ ∃ i : Int32, x2.toInt ≤ i.toInt ∧ i.toInt < 9 ∧ ¬ bs (fr + i).toNatClampNeg = kch 0 i.toNatClampNeg) := by
  intro N
  induction N with
  | zero => intro x2 _ _ h; exact absurd h (Nat.not_lt_zero _)
  | succ N ih =>
    intro x2 h0 h1 hN
    rw [l_X3_isName__n0_39]
    by_cases c : (9 : Int32) ≤ x2
    · rw [if_pos c]
      have c' := i32_le.mp c
      rw [show (9 : Int32).toInt = 9 from rfl] at c'
      exact .inl ⟨_, rfl, fun i i0 i1 => by omega⟩
    · rw [if_neg c]
      have hs := cnt_step (B := 9) h0 (by decide) (by decide) c
      have e1 := i32_add1 (i := x2) (by omega)
      by_cases d : bs (fr + x2).toNatClampNeg = kch 0 x2.toNatClampNeg
      · rw [if_pos d]
        rcases ih (x2 + 1) hs.1 hs.2.1 (by omega) with ⟨z, e, q⟩ | ⟨e, i, i0, i1, q⟩
        · refine .inl ⟨z, e, fun i i0 i1 => ?_⟩
          by_cases w : i = x2
          · rw [w]; exact d
          · have w' : ¬ i.toInt = x2.toInt := fun g => w (i32_eq.mpr g)
            exact q i (by omega) i1
        · exact .inr ⟨e, i, by omega, i1, q⟩
      · rw [if_neg d]
        exact .inr ⟨rfl, x2, Int.le_refl _, hs.2.2.2, d⟩
theorem nm_0 {bs : Nat → Int32} {tz so fr tt : Int32} : (¬ f_X3_isName__n0 bs tz so fr tt = 0) ↔ (so = 1 ∧ tt - fr = 9 ∧ tt ≤ tz ∧ ∀ i : Int32, 0 ≤ i.toInt → i.toInt < 9 → bs (fr + i).toNatClampNeg = kch 0 i.toNatClampNeg) := by
  unfold f_X3_isName__n0
  by_cases c1 : so = 1
  · rw [if_pos c1]
    by_cases c2 : tt - fr = 9
    · rw [if_pos c2]
      by_cases c3 : tt ≤ tz
      · rw [if_pos c3]
        rcases nmL_0 (bs := bs) (fr := fr) 300 0 (by decide) (by decide) (by decide) with ⟨z, e, q⟩ | ⟨e, i, i0, i1, q⟩
        · rw [e, sm_inl, pr1_mk]; exact ⟨fun _ => ⟨c1, c2, c3, q⟩, fun _ => one_nz⟩
        · rw [e, sm_inr]; exact ⟨fun w => absurd rfl w, fun w => absurd (w.2.2.2 i i0 i1) q⟩
      · rw [if_neg c3]; exact ⟨fun w => absurd rfl w, fun w => absurd w.2.2.1 c3⟩
    · rw [if_neg c2]; exact ⟨fun w => absurd rfl w, fun w => absurd w.2.1 c2⟩
  · rw [if_neg c1]; exact ⟨fun w => absurd rfl w, fun w => absurd w.1 c1⟩
theorem nmL_1 {bs : Nat → Int32} {fr : Int32} : ∀ (N : Nat) (x2 : Int32), 0 ≤ x2.toInt → x2.toInt ≤ 4 → ((4 : Int) - x2.toInt).toNat < N → (∃ z, l_X3_isName__n1_39 bs fr N x2 = Sum.inl z ∧ ∀ i : Int32, x2.toInt ≤ i.toInt → i.toInt < 4 → bs (fr + i).toNatClampNeg = kch 1 i.toNatClampNeg) ∨ (l_X3_isName__n1_39 bs fr N x2 = Sum.inr 0 ∧ ∃ i : Int32, x2.toInt ≤ i.toInt ∧ i.toInt < 4 ∧ ¬ bs (fr + i).toNatClampNeg = kch 1 i.toNatClampNeg) := by
  intro N
  induction N with
  | zero => intro x2 _ _ h; exact absurd h (Nat.not_lt_zero _)
  | succ N ih =>
    intro x2 h0 h1 hN
    rw [l_X3_isName__n1_39]
    by_cases c : (4 : Int32) ≤ x2
    · rw [if_pos c]
      have c' := i32_le.mp c
      rw [show (4 : Int32).toInt = 4 from rfl] at c'
      exact .inl ⟨_, rfl, fun i i0 i1 => by omega⟩
    · rw [if_neg c]
      have hs := cnt_step (B := 4) h0 (by decide) (by decide) c
      have e1 := i32_add1 (i := x2) (by omega)
      by_cases d : bs (fr + x2).toNatClampNeg = kch 1 x2.toNatClampNeg
      · rw [if_pos d]
        rcases ih (x2 + 1) hs.1 hs.2.1 (by omega) with ⟨z, e, q⟩ | ⟨e, i, i0, i1, q⟩
        · refine .inl ⟨z, e, fun i i0 i1 => ?_⟩
          by_cases w : i = x2
          · rw [w]; exact d
          · have w' : ¬ i.toInt = x2.toInt := fun g => w (i32_eq.mpr g)
            exact q i (by omega) i1
        · exact .inr ⟨e, i, by omega, i1, q⟩
      · rw [if_neg d]
        exact .inr ⟨rfl, x2, Int.le_refl _, hs.2.2.2, d⟩
theorem nm_1 {bs : Nat → Int32} {tz so fr tt : Int32} : (¬ f_X3_isName__n1 bs tz so fr tt = 0) ↔ (so = 1 ∧ tt - fr = 4 ∧ tt ≤ tz ∧ ∀ i : Int32, 0 ≤ i.toInt → i.toInt < 4 → bs (fr + i).toNatClampNeg = kch 1 i.toNatClampNeg) := by
  unfold f_X3_isName__n1
  by_cases c1 : so = 1
  · rw [if_pos c1]
    by_cases c2 : tt - fr = 4
    · rw [if_pos c2]
      by_cases c3 : tt ≤ tz
      · rw [if_pos c3]
        rcases nmL_1 (bs := bs) (fr := fr) 300 0 (by decide) (by decide) (by decide) with ⟨z, e, q⟩ | ⟨e, i, i0, i1, q⟩
        · rw [e, sm_inl, pr1_mk]; exact ⟨fun _ => ⟨c1, c2, c3, q⟩, fun _ => one_nz⟩
        · rw [e, sm_inr]; exact ⟨fun w => absurd rfl w, fun w => absurd (w.2.2.2 i i0 i1) q⟩
      · rw [if_neg c3]; exact ⟨fun w => absurd rfl w, fun w => absurd w.2.2.1 c3⟩
    · rw [if_neg c2]; exact ⟨fun w => absurd rfl w, fun w => absurd w.2.1 c2⟩
  · rw [if_neg c1]; exact ⟨fun w => absurd rfl w, fun w => absurd w.1 c1⟩
theorem nmL_2 {bs : Nat → Int32} {fr : Int32} : ∀ (N : Nat) (x2 : Int32), 0 ≤ x2.toInt → x2.toInt ≤ 7 → ((7 : Int) - x2.toInt).toNat < N → (∃ z, l_X3_isName__n2_39 bs fr N x2 = Sum.inl z ∧ ∀ i : Int32, x2.toInt ≤ i.toInt → i.toInt < 7 → bs (fr + i).toNatClampNeg = kch 2 i.toNatClampNeg) ∨ (l_X3_isName__n2_39 bs fr N x2 = Sum.inr 0 ∧ ∃ i : Int32, x2.toInt ≤ i.toInt ∧ i.toInt < 7 ∧ ¬ bs (fr + i).toNatClampNeg = kch 2 i.toNatClampNeg) := by
  intro N
  induction N with
  | zero => intro x2 _ _ h; exact absurd h (Nat.not_lt_zero _)
  | succ N ih =>
    intro x2 h0 h1 hN
    rw [l_X3_isName__n2_39]
    by_cases c : (7 : Int32) ≤ x2
    · rw [if_pos c]
      have c' := i32_le.mp c
      rw [show (7 : Int32).toInt = 7 from rfl] at c'
      exact .inl ⟨_, rfl, fun i i0 i1 => by omega⟩
    · rw [if_neg c]
      have hs := cnt_step (B := 7) h0 (by decide) (by decide) c
      have e1 := i32_add1 (i := x2) (by omega)
      by_cases d : bs (fr + x2).toNatClampNeg = kch 2 x2.toNatClampNeg
      · rw [if_pos d]
        rcases ih (x2 + 1) hs.1 hs.2.1 (by omega) with ⟨z, e, q⟩ | ⟨e, i, i0, i1, q⟩
        · refine .inl ⟨z, e, fun i i0 i1 => ?_⟩
          by_cases w : i = x2
          · rw [w]; exact d
          · have w' : ¬ i.toInt = x2.toInt := fun g => w (i32_eq.mpr g)
            exact q i (by omega) i1
        · exact .inr ⟨e, i, by omega, i1, q⟩
      · rw [if_neg d]
        exact .inr ⟨rfl, x2, Int.le_refl _, hs.2.2.2, d⟩
theorem nm_2 {bs : Nat → Int32} {tz so fr tt : Int32} : (¬ f_X3_isName__n2 bs tz so fr tt = 0) ↔ (so = 1 ∧ tt - fr = 7 ∧ tt ≤ tz ∧ ∀ i : Int32, 0 ≤ i.toInt → i.toInt < 7 → bs (fr + i).toNatClampNeg = kch 2 i.toNatClampNeg) := by
  unfold f_X3_isName__n2
  by_cases c1 : so = 1
  · rw [if_pos c1]
    by_cases c2 : tt - fr = 7
    · rw [if_pos c2]
      by_cases c3 : tt ≤ tz
      · rw [if_pos c3]
        rcases nmL_2 (bs := bs) (fr := fr) 300 0 (by decide) (by decide) (by decide) with ⟨z, e, q⟩ | ⟨e, i, i0, i1, q⟩
        · rw [e, sm_inl, pr1_mk]; exact ⟨fun _ => ⟨c1, c2, c3, q⟩, fun _ => one_nz⟩
        · rw [e, sm_inr]; exact ⟨fun w => absurd rfl w, fun w => absurd (w.2.2.2 i i0 i1) q⟩
      · rw [if_neg c3]; exact ⟨fun w => absurd rfl w, fun w => absurd w.2.2.1 c3⟩
    · rw [if_neg c2]; exact ⟨fun w => absurd rfl w, fun w => absurd w.2.1 c2⟩
  · rw [if_neg c1]; exact ⟨fun w => absurd rfl w, fun w => absurd w.1 c1⟩
theorem nmL_3 {bs : Nat → Int32} {fr : Int32} : ∀ (N : Nat) (x2 : Int32), 0 ≤ x2.toInt → x2.toInt ≤ 5 → ((5 : Int) - x2.toInt).toNat < N → (∃ z, l_X3_isName__n3_39 bs fr N x2 = Sum.inl z ∧ ∀ i : Int32, x2.toInt ≤ i.toInt → i.toInt < 5 → bs (fr + i).toNatClampNeg = kch 3 i.toNatClampNeg) ∨ (l_X3_isName__n3_39 bs fr N x2 = Sum.inr 0 ∧ ∃ i : Int32, x2.toInt ≤ i.toInt ∧ i.toInt < 5 ∧ ¬ bs (fr + i).toNatClampNeg = kch 3 i.toNatClampNeg) := by
  intro N
  induction N with
  | zero => intro x2 _ _ h; exact absurd h (Nat.not_lt_zero _)
  | succ N ih =>
    intro x2 h0 h1 hN
    rw [l_X3_isName__n3_39]
    by_cases c : (5 : Int32) ≤ x2
    · rw [if_pos c]
      have c' := i32_le.mp c
      rw [show (5 : Int32).toInt = 5 from rfl] at c'
      exact .inl ⟨_, rfl, fun i i0 i1 => by omega⟩
    · rw [if_neg c]
      have hs := cnt_step (B := 5) h0 (by decide) (by decide) c
      have e1 := i32_add1 (i := x2) (by omega)
      by_cases d : bs (fr + x2).toNatClampNeg = kch 3 x2.toNatClampNeg
      · rw [if_pos d]
        rcases ih (x2 + 1) hs.1 hs.2.1 (by omega) with ⟨z, e, q⟩ | ⟨e, i, i0, i1, q⟩
        · refine .inl ⟨z, e, fun i i0 i1 => ?_⟩
          by_cases w : i = x2
          · rw [w]; exact d
          · have w' : ¬ i.toInt = x2.toInt := fun g => w (i32_eq.mpr g)
            exact q i (by omega) i1
        · exact .inr ⟨e, i, by omega, i1, q⟩
      · rw [if_neg d]
        exact .inr ⟨rfl, x2, Int.le_refl _, hs.2.2.2, d⟩
theorem nm_3 {bs : Nat → Int32} {tz so fr tt : Int32} : (¬ f_X3_isName__n3 bs tz so fr tt = 0) ↔ (so = 1 ∧ tt - fr = 5 ∧ tt ≤ tz ∧ ∀ i : Int32, 0 ≤ i.toInt → i.toInt < 5 → bs (fr + i).toNatClampNeg = kch 3 i.toNatClampNeg) := by
  unfold f_X3_isName__n3
  by_cases c1 : so = 1
  · rw [if_pos c1]
    by_cases c2 : tt - fr = 5
    · rw [if_pos c2]
      by_cases c3 : tt ≤ tz
      · rw [if_pos c3]
        rcases nmL_3 (bs := bs) (fr := fr) 300 0 (by decide) (by decide) (by decide) with ⟨z, e, q⟩ | ⟨e, i, i0, i1, q⟩
        · rw [e, sm_inl, pr1_mk]; exact ⟨fun _ => ⟨c1, c2, c3, q⟩, fun _ => one_nz⟩
        · rw [e, sm_inr]; exact ⟨fun w => absurd rfl w, fun w => absurd (w.2.2.2 i i0 i1) q⟩
      · rw [if_neg c3]; exact ⟨fun w => absurd rfl w, fun w => absurd w.2.2.1 c3⟩
    · rw [if_neg c2]; exact ⟨fun w => absurd rfl w, fun w => absurd w.2.1 c2⟩
  · rw [if_neg c1]; exact ⟨fun w => absurd rfl w, fun w => absurd w.1 c1⟩
theorem nmL_4 {bs : Nat → Int32} {fr : Int32} : ∀ (N : Nat) (x2 : Int32), 0 ≤ x2.toInt → x2.toInt ≤ 7 → ((7 : Int) - x2.toInt).toNat < N → (∃ z, l_X3_isName__n4_39 bs fr N x2 = Sum.inl z ∧ ∀ i : Int32, x2.toInt ≤ i.toInt → i.toInt < 7 → bs (fr + i).toNatClampNeg = kch 4 i.toNatClampNeg) ∨ (l_X3_isName__n4_39 bs fr N x2 = Sum.inr 0 ∧ ∃ i : Int32, x2.toInt ≤ i.toInt ∧ i.toInt < 7 ∧ ¬ bs (fr + i).toNatClampNeg = kch 4 i.toNatClampNeg) := by
  intro N
  induction N with
  | zero => intro x2 _ _ h; exact absurd h (Nat.not_lt_zero _)
  | succ N ih =>
    intro x2 h0 h1 hN
    rw [l_X3_isName__n4_39]
    by_cases c : (7 : Int32) ≤ x2
    · rw [if_pos c]
      have c' := i32_le.mp c
      rw [show (7 : Int32).toInt = 7 from rfl] at c'
      exact .inl ⟨_, rfl, fun i i0 i1 => by omega⟩
    · rw [if_neg c]
      have hs := cnt_step (B := 7) h0 (by decide) (by decide) c
      have e1 := i32_add1 (i := x2) (by omega)
      by_cases d : bs (fr + x2).toNatClampNeg = kch 4 x2.toNatClampNeg
      · rw [if_pos d]
        rcases ih (x2 + 1) hs.1 hs.2.1 (by omega) with ⟨z, e, q⟩ | ⟨e, i, i0, i1, q⟩
        · refine .inl ⟨z, e, fun i i0 i1 => ?_⟩
          by_cases w : i = x2
          · rw [w]; exact d
          · have w' : ¬ i.toInt = x2.toInt := fun g => w (i32_eq.mpr g)
            exact q i (by omega) i1
        · exact .inr ⟨e, i, by omega, i1, q⟩
      · rw [if_neg d]
        exact .inr ⟨rfl, x2, Int.le_refl _, hs.2.2.2, d⟩
theorem nm_4 {bs : Nat → Int32} {tz so fr tt : Int32} : (¬ f_X3_isName__n4 bs tz so fr tt = 0) ↔ (so = 1 ∧ tt - fr = 7 ∧ tt ≤ tz ∧ ∀ i : Int32, 0 ≤ i.toInt → i.toInt < 7 → bs (fr + i).toNatClampNeg = kch 4 i.toNatClampNeg) := by
  unfold f_X3_isName__n4
  by_cases c1 : so = 1
  · rw [if_pos c1]
    by_cases c2 : tt - fr = 7
    · rw [if_pos c2]
      by_cases c3 : tt ≤ tz
      · rw [if_pos c3]
        rcases nmL_4 (bs := bs) (fr := fr) 300 0 (by decide) (by decide) (by decide) with ⟨z, e, q⟩ | ⟨e, i, i0, i1, q⟩
        · rw [e, sm_inl, pr1_mk]; exact ⟨fun _ => ⟨c1, c2, c3, q⟩, fun _ => one_nz⟩
        · rw [e, sm_inr]; exact ⟨fun w => absurd rfl w, fun w => absurd (w.2.2.2 i i0 i1) q⟩
      · rw [if_neg c3]; exact ⟨fun w => absurd rfl w, fun w => absurd w.2.2.1 c3⟩
    · rw [if_neg c2]; exact ⟨fun w => absurd rfl w, fun w => absurd w.2.1 c2⟩
  · rw [if_neg c1]; exact ⟨fun w => absurd rfl w, fun w => absurd w.1 c1⟩
theorem nmL_5 {bs : Nat → Int32} {fr : Int32} : ∀ (N : Nat) (x2 : Int32), 0 ≤ x2.toInt → x2.toInt ≤ 6 → ((6 : Int) - x2.toInt).toNat < N → (∃ z, l_X3_isName__n5_39 bs fr N x2 = Sum.inl z ∧ ∀ i : Int32, x2.toInt ≤ i.toInt → i.toInt < 6 → bs (fr + i).toNatClampNeg = kch 5 i.toNatClampNeg) ∨ (l_X3_isName__n5_39 bs fr N x2 = Sum.inr 0 ∧ ∃ i : Int32, x2.toInt ≤ i.toInt ∧ i.toInt < 6 ∧ ¬ bs (fr + i).toNatClampNeg = kch 5 i.toNatClampNeg) := by
  intro N
  induction N with
  | zero => intro x2 _ _ h; exact absurd h (Nat.not_lt_zero _)
  | succ N ih =>
    intro x2 h0 h1 hN
    rw [l_X3_isName__n5_39]
    by_cases c : (6 : Int32) ≤ x2
    · rw [if_pos c]
      have c' := i32_le.mp c
      rw [show (6 : Int32).toInt = 6 from rfl] at c'
      exact .inl ⟨_, rfl, fun i i0 i1 => by omega⟩
    · rw [if_neg c]
      have hs := cnt_step (B := 6) h0 (by decide) (by decide) c
      have e1 := i32_add1 (i := x2) (by omega)
      by_cases d : bs (fr + x2).toNatClampNeg = kch 5 x2.toNatClampNeg
      · rw [if_pos d]
        rcases ih (x2 + 1) hs.1 hs.2.1 (by omega) with ⟨z, e, q⟩ | ⟨e, i, i0, i1, q⟩
        · refine .inl ⟨z, e, fun i i0 i1 => ?_⟩
          by_cases w : i = x2
          · rw [w]; exact d
          · have w' : ¬ i.toInt = x2.toInt := fun g => w (i32_eq.mpr g)
            exact q i (by omega) i1
        · exact .inr ⟨e, i, by omega, i1, q⟩
      · rw [if_neg d]
        exact .inr ⟨rfl, x2, Int.le_refl _, hs.2.2.2, d⟩
theorem nm_5 {bs : Nat → Int32} {tz so fr tt : Int32} : (¬ f_X3_isName__n5 bs tz so fr tt = 0) ↔ (so = 1 ∧ tt - fr = 6 ∧ tt ≤ tz ∧ ∀ i : Int32, 0 ≤ i.toInt → i.toInt < 6 → bs (fr + i).toNatClampNeg = kch 5 i.toNatClampNeg) := by
  unfold f_X3_isName__n5
  by_cases c1 : so = 1
  · rw [if_pos c1]
    by_cases c2 : tt - fr = 6
    · rw [if_pos c2]
      by_cases c3 : tt ≤ tz
      · rw [if_pos c3]
        rcases nmL_5 (bs := bs) (fr := fr) 300 0 (by decide) (by decide) (by decide) with ⟨z, e, q⟩ | ⟨e, i, i0, i1, q⟩
        · rw [e, sm_inl, pr1_mk]; exact ⟨fun _ => ⟨c1, c2, c3, q⟩, fun _ => one_nz⟩
        · rw [e, sm_inr]; exact ⟨fun w => absurd rfl w, fun w => absurd (w.2.2.2 i i0 i1) q⟩
      · rw [if_neg c3]; exact ⟨fun w => absurd rfl w, fun w => absurd w.2.2.1 c3⟩
    · rw [if_neg c2]; exact ⟨fun w => absurd rfl w, fun w => absurd w.2.1 c2⟩
  · rw [if_neg c1]; exact ⟨fun w => absurd rfl w, fun w => absurd w.1 c1⟩
theorem nmL_6 {bs : Nat → Int32} {fr : Int32} : ∀ (N : Nat) (x2 : Int32), 0 ≤ x2.toInt → x2.toInt ≤ 4 → ((4 : Int) - x2.toInt).toNat < N → (∃ z, l_X3_isName__n6_39 bs fr N x2 = Sum.inl z ∧ ∀ i : Int32, x2.toInt ≤ i.toInt → i.toInt < 4 → bs (fr + i).toNatClampNeg = kch 6 i.toNatClampNeg) ∨ (l_X3_isName__n6_39 bs fr N x2 = Sum.inr 0 ∧ ∃ i : Int32, x2.toInt ≤ i.toInt ∧ i.toInt < 4 ∧ ¬ bs (fr + i).toNatClampNeg = kch 6 i.toNatClampNeg) := by
  intro N
  induction N with
  | zero => intro x2 _ _ h; exact absurd h (Nat.not_lt_zero _)
  | succ N ih =>
    intro x2 h0 h1 hN
    rw [l_X3_isName__n6_39]
    by_cases c : (4 : Int32) ≤ x2
    · rw [if_pos c]
      have c' := i32_le.mp c
      rw [show (4 : Int32).toInt = 4 from rfl] at c'
      exact .inl ⟨_, rfl, fun i i0 i1 => by omega⟩
    · rw [if_neg c]
      have hs := cnt_step (B := 4) h0 (by decide) (by decide) c
      have e1 := i32_add1 (i := x2) (by omega)
      by_cases d : bs (fr + x2).toNatClampNeg = kch 6 x2.toNatClampNeg
      · rw [if_pos d]
        rcases ih (x2 + 1) hs.1 hs.2.1 (by omega) with ⟨z, e, q⟩ | ⟨e, i, i0, i1, q⟩
        · refine .inl ⟨z, e, fun i i0 i1 => ?_⟩
          by_cases w : i = x2
          · rw [w]; exact d
          · have w' : ¬ i.toInt = x2.toInt := fun g => w (i32_eq.mpr g)
            exact q i (by omega) i1
        · exact .inr ⟨e, i, by omega, i1, q⟩
      · rw [if_neg d]
        exact .inr ⟨rfl, x2, Int.le_refl _, hs.2.2.2, d⟩
theorem nm_6 {bs : Nat → Int32} {tz so fr tt : Int32} : (¬ f_X3_isName__n6 bs tz so fr tt = 0) ↔ (so = 1 ∧ tt - fr = 4 ∧ tt ≤ tz ∧ ∀ i : Int32, 0 ≤ i.toInt → i.toInt < 4 → bs (fr + i).toNatClampNeg = kch 6 i.toNatClampNeg) := by
  unfold f_X3_isName__n6
  by_cases c1 : so = 1
  · rw [if_pos c1]
    by_cases c2 : tt - fr = 4
    · rw [if_pos c2]
      by_cases c3 : tt ≤ tz
      · rw [if_pos c3]
        rcases nmL_6 (bs := bs) (fr := fr) 300 0 (by decide) (by decide) (by decide) with ⟨z, e, q⟩ | ⟨e, i, i0, i1, q⟩
        · rw [e, sm_inl, pr1_mk]; exact ⟨fun _ => ⟨c1, c2, c3, q⟩, fun _ => one_nz⟩
        · rw [e, sm_inr]; exact ⟨fun w => absurd rfl w, fun w => absurd (w.2.2.2 i i0 i1) q⟩
      · rw [if_neg c3]; exact ⟨fun w => absurd rfl w, fun w => absurd w.2.2.1 c3⟩
    · rw [if_neg c2]; exact ⟨fun w => absurd rfl w, fun w => absurd w.2.1 c2⟩
  · rw [if_neg c1]; exact ⟨fun w => absurd rfl w, fun w => absurd w.1 c1⟩
theorem nmL_7 {bs : Nat → Int32} {fr : Int32} : ∀ (N : Nat) (x2 : Int32), 0 ≤ x2.toInt → x2.toInt ≤ 4 → ((4 : Int) - x2.toInt).toNat < N → (∃ z, l_X3_isName__n7_39 bs fr N x2 = Sum.inl z ∧ ∀ i : Int32, x2.toInt ≤ i.toInt → i.toInt < 4 → bs (fr + i).toNatClampNeg = kch 7 i.toNatClampNeg) ∨ (l_X3_isName__n7_39 bs fr N x2 = Sum.inr 0 ∧ ∃ i : Int32, x2.toInt ≤ i.toInt ∧ i.toInt < 4 ∧ ¬ bs (fr + i).toNatClampNeg = kch 7 i.toNatClampNeg) := by
  intro N
  induction N with
  | zero => intro x2 _ _ h; exact absurd h (Nat.not_lt_zero _)
  | succ N ih =>
    intro x2 h0 h1 hN
    rw [l_X3_isName__n7_39]
    by_cases c : (4 : Int32) ≤ x2
    · rw [if_pos c]
      have c' := i32_le.mp c
      rw [show (4 : Int32).toInt = 4 from rfl] at c'
      exact .inl ⟨_, rfl, fun i i0 i1 => by omega⟩
    · rw [if_neg c]
      have hs := cnt_step (B := 4) h0 (by decide) (by decide) c
      have e1 := i32_add1 (i := x2) (by omega)
      by_cases d : bs (fr + x2).toNatClampNeg = kch 7 x2.toNatClampNeg
      · rw [if_pos d]
        rcases ih (x2 + 1) hs.1 hs.2.1 (by omega) with ⟨z, e, q⟩ | ⟨e, i, i0, i1, q⟩
        · refine .inl ⟨z, e, fun i i0 i1 => ?_⟩
          by_cases w : i = x2
          · rw [w]; exact d
          · have w' : ¬ i.toInt = x2.toInt := fun g => w (i32_eq.mpr g)
            exact q i (by omega) i1
        · exact .inr ⟨e, i, by omega, i1, q⟩
      · rw [if_neg d]
        exact .inr ⟨rfl, x2, Int.le_refl _, hs.2.2.2, d⟩
theorem nm_7 {bs : Nat → Int32} {tz so fr tt : Int32} : (¬ f_X3_isName__n7 bs tz so fr tt = 0) ↔ (so = 1 ∧ tt - fr = 4 ∧ tt ≤ tz ∧ ∀ i : Int32, 0 ≤ i.toInt → i.toInt < 4 → bs (fr + i).toNatClampNeg = kch 7 i.toNatClampNeg) := by
  unfold f_X3_isName__n7
  by_cases c1 : so = 1
  · rw [if_pos c1]
    by_cases c2 : tt - fr = 4
    · rw [if_pos c2]
      by_cases c3 : tt ≤ tz
      · rw [if_pos c3]
        rcases nmL_7 (bs := bs) (fr := fr) 300 0 (by decide) (by decide) (by decide) with ⟨z, e, q⟩ | ⟨e, i, i0, i1, q⟩
        · rw [e, sm_inl, pr1_mk]; exact ⟨fun _ => ⟨c1, c2, c3, q⟩, fun _ => one_nz⟩
        · rw [e, sm_inr]; exact ⟨fun w => absurd rfl w, fun w => absurd (w.2.2.2 i i0 i1) q⟩
      · rw [if_neg c3]; exact ⟨fun w => absurd rfl w, fun w => absurd w.2.2.1 c3⟩
    · rw [if_neg c2]; exact ⟨fun w => absurd rfl w, fun w => absurd w.2.1 c2⟩
  · rw [if_neg c1]; exact ⟨fun w => absurd rfl w, fun w => absurd w.1 c1⟩
theorem nmL_8 {bs : Nat → Int32} {fr : Int32} : ∀ (N : Nat) (x2 : Int32), 0 ≤ x2.toInt → x2.toInt ≤ 5 → ((5 : Int) - x2.toInt).toNat < N → (∃ z, l_X3_isName__n8_39 bs fr N x2 = Sum.inl z ∧ ∀ i : Int32, x2.toInt ≤ i.toInt → i.toInt < 5 → bs (fr + i).toNatClampNeg = kch 8 i.toNatClampNeg) ∨ (l_X3_isName__n8_39 bs fr N x2 = Sum.inr 0 ∧ ∃ i : Int32, x2.toInt ≤ i.toInt ∧ i.toInt < 5 ∧ ¬ bs (fr + i).toNatClampNeg = kch 8 i.toNatClampNeg) := by
  intro N
  induction N with
  | zero => intro x2 _ _ h; exact absurd h (Nat.not_lt_zero _)
  | succ N ih =>
    intro x2 h0 h1 hN
    rw [l_X3_isName__n8_39]
    by_cases c : (5 : Int32) ≤ x2
    · rw [if_pos c]
      have c' := i32_le.mp c
      rw [show (5 : Int32).toInt = 5 from rfl] at c'
      exact .inl ⟨_, rfl, fun i i0 i1 => by omega⟩
    · rw [if_neg c]
      have hs := cnt_step (B := 5) h0 (by decide) (by decide) c
      have e1 := i32_add1 (i := x2) (by omega)
      by_cases d : bs (fr + x2).toNatClampNeg = kch 8 x2.toNatClampNeg
      · rw [if_pos d]
        rcases ih (x2 + 1) hs.1 hs.2.1 (by omega) with ⟨z, e, q⟩ | ⟨e, i, i0, i1, q⟩
        · refine .inl ⟨z, e, fun i i0 i1 => ?_⟩
          by_cases w : i = x2
          · rw [w]; exact d
          · have w' : ¬ i.toInt = x2.toInt := fun g => w (i32_eq.mpr g)
            exact q i (by omega) i1
        · exact .inr ⟨e, i, by omega, i1, q⟩
      · rw [if_neg d]
        exact .inr ⟨rfl, x2, Int.le_refl _, hs.2.2.2, d⟩
theorem nm_8 {bs : Nat → Int32} {tz so fr tt : Int32} : (¬ f_X3_isName__n8 bs tz so fr tt = 0) ↔ (so = 1 ∧ tt - fr = 5 ∧ tt ≤ tz ∧ ∀ i : Int32, 0 ≤ i.toInt → i.toInt < 5 → bs (fr + i).toNatClampNeg = kch 8 i.toNatClampNeg) := by
  unfold f_X3_isName__n8
  by_cases c1 : so = 1
  · rw [if_pos c1]
    by_cases c2 : tt - fr = 5
    · rw [if_pos c2]
      by_cases c3 : tt ≤ tz
      · rw [if_pos c3]
        rcases nmL_8 (bs := bs) (fr := fr) 300 0 (by decide) (by decide) (by decide) with ⟨z, e, q⟩ | ⟨e, i, i0, i1, q⟩
        · rw [e, sm_inl, pr1_mk]; exact ⟨fun _ => ⟨c1, c2, c3, q⟩, fun _ => one_nz⟩
        · rw [e, sm_inr]; exact ⟨fun w => absurd rfl w, fun w => absurd (w.2.2.2 i i0 i1) q⟩
      · rw [if_neg c3]; exact ⟨fun w => absurd rfl w, fun w => absurd w.2.2.1 c3⟩
    · rw [if_neg c2]; exact ⟨fun w => absurd rfl w, fun w => absurd w.2.1 c2⟩
  · rw [if_neg c1]; exact ⟨fun w => absurd rfl w, fun w => absurd w.1 c1⟩
theorem nmL_9 {bs : Nat → Int32} {fr : Int32} : ∀ (N : Nat) (x2 : Int32), 0 ≤ x2.toInt → x2.toInt ≤ 5 → ((5 : Int) - x2.toInt).toNat < N → (∃ z, l_X3_isName__n9_39 bs fr N x2 = Sum.inl z ∧ ∀ i : Int32, x2.toInt ≤ i.toInt → i.toInt < 5 → bs (fr + i).toNatClampNeg = kch 9 i.toNatClampNeg) ∨ (l_X3_isName__n9_39 bs fr N x2 = Sum.inr 0 ∧ ∃ i : Int32, x2.toInt ≤ i.toInt ∧ i.toInt < 5 ∧ ¬ bs (fr + i).toNatClampNeg = kch 9 i.toNatClampNeg) := by
  intro N
  induction N with
  | zero => intro x2 _ _ h; exact absurd h (Nat.not_lt_zero _)
  | succ N ih =>
    intro x2 h0 h1 hN
    rw [l_X3_isName__n9_39]
    by_cases c : (5 : Int32) ≤ x2
    · rw [if_pos c]
      have c' := i32_le.mp c
      rw [show (5 : Int32).toInt = 5 from rfl] at c'
      exact .inl ⟨_, rfl, fun i i0 i1 => by omega⟩
    · rw [if_neg c]
      have hs := cnt_step (B := 5) h0 (by decide) (by decide) c
      have e1 := i32_add1 (i := x2) (by omega)
      by_cases d : bs (fr + x2).toNatClampNeg = kch 9 x2.toNatClampNeg
      · rw [if_pos d]
        rcases ih (x2 + 1) hs.1 hs.2.1 (by omega) with ⟨z, e, q⟩ | ⟨e, i, i0, i1, q⟩
        · refine .inl ⟨z, e, fun i i0 i1 => ?_⟩
          by_cases w : i = x2
          · rw [w]; exact d
          · have w' : ¬ i.toInt = x2.toInt := fun g => w (i32_eq.mpr g)
            exact q i (by omega) i1
        · exact .inr ⟨e, i, by omega, i1, q⟩
      · rw [if_neg d]
        exact .inr ⟨rfl, x2, Int.le_refl _, hs.2.2.2, d⟩
theorem nm_9 {bs : Nat → Int32} {tz so fr tt : Int32} : (¬ f_X3_isName__n9 bs tz so fr tt = 0) ↔ (so = 1 ∧ tt - fr = 5 ∧ tt ≤ tz ∧ ∀ i : Int32, 0 ≤ i.toInt → i.toInt < 5 → bs (fr + i).toNatClampNeg = kch 9 i.toNatClampNeg) := by
  unfold f_X3_isName__n9
  by_cases c1 : so = 1
  · rw [if_pos c1]
    by_cases c2 : tt - fr = 5
    · rw [if_pos c2]
      by_cases c3 : tt ≤ tz
      · rw [if_pos c3]
        rcases nmL_9 (bs := bs) (fr := fr) 300 0 (by decide) (by decide) (by decide) with ⟨z, e, q⟩ | ⟨e, i, i0, i1, q⟩
        · rw [e, sm_inl, pr1_mk]; exact ⟨fun _ => ⟨c1, c2, c3, q⟩, fun _ => one_nz⟩
        · rw [e, sm_inr]; exact ⟨fun w => absurd rfl w, fun w => absurd (w.2.2.2 i i0 i1) q⟩
      · rw [if_neg c3]; exact ⟨fun w => absurd rfl w, fun w => absurd w.2.2.1 c3⟩
    · rw [if_neg c2]; exact ⟨fun w => absurd rfl w, fun w => absurd w.2.1 c2⟩
  · rw [if_neg c1]; exact ⟨fun w => absurd rfl w, fun w => absurd w.1 c1⟩
theorem nmL_10 {bs : Nat → Int32} {fr : Int32} : ∀ (N : Nat) (x2 : Int32), 0 ≤ x2.toInt → x2.toInt ≤ 2 → ((2 : Int) - x2.toInt).toNat < N → (∃ z, l_X3_isName__n10_39 bs fr N x2 = Sum.inl z ∧ ∀ i : Int32, x2.toInt ≤ i.toInt → i.toInt < 2 → bs (fr + i).toNatClampNeg = kch 10 i.toNatClampNeg) ∨ (l_X3_isName__n10_39 bs fr N x2 = Sum.inr 0 ∧ ∃ i : Int32, x2.toInt ≤ i.toInt ∧ i.toInt < 2 ∧ ¬ bs (fr + i).toNatClampNeg = kch 10 i.toNatClampNeg) := by
  intro N
  induction N with
  | zero => intro x2 _ _ h; exact absurd h (Nat.not_lt_zero _)
  | succ N ih =>
    intro x2 h0 h1 hN
    rw [l_X3_isName__n10_39]
    by_cases c : (2 : Int32) ≤ x2
    · rw [if_pos c]
      have c' := i32_le.mp c
      rw [show (2 : Int32).toInt = 2 from rfl] at c'
      exact .inl ⟨_, rfl, fun i i0 i1 => by omega⟩
    · rw [if_neg c]
      have hs := cnt_step (B := 2) h0 (by decide) (by decide) c
      have e1 := i32_add1 (i := x2) (by omega)
      by_cases d : bs (fr + x2).toNatClampNeg = kch 10 x2.toNatClampNeg
      · rw [if_pos d]
        rcases ih (x2 + 1) hs.1 hs.2.1 (by omega) with ⟨z, e, q⟩ | ⟨e, i, i0, i1, q⟩
        · refine .inl ⟨z, e, fun i i0 i1 => ?_⟩
          by_cases w : i = x2
          · rw [w]; exact d
          · have w' : ¬ i.toInt = x2.toInt := fun g => w (i32_eq.mpr g)
            exact q i (by omega) i1
        · exact .inr ⟨e, i, by omega, i1, q⟩
      · rw [if_neg d]
        exact .inr ⟨rfl, x2, Int.le_refl _, hs.2.2.2, d⟩
theorem nm_10 {bs : Nat → Int32} {tz so fr tt : Int32} : (¬ f_X3_isName__n10 bs tz so fr tt = 0) ↔ (so = 1 ∧ tt - fr = 2 ∧ tt ≤ tz ∧ ∀ i : Int32, 0 ≤ i.toInt → i.toInt < 2 → bs (fr + i).toNatClampNeg = kch 10 i.toNatClampNeg) := by
  unfold f_X3_isName__n10
  by_cases c1 : so = 1
  · rw [if_pos c1]
    by_cases c2 : tt - fr = 2
    · rw [if_pos c2]
      by_cases c3 : tt ≤ tz
      · rw [if_pos c3]
        rcases nmL_10 (bs := bs) (fr := fr) 300 0 (by decide) (by decide) (by decide) with ⟨z, e, q⟩ | ⟨e, i, i0, i1, q⟩
        · rw [e, sm_inl, pr1_mk]; exact ⟨fun _ => ⟨c1, c2, c3, q⟩, fun _ => one_nz⟩
        · rw [e, sm_inr]; exact ⟨fun w => absurd rfl w, fun w => absurd (w.2.2.2 i i0 i1) q⟩
      · rw [if_neg c3]; exact ⟨fun w => absurd rfl w, fun w => absurd w.2.2.1 c3⟩
    · rw [if_neg c2]; exact ⟨fun w => absurd rfl w, fun w => absurd w.2.1 c2⟩
  · rw [if_neg c1]; exact ⟨fun w => absurd rfl w, fun w => absurd w.1 c1⟩
theorem nmL_11 {bs : Nat → Int32} {fr : Int32} : ∀ (N : Nat) (x2 : Int32), 0 ≤ x2.toInt → x2.toInt ≤ 4 → ((4 : Int) - x2.toInt).toNat < N → (∃ z, l_X3_isName__n11_39 bs fr N x2 = Sum.inl z ∧ ∀ i : Int32, x2.toInt ≤ i.toInt → i.toInt < 4 → bs (fr + i).toNatClampNeg = kch 11 i.toNatClampNeg) ∨ (l_X3_isName__n11_39 bs fr N x2 = Sum.inr 0 ∧ ∃ i : Int32, x2.toInt ≤ i.toInt ∧ i.toInt < 4 ∧ ¬ bs (fr + i).toNatClampNeg = kch 11 i.toNatClampNeg) := by
  intro N
  induction N with
  | zero => intro x2 _ _ h; exact absurd h (Nat.not_lt_zero _)
  | succ N ih =>
    intro x2 h0 h1 hN
    rw [l_X3_isName__n11_39]
    by_cases c : (4 : Int32) ≤ x2
    · rw [if_pos c]
      have c' := i32_le.mp c
      rw [show (4 : Int32).toInt = 4 from rfl] at c'
      exact .inl ⟨_, rfl, fun i i0 i1 => by omega⟩
    · rw [if_neg c]
      have hs := cnt_step (B := 4) h0 (by decide) (by decide) c
      have e1 := i32_add1 (i := x2) (by omega)
      by_cases d : bs (fr + x2).toNatClampNeg = kch 11 x2.toNatClampNeg
      · rw [if_pos d]
        rcases ih (x2 + 1) hs.1 hs.2.1 (by omega) with ⟨z, e, q⟩ | ⟨e, i, i0, i1, q⟩
        · refine .inl ⟨z, e, fun i i0 i1 => ?_⟩
          by_cases w : i = x2
          · rw [w]; exact d
          · have w' : ¬ i.toInt = x2.toInt := fun g => w (i32_eq.mpr g)
            exact q i (by omega) i1
        · exact .inr ⟨e, i, by omega, i1, q⟩
      · rw [if_neg d]
        exact .inr ⟨rfl, x2, Int.le_refl _, hs.2.2.2, d⟩
theorem nm_11 {bs : Nat → Int32} {tz so fr tt : Int32} : (¬ f_X3_isName__n11 bs tz so fr tt = 0) ↔ (so = 1 ∧ tt - fr = 4 ∧ tt ≤ tz ∧ ∀ i : Int32, 0 ≤ i.toInt → i.toInt < 4 → bs (fr + i).toNatClampNeg = kch 11 i.toNatClampNeg) := by
  unfold f_X3_isName__n11
  by_cases c1 : so = 1
  · rw [if_pos c1]
    by_cases c2 : tt - fr = 4
    · rw [if_pos c2]
      by_cases c3 : tt ≤ tz
      · rw [if_pos c3]
        rcases nmL_11 (bs := bs) (fr := fr) 300 0 (by decide) (by decide) (by decide) with ⟨z, e, q⟩ | ⟨e, i, i0, i1, q⟩
        · rw [e, sm_inl, pr1_mk]; exact ⟨fun _ => ⟨c1, c2, c3, q⟩, fun _ => one_nz⟩
        · rw [e, sm_inr]; exact ⟨fun w => absurd rfl w, fun w => absurd (w.2.2.2 i i0 i1) q⟩
      · rw [if_neg c3]; exact ⟨fun w => absurd rfl w, fun w => absurd w.2.2.1 c3⟩
    · rw [if_neg c2]; exact ⟨fun w => absurd rfl w, fun w => absurd w.2.1 c2⟩
  · rw [if_neg c1]; exact ⟨fun w => absurd rfl w, fun w => absurd w.1 c1⟩
theorem nmL_12 {bs : Nat → Int32} {fr : Int32} : ∀ (N : Nat) (x2 : Int32), 0 ≤ x2.toInt → x2.toInt ≤ 5 → ((5 : Int) - x2.toInt).toNat < N → (∃ z, l_X3_isName__n12_39 bs fr N x2 = Sum.inl z ∧ ∀ i : Int32, x2.toInt ≤ i.toInt → i.toInt < 5 → bs (fr + i).toNatClampNeg = kch 12 i.toNatClampNeg) ∨ (l_X3_isName__n12_39 bs fr N x2 = Sum.inr 0 ∧ ∃ i : Int32, x2.toInt ≤ i.toInt ∧ i.toInt < 5 ∧ ¬ bs (fr + i).toNatClampNeg = kch 12 i.toNatClampNeg) := by
  intro N
  induction N with
  | zero => intro x2 _ _ h; exact absurd h (Nat.not_lt_zero _)
  | succ N ih =>
    intro x2 h0 h1 hN
    rw [l_X3_isName__n12_39]
    by_cases c : (5 : Int32) ≤ x2
    · rw [if_pos c]
      have c' := i32_le.mp c
      rw [show (5 : Int32).toInt = 5 from rfl] at c'
      exact .inl ⟨_, rfl, fun i i0 i1 => by omega⟩
    · rw [if_neg c]
      have hs := cnt_step (B := 5) h0 (by decide) (by decide) c
      have e1 := i32_add1 (i := x2) (by omega)
      by_cases d : bs (fr + x2).toNatClampNeg = kch 12 x2.toNatClampNeg
      · rw [if_pos d]
        rcases ih (x2 + 1) hs.1 hs.2.1 (by omega) with ⟨z, e, q⟩ | ⟨e, i, i0, i1, q⟩
        · refine .inl ⟨z, e, fun i i0 i1 => ?_⟩
          by_cases w : i = x2
          · rw [w]; exact d
          · have w' : ¬ i.toInt = x2.toInt := fun g => w (i32_eq.mpr g)
            exact q i (by omega) i1
        · exact .inr ⟨e, i, by omega, i1, q⟩
      · rw [if_neg d]
        exact .inr ⟨rfl, x2, Int.le_refl _, hs.2.2.2, d⟩
theorem nm_12 {bs : Nat → Int32} {tz so fr tt : Int32} : (¬ f_X3_isName__n12 bs tz so fr tt = 0) ↔ (so = 1 ∧ tt - fr = 5 ∧ tt ≤ tz ∧ ∀ i : Int32, 0 ≤ i.toInt → i.toInt < 5 → bs (fr + i).toNatClampNeg = kch 12 i.toNatClampNeg) := by
  unfold f_X3_isName__n12
  by_cases c1 : so = 1
  · rw [if_pos c1]
    by_cases c2 : tt - fr = 5
    · rw [if_pos c2]
      by_cases c3 : tt ≤ tz
      · rw [if_pos c3]
        rcases nmL_12 (bs := bs) (fr := fr) 300 0 (by decide) (by decide) (by decide) with ⟨z, e, q⟩ | ⟨e, i, i0, i1, q⟩
        · rw [e, sm_inl, pr1_mk]; exact ⟨fun _ => ⟨c1, c2, c3, q⟩, fun _ => one_nz⟩
        · rw [e, sm_inr]; exact ⟨fun w => absurd rfl w, fun w => absurd (w.2.2.2 i i0 i1) q⟩
      · rw [if_neg c3]; exact ⟨fun w => absurd rfl w, fun w => absurd w.2.2.1 c3⟩
    · rw [if_neg c2]; exact ⟨fun w => absurd rfl w, fun w => absurd w.2.1 c2⟩
  · rw [if_neg c1]; exact ⟨fun w => absurd rfl w, fun w => absurd w.1 c1⟩
