/-! odds and hope; the tape is fed -/
theorem gcd_st (a b : Nat) : Nat.gcd a b = Nat.gcd b (a % b) := by
  rw [Nat.gcd_comm a b, Nat.gcd_rec b a, Nat.gcd_comm (a % b) b]
theorem rem_nat {x y : Int64} {a b : Nat} (hx : x.toInt = a) (hy : y.toInt = b) (hb : 0 < b) : (x - x / y * y).toInt = ((a % b : Nat) : Int) := by
  rw [i64_rem (by omega) (by omega), hx, hy]
  rfl
theorem lc0 {x : Int64} {b : Nat} (hx : x.toInt = b) : lg_cmp x 0 = 0 ↔ b = 0 := by
  rw [lgc_eq, ← Int64.toInt_inj, hx, show (0 : Int64).toInt = 0 from rfl]
  omega
theorem gdL : ∀ (j N : Nat) (x0 x2 : Int64) (x4 : Int32) (a b : Nat), x0.toInt = a → x2.toInt = b → b < 2 ^ j → 0 ≤ x4.toInt → x4.toInt + 2 * j ≤ 200 → 2 * j < N → (l_X5_greatestDivisor_3 N x0 x2 x4).1.toInt = (Nat.gcd a b : Nat) := by
  have e200 : (200 : Int32).toInt = 200 := rfl
  have stop : ∀ (N : Nat) (x0 x2 : Int64) (x4 : Int32), lg_cmp x2 0 = 0 → (l_X5_greatestDivisor_3 (N + 1) x0 x2 x4).1 = x0 := fun N x0 x2 x4 h => by
    rw [l_X5_greatestDivisor_3, if_pos h]
    split <;> rfl
  intro j
  induction j with
  | zero =>
    intro N x0 x2 x4 a b ha hb hj _ _ hN
    obtain ⟨N', rfl⟩ : ∃ M, N = M + 1 := ⟨N - 1, by omega⟩
    have b0 : b = 0 := by rw [Nat.pow_zero] at hj; omega
    rw [stop N' x0 x2 x4 ((lc0 hb).mpr b0), b0, Nat.gcd_zero_right]
    exact ha
  | succ j ih =>
    intro N x0 x2 x4 a b ha hb hj h0 h4 hN
    obtain ⟨N', rfl⟩ : ∃ M, N = M + 1 + 1 := ⟨N - 2, by omega⟩
    by_cases b0 : b = 0
    · rw [stop (N' + 1) x0 x2 x4 ((lc0 hb).mpr b0), b0, Nat.gcd_zero_right]
      exact ha
    · have hr := rem_nat ha hb (by omega)
      have e1 := i32_add1 (i := x4) (by omega)
      have e2 := i32_add1 (i := x4 + 1) (by omega)
      rw [l_X5_greatestDivisor_3, if_neg (by rw [i32_le, e200]; omega), if_neg (fun q => b0 ((lc0 hb).mp q)), gcd_st]
      have hlt : a % b < b := Nat.mod_lt _ (by omega)
      by_cases r0 : a % b = 0
      · rw [stop N' _ _ _ ((lc0 hr).mpr r0), r0, Nat.gcd_zero_right]
        exact hb
      · have hr2 := rem_nat hb hr (by omega)
        rw [l_X5_greatestDivisor_3, if_neg (by rw [i32_le, e200]; omega), if_neg (fun q => r0 ((lc0 hr).mp q)), gcd_st]
        have hlt2 : b % (a % b) < a % b := Nat.mod_lt _ (by omega)
        have hdm := Nat.div_add_mod b (a % b)
        have hq : 1 ≤ b / (a % b) := (Nat.one_le_div_iff (by omega)).mpr (by omega)
        have hm : a % b * 1 ≤ a % b * (b / (a % b)) := Nat.mul_le_mul_left _ hq
        refine ih N' _ _ _ _ _ hr hr2 ?_ (by omega) (by omega) (by omega)
        rw [Nat.pow_succ] at hj
        omega
theorem mgL : ∀ (N : Nat) (x5 x7 : Int64) (a b : Nat), x5.toInt = a → x7.toInt = b → b < N → (l_X6_partOf_6 N x5 x7).1.toInt = (Nat.gcd a b : Nat) := by
  intro N
  induction N with
  | zero => intro x5 x7 a b _ _ h; exact absurd h (Nat.not_lt_zero _)
  | succ N ih =>
    intro x5 x7 a b ha hb hN
    rw [l_X6_partOf_6]
    by_cases b0 : b = 0
    · rw [if_pos ((lc0 hb).mpr b0), b0, Nat.gcd_zero_right]; exact ha
    · rw [if_neg (fun q => b0 ((lc0 hb).mp q)), gcd_st]
      exact ih _ _ _ _ hb (rem_nat ha hb (by omega)) (by have := Nat.mod_lt a (show 0 < b by omega); omega)
theorem part_eq {x0 x2 : Int64} {x4 : Int32} (h0 : 0 ≤ x0.toInt) (h2 : 0 < x2.toInt) : f_X5_partOf x0 x2 x4 = f_X6_partOf x0 x2 x4 := by
  obtain ⟨a, ha⟩ := Int.eq_ofNat_of_zero_le h0
  obtain ⟨b, hb⟩ := Int.eq_ofNat_of_zero_le (Int.le_of_lt h2)
  have l0 := Int64.toInt_lt x0
  have l2 := Int64.toInt_lt x2
  have p63 : (2 : Nat) ^ 63 = 9223372036854775808 := rfl
  have g1 := gdL 63 300 x0 x2 0 a b ha hb (by omega) (by decide) (by decide) (by decide)
  have g2 := mgL 9223372036854775809 x2 x0 b a hb ha (by omega)
  rw [Nat.gcd_comm] at g2
  have hg : 0 < Nat.gcd a b := Nat.gcd_pos_of_pos_right _ (by omega)
  unfold f_X5_partOf f_X6_partOf f_X5_greatestDivisor
  generalize l_X5_greatestDivisor_3 300 x0 x2 0 = p at g1 ⊢
  obtain ⟨p0, p1, p2⟩ := p
  generalize l_X6_partOf_6 9223372036854775809 x2 x0 = q at g2 ⊢
  obtain ⟨q0, q1⟩ := q
  have g1' : p0.toInt = (Nat.gcd a b : Nat) := g1
  have g2' : q0.toInt = (Nat.gcd a b : Nat) := g2
  have e : q0 = p0 := Int64.toInt_inj.mp (by rw [g1', g2'])
  rw [pr3_mk, pr2_mk, pr1_mk, e, if_neg (fun w => by have := (lc0 g1').mp w; omega)]
  by_cases c : x4 = 0
  · rw [if_pos c, if_pos c]
  · rw [if_neg c, if_neg c]
theorem bin_eq {x y : Int32} (h : 0 ≤ x.toInt ∧ x.toInt ≤ 8) (h2 : 0 ≤ y.toInt ∧ y.toInt ≤ x.toInt) : (l_X5_odds_41 x y 300 1 1).1 = f_X6_product x / f_X6_product y / f_X6_product (x - y) := by
  obtain ⟨m, e1, q1⟩ := ofI (x := x) (B := 9) h.1 (by omega)
  obtain ⟨n, e2, q2⟩ := ofI (x := y) (B := 9) h2.1 (by omega)
  have t := bin_eqT m n (by show n.val ≤ m.val; omega)
  rw [← e1, ← e2] at t
  exact t
theorem oddsL {lw s : Nat → Int32} {x1 x2 : Int32} (e : s 9 = lw 3) : ∀ (N : Nat) (x4 x6 : Int64) (x8 : Int32), l_X5_odds_72 lw x1 x2 N x4 x6 x8 = l_X6_odds_61 s x1 x2 N x4 x6 x8 := by
  intro N
  induction N with
  | zero => intro x4 x6 x8; rw [l_X5_odds_72, l_X6_odds_61]
  | succ N ih =>
    intro x4 x6 x8
    rw [l_X5_odds_72, l_X6_odds_61, e]
    by_cases c : x1 ≤ x8
    · rw [if_pos c, if_pos c]
    · rw [if_neg c, if_neg c, pr1_mk, pr1_mk]; exact ih _ _ _
theorem oddsB {s : Nat → Int32} {x1 x2 : Int32} (hc : 0 ≤ (s 9).toInt ∧ (s 9).toInt ≤ 99) (h1 : x1.toInt ≤ 8) : ∀ (N : Nat) (x4 : Int64) (x8 : Int32), 0 ≤ x8.toInt → x8.toInt ≤ 8 → 0 ≤ x4.toInt ∧ x4.toInt ≤ 70 * (p100 x8).toInt → 0 ≤ (l_X6_odds_61 s x1 x2 N x4 (p100 x8) x8).1.toInt ∧ 0 < (l_X6_odds_61 s x1 x2 N x4 (p100 x8) x8).2.1.toInt := by
  intro N
  induction N with
  | zero => intro x4 x8 _ _ h; rw [l_X6_odds_61]; exact ⟨h.1, p100_pos⟩
  | succ N ih =>
    intro x4 x8 h0 h8 h
    rw [l_X6_odds_61]
    by_cases c : x1 ≤ x8
    · rw [if_pos c]; exact ⟨h.1, p100_pos⟩
    · have c' := mt i32_le.mpr c
      have hv : vp_in x8 8 := vpI h0 (by omega)
      have e1 := i32_add1 (i := x8) (by omega)
      rw [if_neg c, pr1_mk, p100_step hv]
      refine ih _ _ (by omega) (by omega) ?_
      by_cases d : x2 ≤ x8
      · rw [if_pos d]; exact (ab_step hv h (odd_d hc)).2
      · rw [if_neg d]; exact (ab_step hv h (odd_c hc)).2
section PU18
variable {lw kd bt ph cn no s : Nat → Int32} {ct sc rn lg dn zz : Int32}
theorem e_odds (h : RT lw kd bt ph cn no ct sc rn lg dn zz s) (x1 x2 x3 : Int32) : f_X5_odds lw x1 x2 x3 = f_X6_odds s x1 x2 x3 := by
  have e9 : s 9 = lw 3 := h.2.1.2.2.2
  have hc := h.2.2.2.2.2.1
  rw [← e9] at hc
  unfold f_X5_odds f_X6_odds
  rw [isin_eq (x := x1) (l := 0) (h := 8) rfl rfl, isin_eq (x := x2) (l := 0) (h := x1) rfl (Int32.toInt_toInt64 _), isin_eq (x := x3) (l := 0) (h := 1) rfl rfl]
  by_cases c1 : f_X5_isIn x1 0 8 = 0
  · rw [if_pos c1, if_pos c1]
  · rw [if_neg c1, if_neg c1]
    by_cases c2 : f_X5_isIn x2 0 x1 = 0
    · rw [if_pos c2, if_pos c2]
    · rw [if_neg c2, if_neg c2]
      by_cases c3 : f_X5_isIn x3 0 1 = 0
      · rw [if_pos c3, if_pos c3]
      · rw [if_neg c3, if_neg c3]
        have a1 := in_isIn c1
        have a2 := in_isIn c2
        rw [z0I, show (8 : Int32).toInt = 8 from rfl] at a1
        rw [z0I] at a2
        have hb := bin_eq a1 a2
        have hB := (bin_of (x := x1) (y := x2) (by rw [isin_eq (x := x1) (l := 0) (h := 8) rfl rfl]; exact c1) (by rw [isin_eq (x := x2) (l := 0) (h := x1) rfl (Int32.toInt_toInt64 _)]; exact c2)).2.2.2
        rw [← hb] at hB
        rw [← hb]
        generalize l_X5_odds_41 x1 x2 300 1 1 = p at hB ⊢
        obtain ⟨p0, p1⟩ := p
        rw [pr2_mk, oddsL e9]
        have hp0 : (1 : Int64) = p100 0 := by decide
        have ho := oddsB (x1 := x1) (x2 := x2) hc a1.2 300 p0 0 (by decide) (by decide) ⟨hB.1, by rw [show (p100 0).toInt = 1 from by decide]; have h2 : p0.toInt ≤ 70 := hB.2; omega⟩
        rw [← hp0] at ho
        show pr3 (l_X6_odds_61 s x1 x2 300 p0 1 0) _ = pr3 (l_X6_odds_61 s x1 x2 300 p0 1 0) _
        generalize l_X6_odds_61 s x1 x2 300 p0 1 0 = q at ho ⊢
        obtain ⟨q0, q1, q2⟩ := q
        rw [pr3_mk, pr3_mk]
        exact part_eq ho.1 ho.2
theorem e_hope (h : RT lw kd bt ph cn no ct sc rn lg dn zz s) (x1 x2 : Int32) : f_X5_hope lw x1 x2 = f_X6_hope s x1 x2 := by
  have e9 : s 9 = lw 3 := h.2.1.2.2.2
  have hc := h.2.2.2.2.2.1
  unfold f_X5_hope f_X6_hope
  rw [isin_eq (x := x1) (l := 0) (h := 99) rfl rfl, isin_eq (x := x2) (l := 0) (h := 1) rfl rfl, e9]
  by_cases c1 : f_X5_isIn x1 0 99 = 0
  · rw [if_pos c1, if_pos c1]
  · rw [if_neg c1, if_neg c1]
    by_cases c2 : f_X5_isIn x2 0 1 = 0
    · rw [if_pos c2, if_pos c2]
    · rw [if_neg c2, if_neg c2]
      have a1 := in_isIn c1
      rw [z0I, show (99 : Int32).toInt = 99 from rfl] at a1
      have b0 : 0 ≤ x1.toInt * (lw 3).toInt := Int.mul_nonneg a1.1 hc.1
      have b1 : x1.toInt * (lw 3).toInt ≤ 99 * 99 := Int.mul_le_mul a1.2 hc.2 hc.1 (by decide)
      have m1 : (x1 * lw 3).toInt = x1.toInt * (lw 3).toInt := i32_mulE (by omega) (by omega)
      have m2 : (x1.toInt64 * (lw 3).toInt64).toInt = x1.toInt * (lw 3).toInt := by
        rw [i64_mulE (by rw [Int32.toInt_toInt64, Int32.toInt_toInt64]; omega) (by rw [Int32.toInt_toInt64, Int32.toInt_toInt64]; omega), Int32.toInt_toInt64, Int32.toInt_toInt64]
      have e : (x1 * lw 3).toInt64 = x1.toInt64 * (lw 3).toInt64 := Int64.toInt_inj.mp (by rw [Int32.toInt_toInt64, m1, m2])
      rw [← e]
      exact part_eq (by rw [Int32.toInt_toInt64, m1]; exact b0) (by decide)
end PU18
/-- the tape -/
def RTp (bs mtp : Nat → Int32) (tz : Int32) : Prop := (0 ≤ tz.toInt ∧ tz.toInt ≤ 200) ∧ ∀ k : Nat, (k : Int) < tz.toInt → bs k = mtp k ∧ 0 ≤ (mtp k).toInt ∧ (mtp k).toInt ≤ 255
theorem b255_tab : ∀ i : Fin 32, 8 ≤ i.val → (255#32).getLsbD i.val = false := by decide +kernel
theorem bv_feed (b : BitVec 64) (k : Nat) (hk : k ≤ 56) : (b >>> k).signExtend 32 &&& 255#32 = (b.sshiftRight k).signExtend 32 &&& 255#32 := by
  apply BitVec.eq_of_getLsbD_eq
  intro i hi
  rw [BitVec.getLsbD_and, BitVec.getLsbD_and]
  by_cases h8 : i < 8
  · have e : ((b >>> k).signExtend 32).getLsbD i = ((b.sshiftRight k).signExtend 32).getLsbD i := by
      rw [BitVec.getLsbD_signExtend, BitVec.getLsbD_signExtend, if_pos (by omega), if_pos (by omega), BitVec.getLsbD_ushiftRight, BitVec.getLsbD_sshiftRight, if_pos (by omega)]
      have h : decide (64 ≤ i) = false := decide_eq_false (by omega)
      rw [h]
      simp
    rw [e]
  · rw [b255_tab ⟨i, hi⟩ (by show 8 ≤ i; omega), Bool.and_false, Bool.and_false]
theorem feed_g {x : Int64} {u : UInt64} {v : Int64} {k : Nat} (hu : (u.toBitVec % 64).toNat = k) (hv : (v.toBitVec.smod 64).toNat = k) (hk : k ≤ 56) : ((x.toUInt64 >>> u).toInt64).toInt32 &&& 255 = ((x >>> v) &&& 255).toInt32 := by
  rw [Int64.toInt32_and, show (255 : Int64).toInt32 = 255 from rfl]
  apply Int32.toBitVec_inj.mp
  rw [Int32.toBitVec_and, Int32.toBitVec_and, Int64.toBitVec_toInt32, Int64.toBitVec_toInt32, UInt64.toBitVec_toInt64, UInt64.toBitVec_shiftRight, Int64.toBitVec_shiftRight, Int64.toBitVec_toUInt64, BitVec.ushiftRight_eq', hu]
  unfold BitVec.sshiftRight'
  rw [hv]
  exact bv_feed x.toBitVec k hk
theorem feed_b {x : Int64} {i : Int32} (h : vp_in i 8) : ((((x.toUInt64 >>> (((8 : Int32) * i).toInt64.toUInt64 &&& Int64.toUInt64 63)).toInt64) : Int64).toInt32) &&& 255 = ((((x >>> (((8 : Int32) * i).toInt64 &&& 63)) &&& 255) : Int64).toInt32) := by
  rcases eight_of h with rfl | rfl | rfl | rfl | rfl | rfl | rfl | rfl
  · exact feed_g (k := 0) (by decide) (by decide) (by decide)
  · exact feed_g (k := 8) (by decide) (by decide) (by decide)
  · exact feed_g (k := 16) (by decide) (by decide) (by decide)
  · exact feed_g (k := 24) (by decide) (by decide) (by decide)
  · exact feed_g (k := 32) (by decide) (by decide) (by decide)
  · exact feed_g (k := 40) (by decide) (by decide) (by decide)
  · exact feed_g (k := 48) (by decide) (by decide) (by decide)
  · exact feed_g (k := 56) (by decide) (by decide) (by decide)
theorem and255 (y : Int32) : 0 ≤ (y &&& 255).toInt ∧ (y &&& 255).toInt ≤ 255 := by
  have hb : (y &&& 255).toBitVec.toNat ≤ 255 := by
    rw [Int32.toBitVec_and, BitVec.toNat_and]
    exact Nat.and_le_right
  have e : (y &&& 255).toInt = ((y &&& 255).toBitVec.toNat : Int) := BitVec.toInt_eq_toNat_of_lt (by omega)
  rw [e]
  omega
theorem feedL {x1 : Int64} {x3 : Int32} (h3 : x3.toInt ≤ 8) : ∀ (N : Nat) (x4 tz : Int32) (bs mtp : Nat → Int32), 0 ≤ x4.toInt → x4.toInt ≤ x3.toInt → tz.toInt + (x3.toInt - x4.toInt) ≤ 200 → RTp bs mtp tz → (l_X5_feed_34 x1 x3 N x4 bs tz).2.2 = (l_X6_feed_32 x1 x3 N x4 mtp tz).2.2 ∧ RTp (l_X5_feed_34 x1 x3 N x4 bs tz).2.1 (l_X6_feed_32 x1 x3 N x4 mtp tz).2.1 (l_X6_feed_32 x1 x3 N x4 mtp tz).2.2 := by
  intro N
  induction N with
  | zero => intro x4 tz bs mtp _ _ _ h; rw [l_X5_feed_34, l_X6_feed_32]; exact ⟨rfl, h⟩
  | succ N ih =>
    intro x4 tz bs mtp h0 h1 ht h
    rw [l_X5_feed_34, l_X6_feed_32]
    by_cases c : x3 ≤ x4
    · rw [if_pos c, if_pos c]; exact ⟨rfl, h⟩
    · rw [if_neg c, if_neg c]
      have c' : x4.toInt < x3.toInt := by have := mt i32_le.mpr c; omega
      have e1 := i32_add1 (i := x4) (by omega)
      have e2 := i32_add1 (i := tz) (by omega)
      have ec := cl_nn h.1.1
      unfold f_X3_append
      rw [if_neg (show ¬ (200 : Int32) ≤ tz by rw [i32_le, show (200 : Int32).toInt = 200 from rfl]; omega), pr2_mk, feed_b (vpI h0 (by omega))]
      have hb := and255 ((x1.toUInt64 >>> (((8 : Int32) * x4).toInt64.toUInt64 &&& Int64.toUInt64 63)).toInt64).toInt32
      rw [feed_b (vpI h0 (by omega))] at hb
      refine ih _ _ _ _ (by omega) (by omega) (by omega) ⟨by omega, fun k hk => ?_⟩
      by_cases e : k = tz.toNatClampNeg
      · rw [e, pk_us, pk_us]; exact ⟨rfl, hb⟩
      · rw [pk_un e, pk_un e]; exact h.2 k (by omega)
theorem e_feed {bs mtp : Nat → Int32} {tz : Int32} (h : RTp bs mtp tz) (x1 : Int64) (x3 : Int32) : (f_X5_feed bs tz x1 x3).1 = (f_X6_feed mtp tz x1 x3).1 ∧ (f_X5_feed bs tz x1 x3).2.2 = (f_X6_feed mtp tz x1 x3).2.2 ∧ RTp (f_X5_feed bs tz x1 x3).2.1 (f_X6_feed mtp tz x1 x3).2.1 (f_X6_feed mtp tz x1 x3).2.2 := by
  unfold f_X5_feed f_X6_feed
  rw [isin_eq (x := x3) (l := 1) (h := 8) rfl rfl]
  have e8 : (8 : Int32).toInt = 8 := rfl
  by_cases c1 : x3 < 1
  · have c1' := i32_lt.mp c1
    rw [z1I] at c1'
    rw [if_pos c1, if_pos (isin_n (x := x3) (l := 1) (h := 8) (by rw [z1I]; omega))]; exact ⟨rfl, rfl, h⟩
  · rw [if_neg c1]
    rw [i32_lt, z1I] at c1
    by_cases c2 : x3 ≤ (8 : Int32)
    · have c2' := i32_le.mp c2
      rw [e8] at c2'
      rw [if_pos c2, if_neg (show ¬ f_X5_isIn x3 1 8 = 0 by rw [isin_y ⟨by rw [z1I]; omega, by rw [e8]; omega⟩]; decide)]
      by_cases c3 : tz + x3 ≤ (200 : Int32)
      · have ht := h.1
        have e : (tz + x3).toInt = tz.toInt + x3.toInt := i32_addE (by omega) (by omega)
        have c3' := i32_le.mp c3
        rw [show (200 : Int32).toInt = 200 from rfl] at c3'
        rw [if_pos c3, if_pos c3]
        have hp := feedL (x1 := x1) (x3 := x3) c2' 300 0 tz bs mtp (by decide) (by rw [z0I]; omega) (by rw [z0I]; omega) h
        generalize l_X5_feed_34 x1 x3 300 0 bs tz = p at hp ⊢
        obtain ⟨p0, p1, p2⟩ := p
        generalize l_X6_feed_32 x1 x3 300 0 mtp tz = q at hp ⊢
        obtain ⟨q0, q1, q2⟩ := q
        rw [pr3_mk, pr3_mk]
        exact ⟨hp.1, hp⟩
      · rw [if_neg c3, if_neg c3]; exact ⟨rfl, rfl, h⟩
    · rw [if_neg c2]
      rw [i32_le, e8] at c2
      rw [if_pos (isin_n (x := x3) (l := 1) (h := 8) (by rw [e8]; omega))]; exact ⟨rfl, rfl, h⟩
