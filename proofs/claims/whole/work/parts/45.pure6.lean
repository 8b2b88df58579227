/-! whom to send away -/
theorem len_mono {x1 x2 : Int32} : ∀ (N : Nat) (x3 x4 : Int32) (s : Nat → Int32), x3.toInt ≤ (l_X6_lengthBy_16 x1 x2 N x3 x4 s).1.toInt := by
  intro N
  induction N with
  | zero => intro x3 x4 s; rw [l_X6_lengthBy_16]; exact Int.le_refl _
  | succ N ih =>
    intro x3 x4 s
    rw [l_X6_lengthBy_16]
    by_cases c : x1 ≤ x4
    · rw [if_pos c]; exact Int.le_refl _
    · rw [if_neg c, pr1_mk]
      refine Int.le_trans ?_ (ih _ _ _)
      rw [grt_eq]
      by_cases d : x3 < f_X6_goes s 1 x2 3
      · rw [if_pos d]; rw [i32_lt] at d; omega
      · rw [if_neg d]; exact Int.le_refl _
section PU9
variable {lw kd bt ph cn : Nat → Int32} {ct zz : Int32}
theorem end_run {sc rn lg dn x : Int32} (hr : 0 ≤ rn.toInt ∧ rn.toInt ≤ 9999) : 0 ≤ (f_X4_endSecond lw sc rn lg dn x).2.1.toInt ∧ (f_X4_endSecond lw sc rn lg dn x).2.1.toInt ≤ rn.toInt + 1 := by
  unfold f_X4_endSecond
  simp only [pr1]
  have e := i32_add1 (i := rn) (by omega)
  by_cases c : x = 0
  · rw [if_pos c]
    by_cases d : rn + 1 < (9999 : Int32)
    · rw [if_pos d]; omega
    · rw [if_neg d]
      rw [i32_lt, z9I] at d
      rw [z9I]
      omega
  · rw [if_neg c, z0I]; omega
theorem len_lt {x1 x2 : Int32} {V : Int} : ∀ (N : Nat) (x3 x4 : Int32) (no : Nat → Int32) (sc rn lg dn : Int32) (s : Nat → Int32), RT lw kd bt ph cn no ct sc rn lg dn zz s → 0 ≤ x4.toInt → x4.toInt ≤ x1.toInt → x1.toInt ≤ 60 → x3.toInt < V → rn.toInt + (x1.toInt - x4.toInt) < V → (l_X6_lengthBy_16 x1 x2 N x3 x4 s).1.toInt < V := by
  intro N
  induction N with
  | zero => intro x3 x4 no sc rn lg dn s _ _ _ _ h _; rw [l_X6_lengthBy_16]; exact h
  | succ N ih =>
    intro x3 x4 no sc rn lg dn s h h0 h1 h60 h3 hv
    rw [l_X6_lengthBy_16]
    by_cases c : x1 ≤ x4
    · rw [if_pos c]; exact h3
    · rw [if_neg c, pr1_mk, goes1]
      have hc := mt i32_le.mpr c
      have e1 := i32_add1 (i := x4) (by omega)
      have hp := rt_goesBy (f_X6_sounding s &&& (x2 ^^^ (-1))) h
      have hb := end_run (lw := lw) (sc := sc) (lg := lg) (dn := dn) (x := f_X6_sounding s &&& (x2 ^^^ (-1))) h.2.2.2.1
      generalize f_X4_endSecond lw sc rn lg dn (f_X6_sounding s &&& (x2 ^^^ (-1))) = p at hp hb
      obtain ⟨p0, p1, p2, p3⟩ := p
      have hb' : 0 ≤ p1.toInt ∧ p1.toInt ≤ rn.toInt + 1 := hb
      have e3 : f_X6_goesBy s (f_X6_sounding s &&& (x2 ^^^ (-1))) 3 = p1 := hp.1.2.2.2.1
      refine ih _ _ _ _ _ _ _ _ hp (by omega) (by omega) h60 ?_ (show p1.toInt + (x1.toInt - (x4 + 1).toInt) < V by omega)
      rw [e3, grt_eq]
      by_cases d : x3 < p1
      · rw [if_pos d]; omega
      · rw [if_neg d]; exact h3
theorem quietL {tz x1 x2 x3 : Int32} {tcn tno : Nat → Int32} (hv : 0 ≤ x3.toInt) (g : Int32 × Int32 × Int32 × Int32 × Int32 → T13) (hg : ∀ z, (g z).1 = 0) : ∀ (N : Nat) (x4 m k : Int32) (no : Nat → Int32) (sc rn lg dn : Int32) (s : Nat → Int32), RT lw kd bt ph cn no ct sc rn lg dn zz s → 0 ≤ k.toInt → 0 ≤ x4.toInt → x4.toInt + k.toInt = x2.toInt → x2.toInt ≤ 60 → m.toInt < x3.toInt ∨ k.toInt = 0 ∧ m.toInt = 0 ∧ 0 < x4.toInt → x4.toInt.toNat < N → (sm (l_X5_isQuietWithout_14 lw kd bt ph tcn tno ct tz x1 x3 N x4 sc rn lg dn) g (fun X => X)).1 = if (l_X6_lengthBy_16 x2 x1 N m k s).1 < x3 then (0 : Int32) else (1 : Int32) := by
  intro N
  induction N with
  | zero => intro x4 m k no sc rn lg dn s _ _ _ _ _ _ h; exact absurd h (Nat.not_lt_zero _)
  | succ N ih =>
    intro x4 m k no sc rn lg dn s h k0 h0 hk h60 hm hN
    have hr := h.2.2.2.1
    by_cases c : x4 ≤ 0
    · have c' := i32_le.mp c
      rw [z0I] at c'
      have ck : x2 ≤ k := i32_le.mpr (by omega)
      rw [l_X5_isQuietWithout_14, if_pos c, l_X6_lengthBy_16, if_pos ck, if_pos (show m < x3 by rw [i32_lt]; omega)]
      exact hg _
    · have c' : 0 < x4.toInt := by have := mt i32_le.mpr c; rw [z0I] at this; omega
      have e1 := i32_addE (a := rn) (b := x4) (by omega) (by omega)
      by_cases d : rn + x4 < x3
      · have d' := i32_lt.mp d
        rw [l_X5_isQuietWithout_14, if_neg c, if_pos d, if_pos (i32_lt.mpr (len_lt (x1 := x2) (x2 := x1) (V := x3.toInt) (N + 1) m k no sc rn lg dn s h k0 (by omega) h60 (by omega) (by omega)))]
        exact hg _
      · have ck : ¬ x2 ≤ k := fun q => by have := i32_le.mp q; omega
        have e2 := dn_step c
        have e3 := i32_add1 (i := k) (by omega)
        rw [l_X5_isQuietWithout_14, if_neg c, if_neg d, l_X6_lengthBy_16, if_neg ck, pr1_mk, goes1, rt_sounding h]
        have hp := rt_goesBy (f_X4_soundingSet lw kd bt ph ct sc rn &&& (x1 ^^^ (-1))) h
        have hb := end_run (lw := lw) (sc := sc) (lg := lg) (dn := dn) (x := f_X4_soundingSet lw kd bt ph ct sc rn &&& (x1 ^^^ (-1))) hr
        generalize f_X4_endSecond lw sc rn lg dn (f_X4_soundingSet lw kd bt ph ct sc rn &&& (x1 ^^^ (-1))) = p at hp hb ⊢
        obtain ⟨p0, p1, p2, p3⟩ := p
        have hb' : 0 ≤ p1.toInt ∧ p1.toInt ≤ rn.toInt + 1 := hb
        have e4 : f_X6_goesBy s (f_X4_soundingSet lw kd bt ph ct sc rn &&& (x1 ^^^ (-1))) 3 = p1 := hp.1.2.2.2.1
        rw [pr4_mk, e4, grt_eq]
        by_cases f : p1 < x3
        · have f' := i32_lt.mp f
          rw [if_pos f]
          refine ih _ _ _ _ _ _ _ _ _ hp (show 0 ≤ (k + 1).toInt by clear hb hm; omega) e2.1 (show (x4 + (-1)).toInt + (k + 1).toInt = x2.toInt by clear hb hm; omega) h60 (.inl ?_) (ar_dn e2.2.1 c' hN)
          by_cases q : m < p1
          · rw [if_pos q]; exact f'
          · rw [if_neg q]
            rw [i32_lt] at q
            rcases hm with hm | hm
            · exact hm
            · omega
        · rw [if_neg f, sm_inr]
          have f' : x3.toInt ≤ p1.toInt := by rw [i32_lt] at f; omega
          have hmo := len_mono (x1 := x2) (x2 := x1) N (if m < p1 then p1 else m) (k + 1) (f_X6_goesBy s (f_X4_soundingSet lw kd bt ph ct sc rn &&& (x1 ^^^ (-1))))
          have hq : p1.toInt ≤ (if m < p1 then p1 else m).toInt := by
            by_cases q : m < p1
            · rw [if_pos q]; exact Int.le_refl _
            · rw [if_neg q]; rw [i32_lt] at q; omega
          rw [if_neg (fun q => by have := i32_lt.mp q; omega)]
theorem rt_quiet {no s mas : Nat → Int32} {sc rn lg dn x1 x2 x3 : Int32} {tlw tkd tbt tph tcn tno : Nat → Int32} (h : RT lw kd bt ph cn no ct sc rn lg dn zz s) (h2 : 1 ≤ x2.toInt ∧ x2.toInt ≤ 60) (h3 : 0 ≤ x3.toInt) : (f_X5_isQuietWithout lw kd bt ph cn no ct sc rn lg dn zz tlw tkd tbt tph tcn tno x1 x2 x3).1 = if (f_X6_lengthBy s mas x2 x1).1 < x3 then (0 : Int32) else (1 : Int32) := by
  have hl : (f_X6_lengthBy s mas x2 x1).1 = (l_X6_lengthBy_16 x2 x1 300 0 0 s).1 := by
    unfold f_X6_lengthBy
    generalize l_X6_lengthBy_16 x2 x1 300 0 0 s = q
    obtain ⟨q0, q1, q2⟩ := q
    rw [pr1_mk, pr3_mk, pr1_mk]
  rw [hl]
  unfold f_X5_isQuietWithout
  exact quietL h3 _ (fun z => by obtain ⟨z0, z1, z2, z3, z4⟩ := z; rw [pr5_mk]) 300 x2 0 0 _ sc rn lg dn s (rt_cpy (lw' := tlw) (kd' := tkd) (bt' := tbt) (ph' := tph) (cn' := tcn) (no' := tno) h) (by decide) (by omega) (by rw [z0I]; omega) h2.2 (.inr ⟨rfl, rfl, by omega⟩) (by omega)
end PU9
/-- the set of fewest, and of these the least -/
def awP (q : Int32 → Int32) (B : Int) (r : Int32) : Prop := (r = -3 ∧ ∀ a : Int32, 0 ≤ a.toInt → a.toInt < B → q a = 0) ∨ (0 ≤ r.toInt ∧ r.toInt < B ∧ ¬ q r = 0 ∧ ∀ a : Int32, 0 ≤ a.toInt → a.toInt < B → ¬ q a = 0 → (f_X6_size r).toInt < (f_X6_size a).toInt ∨ ((f_X6_size r).toInt = (f_X6_size a).toInt ∧ r.toInt ≤ a.toInt))
theorem awP_uniq {q : Int32 → Int32} {B : Int} {r t : Int32} (h1 : awP q B r) (h2 : awP q B t) : r = t := by
  rcases h1 with ⟨e1, n1⟩ | ⟨a1, b1, c1, d1⟩
  · rcases h2 with ⟨e2, _⟩ | ⟨a2, b2, c2, _⟩
    · rw [e1, e2]
    · exact absurd (n1 t a2 b2) c2
  · rcases h2 with ⟨_, n2⟩ | ⟨a2, b2, c2, d2⟩
    · exact absurd (n2 r a1 b1) c1
    · have p1 := d1 t a2 b2 c2
      have p2 := d2 r a1 b1 c1
      exact i32_eq.mpr (by omega)
theorem m3n : (-3 : Int32) < 0 := by decide
theorem bS_rng {x : Int32} (h0 : 0 ≤ x.toInt) (h : x.toInt < 256) : bS x := by
  obtain ⟨n, e, _⟩ := ofI (x := x) (B := 256) h0 h
  rw [e]
  exact b256 n
theorem bit_le {c x : Int32} (h0 : 0 ≤ c.toInt) (h : c.toInt ≤ 8) (x0 : 0 ≤ x.toInt) (hx : x.toInt < ((1 : Int32) <<< (c &&& 31)).toInt) : (f_J6_bitCount_0f7a4 x).toInt ≤ c.toInt := by
  obtain ⟨m, e1, q1⟩ := ofI (x := c) (B := 9) h0 (by omega)
  have hv := shl_val m
  rw [← e1] at hv
  rw [hv] at hx
  obtain ⟨n, e2, _⟩ := ofI (x := x) (B := 2 ^ m.val) x0 hx
  have t := bit_tab m n
  rw [← e2, q1] at t
  exact t
section PU10
variable {s : Nat → Int32} {q : Int32 → Int32} {ct n v : Int32}
theorem awM (h0 : s 0 = ct) (hS : ((1 : Int32) <<< (ct &&& 31)).toInt ≤ 256) (hq : ∀ (t mas : Nat → Int32) (a : Int32), (∀ k, k < 50 → t k = s k) → ((f_X6_lengthBy t mas n a).1 < v ↔ q a = 0)) : ∀ (N : Nat) (x3 x4 : Int32) (ss mas : Nat → Int32), 0 ≤ x4.toInt → x4.toInt ≤ ((1 : Int32) <<< (ct &&& 31)).toInt → (((1 : Int32) <<< (ct &&& 31)).toInt - x4.toInt).toNat < N → (∀ k, k < 50 → ss k = s k) → awP q x4.toInt x3 → awP q ((1 : Int32) <<< (ct &&& 31)).toInt (l_X6_awayFor_27 n v N x3 x4 ss mas).1 ∧ ∀ k, k < 50 → (l_X6_awayFor_27 n v N x3 x4 ss mas).2.2.1 k = s k := by
  generalize hSe : (1 : Int32) <<< (ct &&& 31) = S at hS
  intro N
  induction N with
  | zero => intro x3 x4 ss mas _ _ h; exact absurd h (Nat.not_lt_zero _)
  | succ N ih =>
    intro x3 x4 ss mas x0 x1 hN hs hp
    rw [l_X6_awayFor_27, hs 0 (by decide), h0, hSe]
    by_cases c : S ≤ x4
    · rw [if_pos c]
      have e : x4.toInt = S.toInt := by have := i32_le.mp c; omega
      rw [e] at hp
      exact ⟨hp, hs⟩
    · rw [if_neg c]
      have c' : x4.toInt < S.toInt := by have := mt i32_le.mpr c; omega
      have e1 := i32_add1 (i := x4) (by omega)
      have hl := hq ss mas x4 hs
      have hk := len_keep (s := ss) (mas := mas) (x1 := n) (x2 := x4)
      generalize f_X6_lengthBy ss mas n x4 = p at hl hk ⊢
      obtain ⟨p0, p1, p2⟩ := p
      have hl' : p0 < v ↔ q x4 = 0 := hl
      have hk' : ∀ k, k < 50 → p1 k = s k := fun k h => (hk k h).trans (hs k h)
      have split : ∀ a : Int32, 0 ≤ a.toInt → a.toInt < (x4 + 1).toInt → a.toInt < x4.toInt ∨ a = x4 := fun a _ h => by
        by_cases g : a.toInt < x4.toInt
        · exact .inl g
        · exact .inr (i32_eq.mpr (by omega))
      by_cases c3 : x3 < 0
      · rw [if_pos c3, pr3_mk p0 p1 p2]
        have hz : x3 = -3 ∧ ∀ a : Int32, 0 ≤ a.toInt → a.toInt < x4.toInt → q a = 0 := by
          rcases hp with hp | hp
          · exact hp
          · have := i32_lt.mp c3
            rw [z0I] at this
            exact absurd hp.1 (by omega)
        by_cases d : p0 < v
        · rw [if_pos d, pr3_mk x3 p1 p2]
          refine ih _ _ _ _ (by omega) (by omega) (by omega) hk' (.inl ⟨hz.1, fun a a0 a1 => ?_⟩)
          rcases split a a0 a1 with g | g
          · exact hz.2 a a0 g
          · rw [g]; exact hl'.mp d
        · rw [if_neg d, pr3_mk x4 p1 p2]
          refine ih _ _ _ _ (by omega) (by omega) (by omega) hk' (.inr ⟨x0, by omega, fun g => d (hl'.mpr g), fun a a0 a1 g => ?_⟩)
          rcases split a a0 a1 with g2 | g2
          · exact absurd (hz.2 a a0 g2) g
          · rw [g2]; exact .inr ⟨rfl, Int.le_refl _⟩
      · rw [if_neg c3]
        have hz : 0 ≤ x3.toInt ∧ x3.toInt < x4.toInt ∧ ¬ q x3 = 0 ∧ ∀ a : Int32, 0 ≤ a.toInt → a.toInt < x4.toInt → ¬ q a = 0 → (f_X6_size x3).toInt < (f_X6_size a).toInt ∨ ((f_X6_size x3).toInt = (f_X6_size a).toInt ∧ x3.toInt ≤ a.toInt) := by
          rcases hp with hp | hp
          · exact absurd (by rw [hp.1]; exact m3n) c3
          · exact hp
        by_cases c4 : f_X6_size x3 ≤ f_X6_size x4
        · rw [if_pos c4, pr3_mk x3 ss mas]
          have c4' := i32_le.mp c4
          refine ih _ _ _ _ (by omega) (by omega) (by omega) hs (.inr ⟨hz.1, by omega, hz.2.2.1, fun a a0 a1 g => ?_⟩)
          rcases split a a0 a1 with g2 | g2
          · exact hz.2.2.2 a a0 g2 g
          · rw [g2]; omega
        · rw [if_neg c4, pr3_mk p0 p1 p2]
          have c4' : (f_X6_size x4).toInt < (f_X6_size x3).toInt := by have := mt i32_le.mpr c4; omega
          by_cases d : p0 < v
          · rw [if_pos d, pr3_mk x3 p1 p2]
            refine ih _ _ _ _ (by omega) (by omega) (by omega) hk' (.inr ⟨hz.1, by omega, hz.2.2.1, fun a a0 a1 g => ?_⟩)
            rcases split a a0 a1 with g2 | g2
            · exact hz.2.2.2 a a0 g2 g
            · rw [g2] at g; exact absurd (hl'.mp d) g
          · rw [if_neg d, pr3_mk x4 p1 p2]
            refine ih _ _ _ _ (by omega) (by omega) (by omega) hk' (.inr ⟨x0, by omega, fun g => d (hl'.mpr g), fun a a0 a1 g => ?_⟩)
            rcases split a a0 a1 with g2 | g2
            · have := hz.2.2.2 a a0 g2 g
              omega
            · rw [g2]; exact .inr ⟨rfl, Int.le_refl _⟩
end PU10
section PU11
variable {lw kd bt ph cn no : Nat → Int32} {ct sc rn lg dn zz n v S : Int32} {q : Int32 → Int32}
theorem aw50 {x4 : Int32} (hS : S.toInt ≤ 256) (hq : ∀ (tlw tkd tbt tph tcn tno : Nat → Int32) (a : Int32), (f_X5_isQuietWithout lw kd bt ph cn no ct sc rn lg dn zz tlw tkd tbt tph tcn tno a n v).1 = q a) : ∀ (N : Nat) (x5 : Int32) (tlw tkd tbt tph tcn tno : Nat → Int32) (tct tsc trn tlg tdn tzz : Int32), 0 ≤ x5.toInt → x5.toInt ≤ S.toInt → (S.toInt - x5.toInt).toNat < N → (∀ a : Int32, 0 ≤ a.toInt → a.toInt < x5.toInt → ¬ q a = 0 → ¬ f_J6_bitCount_0f7a4 a = x4) → (∃ z, l_X5_awayFor_50 lw kd bt ph cn no ct sc rn lg dn zz n v S x4 N x5 tlw tkd tbt tph tcn tno tct tsc trn tlg tdn tzz = Sum.inl z ∧ ∀ a : Int32, 0 ≤ a.toInt → a.toInt < S.toInt → ¬ q a = 0 → ¬ f_J6_bitCount_0f7a4 a = x4) ∨ (∃ X, l_X5_awayFor_50 lw kd bt ph cn no ct sc rn lg dn zz n v S x4 N x5 tlw tkd tbt tph tcn tno tct tsc trn tlg tdn tzz = Sum.inr X ∧ 0 ≤ X.1.toInt ∧ X.1.toInt < S.toInt ∧ ¬ q X.1 = 0 ∧ f_J6_bitCount_0f7a4 X.1 = x4 ∧ ∀ a : Int32, 0 ≤ a.toInt → a.toInt < X.1.toInt → ¬ q a = 0 → ¬ f_J6_bitCount_0f7a4 a = x4) := by
  intro N
  induction N with
  | zero => intro x5 tlw tkd tbt tph tcn tno tct tsc trn tlg tdn tzz _ _ h; exact absurd h (Nat.not_lt_zero _)
  | succ N ih =>
    intro x5 tlw tkd tbt tph tcn tno tct tsc trn tlg tdn tzz h0 h1 hN hp
    rw [l_X5_awayFor_50]
    by_cases c : S ≤ x5
    · rw [if_pos c]
      have e : x5.toInt = S.toInt := by have := i32_le.mp c; omega
      exact .inl ⟨_, rfl, fun a a0 a1 => hp a a0 (by omega)⟩
    · rw [if_neg c]
      have c' : x5.toInt < S.toInt := by have := mt i32_le.mpr c; omega
      have e1 := i32_add1 (i := x5) (by omega)
      have split : ∀ a : Int32, 0 ≤ a.toInt → a.toInt < (x5 + 1).toInt → a.toInt < x5.toInt ∨ a = x5 := fun a _ h => by
        by_cases g : a.toInt < x5.toInt
        · exact .inl g
        · exact .inr (i32_eq.mpr (by omega))
      by_cases d : f_J6_bitCount_0f7a4 x5 = x4
      · rw [if_pos d]
        have hr := hq tlw tkd tbt tph tcn tno x5
        generalize f_X5_isQuietWithout lw kd bt ph cn no ct sc rn lg dn zz tlw tkd tbt tph tcn tno x5 n v = p at hr ⊢
        obtain ⟨p0, p1, p2, p3, p4, p5, p6, p7, p8, p9, p10, p11, p12⟩ := p
        have hr0 : p0 = q x5 := hr
        rw [pr13_mk, hr0]
        by_cases f : q x5 = 0
        · rw [if_pos f]
          refine ih _ _ _ _ _ _ _ _ _ _ _ _ _ (by omega) (by omega) (by omega) (fun a a0 a1 g => ?_)
          rcases split a a0 a1 with g2 | g2
          · exact hp a a0 g2 g
          · rw [g2] at g; exact absurd f g
        · rw [if_neg f]
          exact .inr ⟨_, rfl, h0, c', f, d, hp⟩
      · rw [if_neg d]
        refine ih _ _ _ _ _ _ _ _ _ _ _ _ _ (by omega) (by omega) (by omega) (fun a a0 a1 g => ?_)
        rcases split a a0 a1 with g2 | g2
        · exact hp a a0 g2 g
        · rw [g2]; exact d
theorem aw35 (hS : S.toInt ≤ 256) (hc : 0 ≤ ct.toInt ∧ ct.toInt ≤ 8) (hb : ∀ a : Int32, 0 ≤ a.toInt → a.toInt < S.toInt → (f_J6_bitCount_0f7a4 a).toInt ≤ ct.toInt) (hS0 : 0 ≤ S.toInt) (hq : ∀ (tlw tkd tbt tph tcn tno : Nat → Int32) (a : Int32), (f_X5_isQuietWithout lw kd bt ph cn no ct sc rn lg dn zz tlw tkd tbt tph tcn tno a n v).1 = q a) (g : Int32 × (Nat → Int32) × (Nat → Int32) × (Nat → Int32) × (Nat → Int32) × (Nat → Int32) × (Nat → Int32) × Int32 × Int32 × Int32 × Int32 × Int32 × Int32 → T13) (hg : ∀ z, (g z).1 = -3) : ∀ (N : Nat) (x4 : Int32) (tlw tkd tbt tph tcn tno : Nat → Int32) (tct tsc trn tlg tdn tzz : Int32), 0 ≤ x4.toInt → x4.toInt ≤ ct.toInt + 1 → (ct.toInt + 1 - x4.toInt).toNat < N → (∀ a : Int32, 0 ≤ a.toInt → a.toInt < S.toInt → ¬ q a = 0 → x4.toInt ≤ (f_J6_bitCount_0f7a4 a).toInt) → awP q S.toInt (sm (l_X5_awayFor_35 lw kd bt ph cn no ct sc rn lg dn zz n v S N x4 tlw tkd tbt tph tcn tno tct tsc trn tlg tdn tzz) g (fun X => X)).1 := by
  intro N
  induction N with
  | zero => intro x4 tlw tkd tbt tph tcn tno tct tsc trn tlg tdn tzz _ _ h; exact absurd h (Nat.not_lt_zero _)
  | succ N ih =>
    intro x4 tlw tkd tbt tph tcn tno tct tsc trn tlg tdn tzz h0 h1 hN hp
    rw [l_X5_awayFor_35]
    by_cases c : ct < x4
    · rw [if_pos c, sm_inl]
      have c' := i32_lt.mp c
      refine .inl ⟨hg _, fun a a0 a1 => ?_⟩
      by_cases f : q a = 0
      · exact f
      · have p1 := hp a a0 a1 f
        have p2 := hb a a0 a1
        omega
    · rw [if_neg c]
      have c' : x4.toInt ≤ ct.toInt := by rw [i32_lt] at c; omega
      have e1 := i32_add1 (i := x4) (by omega)
      rcases aw50 (x4 := x4) hS hq 300 0 tlw tkd tbt tph tcn tno tct tsc trn tlg tdn tzz (by decide) hS0 (by rw [z0I]; omega) (fun a a0 a1 => by rw [z0I] at a1; omega) with ⟨z, e, hz⟩ | ⟨X, e, x0, x1, hx, hx4, hz⟩
      · rw [e, sm_inl]
        obtain ⟨z0, z1, z2, z3, z4, z5, z6, z7, z8, z9, z10, z11, z12⟩ := z
        rw [pr13_mk]
        refine ih _ _ _ _ _ _ _ _ _ _ _ _ _ (by omega) (by omega) (by omega) (fun a a0 a1 f => ?_)
        have p1 := hp a a0 a1 f
        have p2 : ¬ (f_J6_bitCount_0f7a4 a).toInt = x4.toInt := fun w => hz a a0 a1 f (i32_eq.mpr w)
        omega
      · rw [e, sm_inr, sm_inr]
        refine .inr ⟨x0, x1, hx, fun a a0 a1 f => ?_⟩
        have p1 := hp a a0 a1 f
        rw [size_eq (bS_rng x0 (by omega)), size_eq (bS_rng a0 (by omega)), hx4]
        by_cases w : (f_J6_bitCount_0f7a4 a).toInt = x4.toInt
        · refine .inr ⟨w.symm, ?_⟩
          by_cases l : a.toInt < X.1.toInt
          · exact absurd (i32_eq.mpr w) (hz a a0 l f)
          · omega
        · exact .inl (by omega)
end PU11
theorem shl_nn {c : Int32} (h0 : 0 ≤ c.toInt) (h : c.toInt ≤ 8) : 0 ≤ ((1 : Int32) <<< (c &&& 31)).toInt := by
  rcases nine_of h0 h with rfl | rfl | rfl | rfl | rfl | rfl | rfl | rfl | rfl <;> decide
theorem e_awayFor {lw kd bt ph cn no s mas : Nat → Int32} {ct sc rn lg dn zz : Int32} {tlw tkd tbt tph tcn tno : Nat → Int32} {tct tsc trn tlg tdn tzz : Int32} (h : RT lw kd bt ph cn no ct sc rn lg dn zz s) (x1 x2 : Int32) : (f_X5_awayFor lw kd bt ph cn no ct sc rn lg dn zz tlw tkd tbt tph tcn tno tct tsc trn tlg tdn tzz x1 x2).1 = (f_X6_awayFor s mas x1 x2).1 ∧ ∀ k, k < 50 → (f_X6_awayFor s mas x1 x2).2.1 k = s k := by
  unfold f_X5_awayFor f_X6_awayFor f_X6_isShort
  rw [isin_eq (x := x1) (l := 1) (h := 30) rfl rfl, isin_eq (x := x2) (l := 0) (h := 99) rfl rfl]
  by_cases c1 : f_X5_isIn x1 1 30 = 0
  · rw [if_pos c1, if_pos c1]; exact ⟨rfl, fun _ _ => rfl⟩
  · rw [if_neg c1, if_neg c1]
    by_cases c2 : f_X5_isIn x2 0 99 = 0
    · rw [if_pos c2, if_pos c2]; exact ⟨rfl, fun _ _ => rfl⟩
    · rw [if_neg c2, if_neg c2]
      have a1 := in_isIn c1
      have a2 := in_isIn c2
      rw [z1I, show (30 : Int32).toInt = 30 from rfl] at a1
      rw [z0I] at a2
      have hct := h.2.2.1
      have hS := shl_le hct.1 hct.2
      have hS0 := shl_nn hct.1 hct.2
      have hq1 : ∀ (tlw tkd tbt tph tcn tno : Nat → Int32) (a : Int32), (f_X5_isQuietWithout lw kd bt ph cn no ct sc rn lg dn zz tlw tkd tbt tph tcn tno a x1 x2).1 = (fun a => if (f_X6_lengthBy s mas x1 a).1 < x2 then (0 : Int32) else (1 : Int32)) a := fun tlw tkd tbt tph tcn tno a => rt_quiet h ⟨a1.1, by omega⟩ a2.1
      have hq2 : ∀ (t mas2 : Nat → Int32) (a : Int32), (∀ k, k < 50 → t k = s k) → ((f_X6_lengthBy t mas2 x1 a).1 < x2 ↔ (fun a => if (f_X6_lengthBy s mas x1 a).1 < x2 then (0 : Int32) else (1 : Int32)) a = 0) := fun t mas2 a ht => by
        have e1 := rt_quiet (mas := mas2) (x1 := a) (tlw := lw) (tkd := kd) (tbt := bt) (tph := ph) (tcn := cn) (tno := no) (rt_same h ht) ⟨a1.1, by omega⟩ a2.1
        have e2 := hq1 lw kd bt ph cn no a
        rw [e1] at e2
        rw [← e2]
        by_cases d : (f_X6_lengthBy t mas2 x1 a).1 < x2
        · rw [if_pos d]; exact ⟨fun _ => rfl, fun _ => d⟩
        · rw [if_neg d]; exact ⟨fun w => absurd w d, fun w => absurd w (by decide)⟩
      generalize (fun a => if (f_X6_lengthBy s mas x1 a).1 < x2 then (0 : Int32) else (1 : Int32)) = q at hq1 hq2
      have hm := awM h.1.1 hS hq2 300 (-3) 0 s mas (by decide) hS0 (by rw [z0I]; omega) (fun _ _ => rfl) (.inl ⟨rfl, fun a a0 a1 => by rw [z0I] at a1; omega⟩)
      have hx := aw35 hS hct (fun a a0 a1 => bit_le hct.1 hct.2 a0 a1) hS0 hq1 (fun (z5 : Int32 × (Nat → Int32) × (Nat → Int32) × (Nat → Int32) × (Nat → Int32) × (Nat → Int32) × (Nat → Int32) × Int32 × Int32 × Int32 × Int32 × Int32 × Int32) => pr13 z5 (fun x4_5 tlw_5 tkd_5 tbt_5 tph_5 tcn_5 tno_5 tct_5 tsc_5 trn_5 tlg_5 tdn_5 tzz_5 => (((-3) : Int32), tlw_5, tkd_5, tbt_5, tph_5, tcn_5, tno_5, tct_5, tsc_5, trn_5, tlg_5, tdn_5, tzz_5))) (fun z => rfl) 300 0 tlw tkd tbt tph tcn tno tct tsc trn tlg tdn tzz (by decide) (by rw [z0I]; omega) (by rw [z0I]; omega) (fun a a0 a1 _ => by rw [z0I, ← size_eq (bS_rng a0 (by omega))]; exact (size_rng (bS_rng a0 (by omega))).1)
      generalize l_X6_awayFor_27 x1 x2 300 (-3) 0 s mas = r at hm ⊢
      obtain ⟨r0, r1, r2, r3⟩ := r
      rw [pr4_mk]
      exact ⟨awP_uniq hx hm.1, hm.2⟩
