/-! town(): the names, the steps, the statement, the loop -/
theorem z_ite {p : Prop} [Decidable p] {a : Int32} : (¬ (if p then a else 0) = 0) ↔ (p ∧ ¬ a = 0) := by
  by_cases h : p
  · rw [if_pos h]; exact ⟨fun w => ⟨h, w⟩, fun w => w.2⟩
  · rw [if_neg h]; exact ⟨fun w => absurd rfl w, fun w => absurd w.1 h⟩
theorem z_ite2 {p : Prop} [Decidable p] {a : Int32} : (¬ (if p then 0 else a) = 0) ↔ (¬ p ∧ ¬ a = 0) := by
  by_cases h : p
  · rw [if_pos h]; exact ⟨fun w => absurd rfl w, fun w => absurd h w.1⟩
  · rw [if_neg h]; exact ⟨fun w => ⟨h, w⟩, fun w => w.2⟩
section TW2
variable {bs mtp : Nat → Int32} {tz so fr tt vl : Int32}
theorem mN {x1 x2 x3 x4 x5 : Int32} : (¬ f_X6_isName mtp tz so fr tt x1 x2 x3 x4 x5 = 0) ↔ so = 1 ∧ tt - fr = x1 ∧ f_X6_byteAt mtp tz fr = x2 ∧ f_X6_byteAt mtp tz (fr + 1) = x3 ∧ f_X6_byteAt mtp tz (fr + 2) = x4 ∧ f_X6_byteAt mtp tz (tt - 1) = x5 := by
  unfold f_X6_isName
  rw [z_ite, z_ite, z_ite, z_ite, z_ite, z_ite]
  exact ⟨fun w => ⟨w.1, w.2.1, w.2.2.1, w.2.2.2.1, w.2.2.2.2.1, w.2.2.2.2.2.1⟩, fun w => ⟨w.1, w.2.1, w.2.2.1, w.2.2.2.1, w.2.2.2.2.1, w.2.2.2.2.2, one_nz⟩⟩
theorem mS {x1 x2 x3 x4 : Int32} : (¬ f_X6_isSame mtp tz fr x1 x2 x3 x4 = 0) ↔ f_X6_byteAt mtp tz (fr + x1) = x2 ∧ f_X6_byteAt mtp tz (fr + x1 + 1) = x3 ∧ f_X6_byteAt mtp tz (fr + x1 + 2) = x4 := by
  unfold f_X6_isSame
  rw [z_ite, z_ite, z_ite]
  exact ⟨fun w => ⟨w.1, w.2.1, w.2.2.1⟩, fun w => ⟨w.1, w.2.1, w.2.2, one_nz⟩⟩
theorem mF {x1 x2 x3 x4 : Int32} : (¬ f_X6_isFour mtp tz so fr tt x1 x2 x3 x4 = 0) ↔ so = 1 ∧ tt - fr = 4 ∧ f_X6_byteAt mtp tz fr = x1 ∧ f_X6_byteAt mtp tz (fr + 1) = x2 ∧ f_X6_byteAt mtp tz (fr + 2) = x3 ∧ f_X6_byteAt mtp tz (tt - 1) = x4 := by
  unfold f_X6_isFour
  exact mN
theorem mV {x1 x2 x3 x4 x5 : Int32} : (¬ f_X6_isFive mtp tz so fr tt x1 x2 x3 x4 x5 = 0) ↔ (so = 1 ∧ tt - fr = 5 ∧ f_X6_byteAt mtp tz fr = x1 ∧ f_X6_byteAt mtp tz (fr + 1) = x2 ∧ f_X6_byteAt mtp tz (fr + 2) = x3 ∧ f_X6_byteAt mtp tz (tt - 1) = x5) ∧ f_X6_byteAt mtp tz (fr + 3) = x4 := by
  unfold f_X6_isFive
  rw [z_ite2, z_ite, mN]
  exact ⟨fun w => ⟨w.1, w.2.1⟩, fun w => ⟨w.1, w.2, one_nz⟩⟩
theorem tk_len (k : TK bs tz so fr tt vl) : (tt - fr).toInt = tt.toInt - fr.toInt := by
  obtain ⟨⟨f0, ft, t2, _⟩, tl, _⟩ := k
  exact i32_subE (by omega) (by omega)
theorem tk_by (h : RTp bs mtp tz) (k : TK bs tz so fr tt vl) {L : Int32} (e : tt - fr = L) (j : Int32) (j0 : 0 ≤ j.toInt) (jL : j.toInt < L.toInt) : f_X6_byteAt mtp tz (fr + j) = bs (fr + j).toNatClampNeg := by
  have e1 := tk_len k
  rw [e] at e1
  obtain ⟨⟨f0, ft, t2, _⟩, tl, _⟩ := k
  have e2 : (fr + j).toInt = fr.toInt + j.toInt := i32_addE (by omega) (by omega)
  exact (by_bs h (by omega) (fun c => by have := i32_le.mp c; omega)).1
theorem tk_last (k : TK bs tz so fr tt vl) {L M : Int32} (e : tt - fr = L) (hm : L.toInt = M.toInt + 1) (h0 : 0 ≤ M.toInt) : tt - 1 = fr + M := by
  have e1 := tk_len k
  rw [e] at e1
  obtain ⟨⟨f0, ft, t2, _⟩, tl, _⟩ := k
  have e2 : (fr + M).toInt = fr.toInt + M.toInt := i32_addE (by omega) (by omega)
  have e3 : (tt - 1).toInt = tt.toInt - (1 : Int32).toInt := i32_subE (by rw [show (1 : Int32).toInt = 1 from rfl]; omega) (by rw [show (1 : Int32).toInt = 1 from rfl]; omega)
  rw [show (1 : Int32).toInt = 1 from rfl] at e3
  exact i32_eq.mpr (by rw [e2, e3]; omega)
theorem tk_le (k : TK bs tz so fr tt vl) : tt ≤ tz := i32_le.mpr k.2.1
theorem q_0 (h : RTp bs mtp tz) (k : TK bs tz so fr tt vl) : (¬ f_X3_isName__n0 bs tz so fr tt = 0) ↔ ((¬ f_X6_isName mtp tz so fr tt 9 110 101 105 114 = 0) ∧ (¬ f_X6_isSame mtp tz fr 3 103 104 98 = 0) ∧ (¬ f_X6_isSame mtp tz fr 6 111 117 114 = 0)) := by
  rw [nm_0]
  constructor
  · rintro ⟨p1, p2, p3, p4⟩
    have B := tk_by h k p2
    have y0 : f_X6_byteAt mtp tz fr = 110 := by
      have z := (B 0 (by decide) (by decide)).trans (p4 0 (by decide) (by decide))
      rw [Int32.add_zero] at z
      exact z.trans (by decide)
    have y1 : f_X6_byteAt mtp tz (fr + 1) = 101 := ((B 1 (by decide) (by decide)).trans (p4 1 (by decide) (by decide))).trans (by decide)
    have y2 : f_X6_byteAt mtp tz (fr + 2) = 105 := ((B 2 (by decide) (by decide)).trans (p4 2 (by decide) (by decide))).trans (by decide)
    have y3 : f_X6_byteAt mtp tz (fr + 3) = 103 := ((B 3 (by decide) (by decide)).trans (p4 3 (by decide) (by decide))).trans (by decide)
    have y4 : f_X6_byteAt mtp tz (fr + 4) = 104 := ((B 4 (by decide) (by decide)).trans (p4 4 (by decide) (by decide))).trans (by decide)
    have y5 : f_X6_byteAt mtp tz (fr + 5) = 98 := ((B 5 (by decide) (by decide)).trans (p4 5 (by decide) (by decide))).trans (by decide)
    have y6 : f_X6_byteAt mtp tz (fr + 6) = 111 := ((B 6 (by decide) (by decide)).trans (p4 6 (by decide) (by decide))).trans (by decide)
    have y7 : f_X6_byteAt mtp tz (fr + 7) = 117 := ((B 7 (by decide) (by decide)).trans (p4 7 (by decide) (by decide))).trans (by decide)
    have y8 : f_X6_byteAt mtp tz (fr + 8) = 114 := ((B 8 (by decide) (by decide)).trans (p4 8 (by decide) (by decide))).trans (by decide)
    have yl : f_X6_byteAt mtp tz (tt - 1) = 114 := by rw [tk_last k (M := 8) p2 (by decide) (by decide)]; exact y8
    exact ⟨mN.mpr ⟨p1, p2, y0, y1, y2, yl⟩, mS.mpr ⟨y3, (congrArg (f_X6_byteAt mtp tz) (Int32.add_assoc fr 3 1)).trans y4, (congrArg (f_X6_byteAt mtp tz) (Int32.add_assoc fr 3 2)).trans y5⟩, mS.mpr ⟨y6, (congrArg (f_X6_byteAt mtp tz) (Int32.add_assoc fr 6 1)).trans y7, (congrArg (f_X6_byteAt mtp tz) (Int32.add_assoc fr 6 2)).trans y8⟩⟩
  · rintro ⟨w0, s00, s10⟩
    have w := mN.mp w0
    have s0 := mS.mp s00
    have s1 := mS.mp s10
    have B := tk_by h k (w.2.1)
    have L : ∀ {c : Int32}, f_X6_byteAt mtp tz (tt - 1) = c → f_X6_byteAt mtp tz (fr + 8) = c := fun z => by rw [← tk_last k (M := 8) (w.2.1) (by decide) (by decide)]; exact z
    refine ⟨w.1, w.2.1, tk_le k, fun i i0 i1 => ?_⟩
    obtain ⟨n, e, _⟩ := ofI (x := i) (B := 9) i0 i1
    rw [e]
    match n with
    | ⟨0, _⟩ =>
      have z : f_X6_byteAt mtp tz (fr + 0) = 110 := by rw [Int32.add_zero]; exact w.2.2.1
      show bs (fr + 0).toNatClampNeg = kch 0 (Int32.toNatClampNeg 0)
      exact ((B 0 (by decide) (by decide)).symm.trans z).trans (by decide)
    | ⟨1, _⟩ =>
      have z : f_X6_byteAt mtp tz (fr + 1) = 101 := w.2.2.2.1
      show bs (fr + 1).toNatClampNeg = kch 0 (Int32.toNatClampNeg 1)
      exact ((B 1 (by decide) (by decide)).symm.trans z).trans (by decide)
    | ⟨2, _⟩ =>
      have z : f_X6_byteAt mtp tz (fr + 2) = 105 := w.2.2.2.2.1
      show bs (fr + 2).toNatClampNeg = kch 0 (Int32.toNatClampNeg 2)
      exact ((B 2 (by decide) (by decide)).symm.trans z).trans (by decide)
    | ⟨3, _⟩ =>
      have z : f_X6_byteAt mtp tz (fr + 3) = 103 := s0.1
      show bs (fr + 3).toNatClampNeg = kch 0 (Int32.toNatClampNeg 3)
      exact ((B 3 (by decide) (by decide)).symm.trans z).trans (by decide)
    | ⟨4, _⟩ =>
      have z : f_X6_byteAt mtp tz (fr + 4) = 104 := (congrArg (f_X6_byteAt mtp tz) (Int32.add_assoc fr 3 1)).symm.trans s0.2.1
      show bs (fr + 4).toNatClampNeg = kch 0 (Int32.toNatClampNeg 4)
      exact ((B 4 (by decide) (by decide)).symm.trans z).trans (by decide)
    | ⟨5, _⟩ =>
      have z : f_X6_byteAt mtp tz (fr + 5) = 98 := (congrArg (f_X6_byteAt mtp tz) (Int32.add_assoc fr 3 2)).symm.trans s0.2.2
      show bs (fr + 5).toNatClampNeg = kch 0 (Int32.toNatClampNeg 5)
      exact ((B 5 (by decide) (by decide)).symm.trans z).trans (by decide)
    | ⟨6, _⟩ =>
      have z : f_X6_byteAt mtp tz (fr + 6) = 111 := s1.1
      show bs (fr + 6).toNatClampNeg = kch 0 (Int32.toNatClampNeg 6)
      exact ((B 6 (by decide) (by decide)).symm.trans z).trans (by decide)
    | ⟨7, _⟩ =>
      have z : f_X6_byteAt mtp tz (fr + 7) = 117 := (congrArg (f_X6_byteAt mtp tz) (Int32.add_assoc fr 6 1)).symm.trans s1.2.1
      show bs (fr + 7).toNatClampNeg = kch 0 (Int32.toNatClampNeg 7)
      exact ((B 7 (by decide) (by decide)).symm.trans z).trans (by decide)
    | ⟨8, _⟩ =>
      have z : f_X6_byteAt mtp tz (fr + 8) = 114 := L w.2.2.2.2.2
      show bs (fr + 8).toNatClampNeg = kch 0 (Int32.toNatClampNeg 8)
      exact ((B 8 (by decide) (by decide)).symm.trans z).trans (by decide)
theorem q_1 (h : RTp bs mtp tz) (k : TK bs tz so fr tt vl) : (¬ f_X3_isName__n1 bs tz so fr tt = 0) ↔ (¬ f_X6_isFour mtp tz so fr tt 99 111 111 107 = 0) := by
  rw [nm_1]
  constructor
  · rintro ⟨p1, p2, p3, p4⟩
    have B := tk_by h k p2
    have y0 : f_X6_byteAt mtp tz fr = 99 := by
      have z := (B 0 (by decide) (by decide)).trans (p4 0 (by decide) (by decide))
      rw [Int32.add_zero] at z
      exact z.trans (by decide)
    have y1 : f_X6_byteAt mtp tz (fr + 1) = 111 := ((B 1 (by decide) (by decide)).trans (p4 1 (by decide) (by decide))).trans (by decide)
    have y2 : f_X6_byteAt mtp tz (fr + 2) = 111 := ((B 2 (by decide) (by decide)).trans (p4 2 (by decide) (by decide))).trans (by decide)
    have y3 : f_X6_byteAt mtp tz (fr + 3) = 107 := ((B 3 (by decide) (by decide)).trans (p4 3 (by decide) (by decide))).trans (by decide)
    have yl : f_X6_byteAt mtp tz (tt - 1) = 107 := by rw [tk_last k (M := 3) p2 (by decide) (by decide)]; exact y3
    exact mF.mpr ⟨p1, p2, y0, y1, y2, yl⟩
  · intro w0
    have w := mF.mp w0
    have B := tk_by h k (w.2.1)
    have L : ∀ {c : Int32}, f_X6_byteAt mtp tz (tt - 1) = c → f_X6_byteAt mtp tz (fr + 3) = c := fun z => by rw [← tk_last k (M := 3) (w.2.1) (by decide) (by decide)]; exact z
    refine ⟨w.1, w.2.1, tk_le k, fun i i0 i1 => ?_⟩
    obtain ⟨n, e, _⟩ := ofI (x := i) (B := 4) i0 i1
    rw [e]
    match n with
    | ⟨0, _⟩ =>
      have z : f_X6_byteAt mtp tz (fr + 0) = 99 := by rw [Int32.add_zero]; exact w.2.2.1
      show bs (fr + 0).toNatClampNeg = kch 1 (Int32.toNatClampNeg 0)
      exact ((B 0 (by decide) (by decide)).symm.trans z).trans (by decide)
    | ⟨1, _⟩ =>
      have z : f_X6_byteAt mtp tz (fr + 1) = 111 := w.2.2.2.1
      show bs (fr + 1).toNatClampNeg = kch 1 (Int32.toNatClampNeg 1)
      exact ((B 1 (by decide) (by decide)).symm.trans z).trans (by decide)
    | ⟨2, _⟩ =>
      have z : f_X6_byteAt mtp tz (fr + 2) = 111 := w.2.2.2.2.1
      show bs (fr + 2).toNatClampNeg = kch 1 (Int32.toNatClampNeg 2)
      exact ((B 2 (by decide) (by decide)).symm.trans z).trans (by decide)
    | ⟨3, _⟩ =>
      have z : f_X6_byteAt mtp tz (fr + 3) = 107 := L w.2.2.2.2.2
      show bs (fr + 3).toNatClampNeg = kch 1 (Int32.toNatClampNeg 3)
      exact ((B 3 (by decide) (by decide)).symm.trans z).trans (by decide)
theorem q_2 (h : RTp bs mtp tz) (k : TK bs tz so fr tt vl) : (¬ f_X3_isName__n2 bs tz so fr tt = 0) ↔ ((¬ f_X6_isName mtp tz so fr tt 7 115 111 108 114 = 0) ∧ (¬ f_X6_isSame mtp tz fr 3 100 105 101 = 0)) := by
  rw [nm_2]
  constructor
  · rintro ⟨p1, p2, p3, p4⟩
    have B := tk_by h k p2
    have y0 : f_X6_byteAt mtp tz fr = 115 := by
      have z := (B 0 (by decide) (by decide)).trans (p4 0 (by decide) (by decide))
      rw [Int32.add_zero] at z
      exact z.trans (by decide)
    have y1 : f_X6_byteAt mtp tz (fr + 1) = 111 := ((B 1 (by decide) (by decide)).trans (p4 1 (by decide) (by decide))).trans (by decide)
    have y2 : f_X6_byteAt mtp tz (fr + 2) = 108 := ((B 2 (by decide) (by decide)).trans (p4 2 (by decide) (by decide))).trans (by decide)
    have y3 : f_X6_byteAt mtp tz (fr + 3) = 100 := ((B 3 (by decide) (by decide)).trans (p4 3 (by decide) (by decide))).trans (by decide)
    have y4 : f_X6_byteAt mtp tz (fr + 4) = 105 := ((B 4 (by decide) (by decide)).trans (p4 4 (by decide) (by decide))).trans (by decide)
    have y5 : f_X6_byteAt mtp tz (fr + 5) = 101 := ((B 5 (by decide) (by decide)).trans (p4 5 (by decide) (by decide))).trans (by decide)
    have y6 : f_X6_byteAt mtp tz (fr + 6) = 114 := ((B 6 (by decide) (by decide)).trans (p4 6 (by decide) (by decide))).trans (by decide)
    have yl : f_X6_byteAt mtp tz (tt - 1) = 114 := by rw [tk_last k (M := 6) p2 (by decide) (by decide)]; exact y6
    exact ⟨mN.mpr ⟨p1, p2, y0, y1, y2, yl⟩, mS.mpr ⟨y3, (congrArg (f_X6_byteAt mtp tz) (Int32.add_assoc fr 3 1)).trans y4, (congrArg (f_X6_byteAt mtp tz) (Int32.add_assoc fr 3 2)).trans y5⟩⟩
  · rintro ⟨w0, s00⟩
    have w := mN.mp w0
    have s0 := mS.mp s00
    have B := tk_by h k (w.2.1)
    have L : ∀ {c : Int32}, f_X6_byteAt mtp tz (tt - 1) = c → f_X6_byteAt mtp tz (fr + 6) = c := fun z => by rw [← tk_last k (M := 6) (w.2.1) (by decide) (by decide)]; exact z
    refine ⟨w.1, w.2.1, tk_le k, fun i i0 i1 => ?_⟩
    obtain ⟨n, e, _⟩ := ofI (x := i) (B := 7) i0 i1
    rw [e]
    match n with
    | ⟨0, _⟩ =>
      have z : f_X6_byteAt mtp tz (fr + 0) = 115 := by rw [Int32.add_zero]; exact w.2.2.1
      show bs (fr + 0).toNatClampNeg = kch 2 (Int32.toNatClampNeg 0)
      exact ((B 0 (by decide) (by decide)).symm.trans z).trans (by decide)
    | ⟨1, _⟩ =>
      have z : f_X6_byteAt mtp tz (fr + 1) = 111 := w.2.2.2.1
      show bs (fr + 1).toNatClampNeg = kch 2 (Int32.toNatClampNeg 1)
      exact ((B 1 (by decide) (by decide)).symm.trans z).trans (by decide)
    | ⟨2, _⟩ =>
      have z : f_X6_byteAt mtp tz (fr + 2) = 108 := w.2.2.2.2.1
      show bs (fr + 2).toNatClampNeg = kch 2 (Int32.toNatClampNeg 2)
      exact ((B 2 (by decide) (by decide)).symm.trans z).trans (by decide)
    | ⟨3, _⟩ =>
      have z : f_X6_byteAt mtp tz (fr + 3) = 100 := s0.1
      show bs (fr + 3).toNatClampNeg = kch 2 (Int32.toNatClampNeg 3)
      exact ((B 3 (by decide) (by decide)).symm.trans z).trans (by decide)
    | ⟨4, _⟩ =>
      have z : f_X6_byteAt mtp tz (fr + 4) = 105 := (congrArg (f_X6_byteAt mtp tz) (Int32.add_assoc fr 3 1)).symm.trans s0.2.1
      show bs (fr + 4).toNatClampNeg = kch 2 (Int32.toNatClampNeg 4)
      exact ((B 4 (by decide) (by decide)).symm.trans z).trans (by decide)
    | ⟨5, _⟩ =>
      have z : f_X6_byteAt mtp tz (fr + 5) = 101 := (congrArg (f_X6_byteAt mtp tz) (Int32.add_assoc fr 3 2)).symm.trans s0.2.2
      show bs (fr + 5).toNatClampNeg = kch 2 (Int32.toNatClampNeg 5)
      exact ((B 5 (by decide) (by decide)).symm.trans z).trans (by decide)
    | ⟨6, _⟩ =>
      have z : f_X6_byteAt mtp tz (fr + 6) = 114 := L w.2.2.2.2.2
      show bs (fr + 6).toNatClampNeg = kch 2 (Int32.toNatClampNeg 6)
      exact ((B 6 (by decide) (by decide)).symm.trans z).trans (by decide)
theorem q_3 (h : RTp bs mtp tz) (k : TK bs tz so fr tt vl) : (¬ f_X3_isName__n3 bs tz so fr tt = 0) ↔ (¬ f_X6_isFive mtp tz so fr tt 98 97 107 101 114 = 0) := by
  rw [nm_3]
  constructor
  · rintro ⟨p1, p2, p3, p4⟩
    have B := tk_by h k p2
    have y0 : f_X6_byteAt mtp tz fr = 98 := by
      have z := (B 0 (by decide) (by decide)).trans (p4 0 (by decide) (by decide))
      rw [Int32.add_zero] at z
      exact z.trans (by decide)
    have y1 : f_X6_byteAt mtp tz (fr + 1) = 97 := ((B 1 (by decide) (by decide)).trans (p4 1 (by decide) (by decide))).trans (by decide)
    have y2 : f_X6_byteAt mtp tz (fr + 2) = 107 := ((B 2 (by decide) (by decide)).trans (p4 2 (by decide) (by decide))).trans (by decide)
    have y3 : f_X6_byteAt mtp tz (fr + 3) = 101 := ((B 3 (by decide) (by decide)).trans (p4 3 (by decide) (by decide))).trans (by decide)
    have y4 : f_X6_byteAt mtp tz (fr + 4) = 114 := ((B 4 (by decide) (by decide)).trans (p4 4 (by decide) (by decide))).trans (by decide)
    have yl : f_X6_byteAt mtp tz (tt - 1) = 114 := by rw [tk_last k (M := 4) p2 (by decide) (by decide)]; exact y4
    exact mV.mpr ⟨⟨p1, p2, y0, y1, y2, yl⟩, y3⟩
  · intro w0
    have w := mV.mp w0
    have B := tk_by h k (w.1.2.1)
    have L : ∀ {c : Int32}, f_X6_byteAt mtp tz (tt - 1) = c → f_X6_byteAt mtp tz (fr + 4) = c := fun z => by rw [← tk_last k (M := 4) (w.1.2.1) (by decide) (by decide)]; exact z
    refine ⟨w.1.1, w.1.2.1, tk_le k, fun i i0 i1 => ?_⟩
    obtain ⟨n, e, _⟩ := ofI (x := i) (B := 5) i0 i1
    rw [e]
    match n with
    | ⟨0, _⟩ =>
      have z : f_X6_byteAt mtp tz (fr + 0) = 98 := by rw [Int32.add_zero]; exact w.1.2.2.1
      show bs (fr + 0).toNatClampNeg = kch 3 (Int32.toNatClampNeg 0)
      exact ((B 0 (by decide) (by decide)).symm.trans z).trans (by decide)
    | ⟨1, _⟩ =>
      have z : f_X6_byteAt mtp tz (fr + 1) = 97 := w.1.2.2.2.1
      show bs (fr + 1).toNatClampNeg = kch 3 (Int32.toNatClampNeg 1)
      exact ((B 1 (by decide) (by decide)).symm.trans z).trans (by decide)
    | ⟨2, _⟩ =>
      have z : f_X6_byteAt mtp tz (fr + 2) = 107 := w.1.2.2.2.2.1
      show bs (fr + 2).toNatClampNeg = kch 3 (Int32.toNatClampNeg 2)
      exact ((B 2 (by decide) (by decide)).symm.trans z).trans (by decide)
    | ⟨3, _⟩ =>
      have z : f_X6_byteAt mtp tz (fr + 3) = 101 := w.2
      show bs (fr + 3).toNatClampNeg = kch 3 (Int32.toNatClampNeg 3)
      exact ((B 3 (by decide) (by decide)).symm.trans z).trans (by decide)
    | ⟨4, _⟩ =>
      have z : f_X6_byteAt mtp tz (fr + 4) = 114 := L w.1.2.2.2.2.2
      show bs (fr + 4).toNatClampNeg = kch 3 (Int32.toNatClampNeg 4)
      exact ((B 4 (by decide) (by decide)).symm.trans z).trans (by decide)
theorem q_4 (h : RTp bs mtp tz) (k : TK bs tz so fr tt vl) : (¬ f_X3_isName__n4 bs tz so fr tt = 0) ↔ ((¬ f_X6_isName mtp tz so fr tt 7 111 102 102 114 = 0) ∧ (¬ f_X6_isSame mtp tz fr 3 105 99 101 = 0)) := by
  rw [nm_4]
  constructor
  · rintro ⟨p1, p2, p3, p4⟩
    have B := tk_by h k p2
    have y0 : f_X6_byteAt mtp tz fr = 111 := by
      have z := (B 0 (by decide) (by decide)).trans (p4 0 (by decide) (by decide))
      rw [Int32.add_zero] at z
      exact z.trans (by decide)
    have y1 : f_X6_byteAt mtp tz (fr + 1) = 102 := ((B 1 (by decide) (by decide)).trans (p4 1 (by decide) (by decide))).trans (by decide)
    have y2 : f_X6_byteAt mtp tz (fr + 2) = 102 := ((B 2 (by decide) (by decide)).trans (p4 2 (by decide) (by decide))).trans (by decide)
    have y3 : f_X6_byteAt mtp tz (fr + 3) = 105 := ((B 3 (by decide) (by decide)).trans (p4 3 (by decide) (by decide))).trans (by decide)
    have y4 : f_X6_byteAt mtp tz (fr + 4) = 99 := ((B 4 (by decide) (by decide)).trans (p4 4 (by decide) (by decide))).trans (by decide)
    have y5 : f_X6_byteAt mtp tz (fr + 5) = 101 := ((B 5 (by decide) (by decide)).trans (p4 5 (by decide) (by decide))).trans (by decide)
    have y6 : f_X6_byteAt mtp tz (fr + 6) = 114 := ((B 6 (by decide) (by decide)).trans (p4 6 (by decide) (by decide))).trans (by decide)
    have yl : f_X6_byteAt mtp tz (tt - 1) = 114 := by rw [tk_last k (M := 6) p2 (by decide) (by decide)]; exact y6
    exact ⟨mN.mpr ⟨p1, p2, y0, y1, y2, yl⟩, mS.mpr ⟨y3, (congrArg (f_X6_byteAt mtp tz) (Int32.add_assoc fr 3 1)).trans y4, (congrArg (f_X6_byteAt mtp tz) (Int32.add_assoc fr 3 2)).trans y5⟩⟩
  · rintro ⟨w0, s00⟩
    have w := mN.mp w0
    have s0 := mS.mp s00
    have B := tk_by h k (w.2.1)
    have L : ∀ {c : Int32}, f_X6_byteAt mtp tz (tt - 1) = c → f_X6_byteAt mtp tz (fr + 6) = c := fun z => by rw [← tk_last k (M := 6) (w.2.1) (by decide) (by decide)]; exact z
    refine ⟨w.1, w.2.1, tk_le k, fun i i0 i1 => ?_⟩
    obtain ⟨n, e, _⟩ := ofI (x := i) (B := 7) i0 i1
    rw [e]
    match n with
    | ⟨0, _⟩ =>
      have z : f_X6_byteAt mtp tz (fr + 0) = 111 := by rw [Int32.add_zero]; exact w.2.2.1
      show bs (fr + 0).toNatClampNeg = kch 4 (Int32.toNatClampNeg 0)
      exact ((B 0 (by decide) (by decide)).symm.trans z).trans (by decide)
    | ⟨1, _⟩ =>
      have z : f_X6_byteAt mtp tz (fr + 1) = 102 := w.2.2.2.1
      show bs (fr + 1).toNatClampNeg = kch 4 (Int32.toNatClampNeg 1)
      exact ((B 1 (by decide) (by decide)).symm.trans z).trans (by decide)
    | ⟨2, _⟩ =>
      have z : f_X6_byteAt mtp tz (fr + 2) = 102 := w.2.2.2.2.1
      show bs (fr + 2).toNatClampNeg = kch 4 (Int32.toNatClampNeg 2)
      exact ((B 2 (by decide) (by decide)).symm.trans z).trans (by decide)
    | ⟨3, _⟩ =>
      have z : f_X6_byteAt mtp tz (fr + 3) = 105 := s0.1
      show bs (fr + 3).toNatClampNeg = kch 4 (Int32.toNatClampNeg 3)
      exact ((B 3 (by decide) (by decide)).symm.trans z).trans (by decide)
    | ⟨4, _⟩ =>
      have z : f_X6_byteAt mtp tz (fr + 4) = 99 := (congrArg (f_X6_byteAt mtp tz) (Int32.add_assoc fr 3 1)).symm.trans s0.2.1
      show bs (fr + 4).toNatClampNeg = kch 4 (Int32.toNatClampNeg 4)
      exact ((B 4 (by decide) (by decide)).symm.trans z).trans (by decide)
    | ⟨5, _⟩ =>
      have z : f_X6_byteAt mtp tz (fr + 5) = 101 := (congrArg (f_X6_byteAt mtp tz) (Int32.add_assoc fr 3 2)).symm.trans s0.2.2
      show bs (fr + 5).toNatClampNeg = kch 4 (Int32.toNatClampNeg 5)
      exact ((B 5 (by decide) (by decide)).symm.trans z).trans (by decide)
    | ⟨6, _⟩ =>
      have z : f_X6_byteAt mtp tz (fr + 6) = 114 := L w.2.2.2.2.2
      show bs (fr + 6).toNatClampNeg = kch 4 (Int32.toNatClampNeg 6)
      exact ((B 6 (by decide) (by decide)).symm.trans z).trans (by decide)
theorem q_5 (h : RTp bs mtp tz) (k : TK bs tz so fr tt vl) : (¬ f_X3_isName__n5 bs tz so fr tt = 0) ↔ ((¬ f_X6_isName mtp tz so fr tt 6 109 111 116 114 = 0) ∧ (¬ f_X6_isSame mtp tz fr 2 116 104 101 = 0)) := by
  rw [nm_5]
  constructor
  · rintro ⟨p1, p2, p3, p4⟩
    have B := tk_by h k p2
    have y0 : f_X6_byteAt mtp tz fr = 109 := by
      have z := (B 0 (by decide) (by decide)).trans (p4 0 (by decide) (by decide))
      rw [Int32.add_zero] at z
      exact z.trans (by decide)
    have y1 : f_X6_byteAt mtp tz (fr + 1) = 111 := ((B 1 (by decide) (by decide)).trans (p4 1 (by decide) (by decide))).trans (by decide)
    have y2 : f_X6_byteAt mtp tz (fr + 2) = 116 := ((B 2 (by decide) (by decide)).trans (p4 2 (by decide) (by decide))).trans (by decide)
    have y3 : f_X6_byteAt mtp tz (fr + 3) = 104 := ((B 3 (by decide) (by decide)).trans (p4 3 (by decide) (by decide))).trans (by decide)
    have y4 : f_X6_byteAt mtp tz (fr + 4) = 101 := ((B 4 (by decide) (by decide)).trans (p4 4 (by decide) (by decide))).trans (by decide)
    have y5 : f_X6_byteAt mtp tz (fr + 5) = 114 := ((B 5 (by decide) (by decide)).trans (p4 5 (by decide) (by decide))).trans (by decide)
    have yl : f_X6_byteAt mtp tz (tt - 1) = 114 := by rw [tk_last k (M := 5) p2 (by decide) (by decide)]; exact y5
    exact ⟨mN.mpr ⟨p1, p2, y0, y1, y2, yl⟩, mS.mpr ⟨y2, (congrArg (f_X6_byteAt mtp tz) (Int32.add_assoc fr 2 1)).trans y3, (congrArg (f_X6_byteAt mtp tz) (Int32.add_assoc fr 2 2)).trans y4⟩⟩
  · rintro ⟨w0, s00⟩
    have w := mN.mp w0
    have s0 := mS.mp s00
    have B := tk_by h k (w.2.1)
    have L : ∀ {c : Int32}, f_X6_byteAt mtp tz (tt - 1) = c → f_X6_byteAt mtp tz (fr + 5) = c := fun z => by rw [← tk_last k (M := 5) (w.2.1) (by decide) (by decide)]; exact z
    refine ⟨w.1, w.2.1, tk_le k, fun i i0 i1 => ?_⟩
    obtain ⟨n, e, _⟩ := ofI (x := i) (B := 6) i0 i1
    rw [e]
    match n with
    | ⟨0, _⟩ =>
      have z : f_X6_byteAt mtp tz (fr + 0) = 109 := by rw [Int32.add_zero]; exact w.2.2.1
      show bs (fr + 0).toNatClampNeg = kch 5 (Int32.toNatClampNeg 0)
      exact ((B 0 (by decide) (by decide)).symm.trans z).trans (by decide)
    | ⟨1, _⟩ =>
      have z : f_X6_byteAt mtp tz (fr + 1) = 111 := w.2.2.2.1
      show bs (fr + 1).toNatClampNeg = kch 5 (Int32.toNatClampNeg 1)
      exact ((B 1 (by decide) (by decide)).symm.trans z).trans (by decide)
    | ⟨2, _⟩ =>
      have z : f_X6_byteAt mtp tz (fr + 2) = 116 := w.2.2.2.2.1
      show bs (fr + 2).toNatClampNeg = kch 5 (Int32.toNatClampNeg 2)
      exact ((B 2 (by decide) (by decide)).symm.trans z).trans (by decide)
    | ⟨3, _⟩ =>
      have z : f_X6_byteAt mtp tz (fr + 3) = 104 := (congrArg (f_X6_byteAt mtp tz) (Int32.add_assoc fr 2 1)).symm.trans s0.2.1
      show bs (fr + 3).toNatClampNeg = kch 5 (Int32.toNatClampNeg 3)
      exact ((B 3 (by decide) (by decide)).symm.trans z).trans (by decide)
    | ⟨4, _⟩ =>
      have z : f_X6_byteAt mtp tz (fr + 4) = 101 := (congrArg (f_X6_byteAt mtp tz) (Int32.add_assoc fr 2 2)).symm.trans s0.2.2
      show bs (fr + 4).toNatClampNeg = kch 5 (Int32.toNatClampNeg 4)
      exact ((B 4 (by decide) (by decide)).symm.trans z).trans (by decide)
    | ⟨5, _⟩ =>
      have z : f_X6_byteAt mtp tz (fr + 5) = 114 := L w.2.2.2.2.2
      show bs (fr + 5).toNatClampNeg = kch 5 (Int32.toNatClampNeg 5)
      exact ((B 5 (by decide) (by decide)).symm.trans z).trans (by decide)
theorem q_6 (h : RTp bs mtp tz) (k : TK bs tz so fr tt vl) : (¬ f_X3_isName__n6 bs tz so fr tt = 0) ↔ (¬ f_X6_isFour mtp tz so fr tt 103 111 97 108 = 0) := by
  rw [nm_6]
  constructor
  · rintro ⟨p1, p2, p3, p4⟩
    have B := tk_by h k p2
    have y0 : f_X6_byteAt mtp tz fr = 103 := by
      have z := (B 0 (by decide) (by decide)).trans (p4 0 (by decide) (by decide))
      rw [Int32.add_zero] at z
      exact z.trans (by decide)
    have y1 : f_X6_byteAt mtp tz (fr + 1) = 111 := ((B 1 (by decide) (by decide)).trans (p4 1 (by decide) (by decide))).trans (by decide)
    have y2 : f_X6_byteAt mtp tz (fr + 2) = 97 := ((B 2 (by decide) (by decide)).trans (p4 2 (by decide) (by decide))).trans (by decide)
    have y3 : f_X6_byteAt mtp tz (fr + 3) = 108 := ((B 3 (by decide) (by decide)).trans (p4 3 (by decide) (by decide))).trans (by decide)
    have yl : f_X6_byteAt mtp tz (tt - 1) = 108 := by rw [tk_last k (M := 3) p2 (by decide) (by decide)]; exact y3
    exact mF.mpr ⟨p1, p2, y0, y1, y2, yl⟩
  · intro w0
    have w := mF.mp w0
    have B := tk_by h k (w.2.1)
    have L : ∀ {c : Int32}, f_X6_byteAt mtp tz (tt - 1) = c → f_X6_byteAt mtp tz (fr + 3) = c := fun z => by rw [← tk_last k (M := 3) (w.2.1) (by decide) (by decide)]; exact z
    refine ⟨w.1, w.2.1, tk_le k, fun i i0 i1 => ?_⟩
    obtain ⟨n, e, _⟩ := ofI (x := i) (B := 4) i0 i1
    rw [e]
    match n with
    | ⟨0, _⟩ =>
      have z : f_X6_byteAt mtp tz (fr + 0) = 103 := by rw [Int32.add_zero]; exact w.2.2.1
      show bs (fr + 0).toNatClampNeg = kch 6 (Int32.toNatClampNeg 0)
      exact ((B 0 (by decide) (by decide)).symm.trans z).trans (by decide)
    | ⟨1, _⟩ =>
      have z : f_X6_byteAt mtp tz (fr + 1) = 111 := w.2.2.2.1
      show bs (fr + 1).toNatClampNeg = kch 6 (Int32.toNatClampNeg 1)
      exact ((B 1 (by decide) (by decide)).symm.trans z).trans (by decide)
    | ⟨2, _⟩ =>
      have z : f_X6_byteAt mtp tz (fr + 2) = 97 := w.2.2.2.2.1
      show bs (fr + 2).toNatClampNeg = kch 6 (Int32.toNatClampNeg 2)
      exact ((B 2 (by decide) (by decide)).symm.trans z).trans (by decide)
    | ⟨3, _⟩ =>
      have z : f_X6_byteAt mtp tz (fr + 3) = 108 := L w.2.2.2.2.2
      show bs (fr + 3).toNatClampNeg = kch 6 (Int32.toNatClampNeg 3)
      exact ((B 3 (by decide) (by decide)).symm.trans z).trans (by decide)
theorem q_7 (h : RTp bs mtp tz) (k : TK bs tz so fr tt vl) : (¬ f_X3_isName__n7 bs tz so fr tt = 0) ↔ (¬ f_X6_isFour mtp tz so fr tt 108 111 117 100 = 0) := by
  rw [nm_7]
  constructor
  · rintro ⟨p1, p2, p3, p4⟩
    have B := tk_by h k p2
    have y0 : f_X6_byteAt mtp tz fr = 108 := by
      have z := (B 0 (by decide) (by decide)).trans (p4 0 (by decide) (by decide))
      rw [Int32.add_zero] at z
      exact z.trans (by decide)
    have y1 : f_X6_byteAt mtp tz (fr + 1) = 111 := ((B 1 (by decide) (by decide)).trans (p4 1 (by decide) (by decide))).trans (by decide)
    have y2 : f_X6_byteAt mtp tz (fr + 2) = 117 := ((B 2 (by decide) (by decide)).trans (p4 2 (by decide) (by decide))).trans (by decide)
    have y3 : f_X6_byteAt mtp tz (fr + 3) = 100 := ((B 3 (by decide) (by decide)).trans (p4 3 (by decide) (by decide))).trans (by decide)
    have yl : f_X6_byteAt mtp tz (tt - 1) = 100 := by rw [tk_last k (M := 3) p2 (by decide) (by decide)]; exact y3
    exact mF.mpr ⟨p1, p2, y0, y1, y2, yl⟩
  · intro w0
    have w := mF.mp w0
    have B := tk_by h k (w.2.1)
    have L : ∀ {c : Int32}, f_X6_byteAt mtp tz (tt - 1) = c → f_X6_byteAt mtp tz (fr + 3) = c := fun z => by rw [← tk_last k (M := 3) (w.2.1) (by decide) (by decide)]; exact z
    refine ⟨w.1, w.2.1, tk_le k, fun i i0 i1 => ?_⟩
    obtain ⟨n, e, _⟩ := ofI (x := i) (B := 4) i0 i1
    rw [e]
    match n with
    | ⟨0, _⟩ =>
      have z : f_X6_byteAt mtp tz (fr + 0) = 108 := by rw [Int32.add_zero]; exact w.2.2.1
      show bs (fr + 0).toNatClampNeg = kch 7 (Int32.toNatClampNeg 0)
      exact ((B 0 (by decide) (by decide)).symm.trans z).trans (by decide)
    | ⟨1, _⟩ =>
      have z : f_X6_byteAt mtp tz (fr + 1) = 111 := w.2.2.2.1
      show bs (fr + 1).toNatClampNeg = kch 7 (Int32.toNatClampNeg 1)
      exact ((B 1 (by decide) (by decide)).symm.trans z).trans (by decide)
    | ⟨2, _⟩ =>
      have z : f_X6_byteAt mtp tz (fr + 2) = 117 := w.2.2.2.2.1
      show bs (fr + 2).toNatClampNeg = kch 7 (Int32.toNatClampNeg 2)
      exact ((B 2 (by decide) (by decide)).symm.trans z).trans (by decide)
    | ⟨3, _⟩ =>
      have z : f_X6_byteAt mtp tz (fr + 3) = 100 := L w.2.2.2.2.2
      show bs (fr + 3).toNatClampNeg = kch 7 (Int32.toNatClampNeg 3)
      exact ((B 3 (by decide) (by decide)).symm.trans z).trans (by decide)
theorem q_8 (h : RTp bs mtp tz) (k : TK bs tz so fr tt vl) : (¬ f_X3_isName__n8 bs tz so fr tt = 0) ↔ (¬ f_X6_isFive mtp tz so fr tt 119 97 116 99 104 = 0) := by
  rw [nm_8]
  constructor
  · rintro ⟨p1, p2, p3, p4⟩
    have B := tk_by h k p2
    have y0 : f_X6_byteAt mtp tz fr = 119 := by
      have z := (B 0 (by decide) (by decide)).trans (p4 0 (by decide) (by decide))
      rw [Int32.add_zero] at z
      exact z.trans (by decide)
    have y1 : f_X6_byteAt mtp tz (fr + 1) = 97 := ((B 1 (by decide) (by decide)).trans (p4 1 (by decide) (by decide))).trans (by decide)
    have y2 : f_X6_byteAt mtp tz (fr + 2) = 116 := ((B 2 (by decide) (by decide)).trans (p4 2 (by decide) (by decide))).trans (by decide)
    have y3 : f_X6_byteAt mtp tz (fr + 3) = 99 := ((B 3 (by decide) (by decide)).trans (p4 3 (by decide) (by decide))).trans (by decide)
    have y4 : f_X6_byteAt mtp tz (fr + 4) = 104 := ((B 4 (by decide) (by decide)).trans (p4 4 (by decide) (by decide))).trans (by decide)
    have yl : f_X6_byteAt mtp tz (tt - 1) = 104 := by rw [tk_last k (M := 4) p2 (by decide) (by decide)]; exact y4
    exact mV.mpr ⟨⟨p1, p2, y0, y1, y2, yl⟩, y3⟩
  · intro w0
    have w := mV.mp w0
    have B := tk_by h k (w.1.2.1)
    have L : ∀ {c : Int32}, f_X6_byteAt mtp tz (tt - 1) = c → f_X6_byteAt mtp tz (fr + 4) = c := fun z => by rw [← tk_last k (M := 4) (w.1.2.1) (by decide) (by decide)]; exact z
    refine ⟨w.1.1, w.1.2.1, tk_le k, fun i i0 i1 => ?_⟩
    obtain ⟨n, e, _⟩ := ofI (x := i) (B := 5) i0 i1
    rw [e]
    match n with
    | ⟨0, _⟩ =>
      have z : f_X6_byteAt mtp tz (fr + 0) = 119 := by rw [Int32.add_zero]; exact w.1.2.2.1
      show bs (fr + 0).toNatClampNeg = kch 8 (Int32.toNatClampNeg 0)
      exact ((B 0 (by decide) (by decide)).symm.trans z).trans (by decide)
    | ⟨1, _⟩ =>
      have z : f_X6_byteAt mtp tz (fr + 1) = 97 := w.1.2.2.2.1
      show bs (fr + 1).toNatClampNeg = kch 8 (Int32.toNatClampNeg 1)
      exact ((B 1 (by decide) (by decide)).symm.trans z).trans (by decide)
    | ⟨2, _⟩ =>
      have z : f_X6_byteAt mtp tz (fr + 2) = 116 := w.1.2.2.2.2.1
      show bs (fr + 2).toNatClampNeg = kch 8 (Int32.toNatClampNeg 2)
      exact ((B 2 (by decide) (by decide)).symm.trans z).trans (by decide)
    | ⟨3, _⟩ =>
      have z : f_X6_byteAt mtp tz (fr + 3) = 99 := w.2
      show bs (fr + 3).toNatClampNeg = kch 8 (Int32.toNatClampNeg 3)
      exact ((B 3 (by decide) (by decide)).symm.trans z).trans (by decide)
    | ⟨4, _⟩ =>
      have z : f_X6_byteAt mtp tz (fr + 4) = 104 := L w.1.2.2.2.2.2
      show bs (fr + 4).toNatClampNeg = kch 8 (Int32.toNatClampNeg 4)
      exact ((B 4 (by decide) (by decide)).symm.trans z).trans (by decide)
theorem q_9 (h : RTp bs mtp tz) (k : TK bs tz so fr tt vl) : (¬ f_X3_isName__n9 bs tz so fr tt = 0) ↔ (¬ f_X6_isFive mtp tz so fr tt 99 111 117 103 104 = 0) := by
  rw [nm_9]
  constructor
  · rintro ⟨p1, p2, p3, p4⟩
    have B := tk_by h k p2
    have y0 : f_X6_byteAt mtp tz fr = 99 := by
      have z := (B 0 (by decide) (by decide)).trans (p4 0 (by decide) (by decide))
      rw [Int32.add_zero] at z
      exact z.trans (by decide)
    have y1 : f_X6_byteAt mtp tz (fr + 1) = 111 := ((B 1 (by decide) (by decide)).trans (p4 1 (by decide) (by decide))).trans (by decide)
    have y2 : f_X6_byteAt mtp tz (fr + 2) = 117 := ((B 2 (by decide) (by decide)).trans (p4 2 (by decide) (by decide))).trans (by decide)
    have y3 : f_X6_byteAt mtp tz (fr + 3) = 103 := ((B 3 (by decide) (by decide)).trans (p4 3 (by decide) (by decide))).trans (by decide)
    have y4 : f_X6_byteAt mtp tz (fr + 4) = 104 := ((B 4 (by decide) (by decide)).trans (p4 4 (by decide) (by decide))).trans (by decide)
    have yl : f_X6_byteAt mtp tz (tt - 1) = 104 := by rw [tk_last k (M := 4) p2 (by decide) (by decide)]; exact y4
    exact mV.mpr ⟨⟨p1, p2, y0, y1, y2, yl⟩, y3⟩
  · intro w0
    have w := mV.mp w0
    have B := tk_by h k (w.1.2.1)
    have L : ∀ {c : Int32}, f_X6_byteAt mtp tz (tt - 1) = c → f_X6_byteAt mtp tz (fr + 4) = c := fun z => by rw [← tk_last k (M := 4) (w.1.2.1) (by decide) (by decide)]; exact z
    refine ⟨w.1.1, w.1.2.1, tk_le k, fun i i0 i1 => ?_⟩
    obtain ⟨n, e, _⟩ := ofI (x := i) (B := 5) i0 i1
    rw [e]
    match n with
    | ⟨0, _⟩ =>
      have z : f_X6_byteAt mtp tz (fr + 0) = 99 := by rw [Int32.add_zero]; exact w.1.2.2.1
      show bs (fr + 0).toNatClampNeg = kch 9 (Int32.toNatClampNeg 0)
      exact ((B 0 (by decide) (by decide)).symm.trans z).trans (by decide)
    | ⟨1, _⟩ =>
      have z : f_X6_byteAt mtp tz (fr + 1) = 111 := w.1.2.2.2.1
      show bs (fr + 1).toNatClampNeg = kch 9 (Int32.toNatClampNeg 1)
      exact ((B 1 (by decide) (by decide)).symm.trans z).trans (by decide)
    | ⟨2, _⟩ =>
      have z : f_X6_byteAt mtp tz (fr + 2) = 117 := w.1.2.2.2.2.1
      show bs (fr + 2).toNatClampNeg = kch 9 (Int32.toNatClampNeg 2)
      exact ((B 2 (by decide) (by decide)).symm.trans z).trans (by decide)
    | ⟨3, _⟩ =>
      have z : f_X6_byteAt mtp tz (fr + 3) = 103 := w.2
      show bs (fr + 3).toNatClampNeg = kch 9 (Int32.toNatClampNeg 3)
      exact ((B 3 (by decide) (by decide)).symm.trans z).trans (by decide)
    | ⟨4, _⟩ =>
      have z : f_X6_byteAt mtp tz (fr + 4) = 104 := L w.1.2.2.2.2.2
      show bs (fr + 4).toNatClampNeg = kch 9 (Int32.toNatClampNeg 4)
      exact ((B 4 (by decide) (by decide)).symm.trans z).trans (by decide)
theorem q_10 (h : RTp bs mtp tz) (k : TK bs tz so fr tt vl) : (¬ f_X3_isName__n10 bs tz so fr tt = 0) ↔ (so = 1 ∧ tt - fr = 2 ∧ f_X6_byteAt mtp tz fr = 97 ∧ f_X6_byteAt mtp tz (fr + 1) = 116) := by
  rw [nm_10]
  constructor
  · rintro ⟨p1, p2, p3, p4⟩
    have B := tk_by h k p2
    have y0 : f_X6_byteAt mtp tz fr = 97 := by
      have z := (B 0 (by decide) (by decide)).trans (p4 0 (by decide) (by decide))
      rw [Int32.add_zero] at z
      exact z.trans (by decide)
    have y1 : f_X6_byteAt mtp tz (fr + 1) = 116 := ((B 1 (by decide) (by decide)).trans (p4 1 (by decide) (by decide))).trans (by decide)
    exact ⟨p1, p2, y0, y1⟩
  · intro w
    have B := tk_by h k (w.2.1)
    refine ⟨w.1, w.2.1, tk_le k, fun i i0 i1 => ?_⟩
    obtain ⟨n, e, _⟩ := ofI (x := i) (B := 2) i0 i1
    rw [e]
    match n with
    | ⟨0, _⟩ =>
      have z : f_X6_byteAt mtp tz (fr + 0) = 97 := by rw [Int32.add_zero]; exact w.2.2.1
      show bs (fr + 0).toNatClampNeg = kch 10 (Int32.toNatClampNeg 0)
      exact ((B 0 (by decide) (by decide)).symm.trans z).trans (by decide)
    | ⟨1, _⟩ =>
      have z : f_X6_byteAt mtp tz (fr + 1) = 116 := w.2.2.2
      show bs (fr + 1).toNatClampNeg = kch 10 (Int32.toNatClampNeg 1)
      exact ((B 1 (by decide) (by decide)).symm.trans z).trans (by decide)
theorem q_11 (h : RTp bs mtp tz) (k : TK bs tz so fr tt vl) : (¬ f_X3_isName__n11 bs tz so fr tt = 0) ↔ (¬ f_X6_isFour mtp tz so fr tt 98 101 97 116 = 0) := by
  rw [nm_11]
  constructor
  · rintro ⟨p1, p2, p3, p4⟩
    have B := tk_by h k p2
    have y0 : f_X6_byteAt mtp tz fr = 98 := by
      have z := (B 0 (by decide) (by decide)).trans (p4 0 (by decide) (by decide))
      rw [Int32.add_zero] at z
      exact z.trans (by decide)
    have y1 : f_X6_byteAt mtp tz (fr + 1) = 101 := ((B 1 (by decide) (by decide)).trans (p4 1 (by decide) (by decide))).trans (by decide)
    have y2 : f_X6_byteAt mtp tz (fr + 2) = 97 := ((B 2 (by decide) (by decide)).trans (p4 2 (by decide) (by decide))).trans (by decide)
    have y3 : f_X6_byteAt mtp tz (fr + 3) = 116 := ((B 3 (by decide) (by decide)).trans (p4 3 (by decide) (by decide))).trans (by decide)
    have yl : f_X6_byteAt mtp tz (tt - 1) = 116 := by rw [tk_last k (M := 3) p2 (by decide) (by decide)]; exact y3
    exact mF.mpr ⟨p1, p2, y0, y1, y2, yl⟩
  · intro w0
    have w := mF.mp w0
    have B := tk_by h k (w.2.1)
    have L : ∀ {c : Int32}, f_X6_byteAt mtp tz (tt - 1) = c → f_X6_byteAt mtp tz (fr + 3) = c := fun z => by rw [← tk_last k (M := 3) (w.2.1) (by decide) (by decide)]; exact z
    refine ⟨w.1, w.2.1, tk_le k, fun i i0 i1 => ?_⟩
    obtain ⟨n, e, _⟩ := ofI (x := i) (B := 4) i0 i1
    rw [e]
    match n with
    | ⟨0, _⟩ =>
      have z : f_X6_byteAt mtp tz (fr + 0) = 98 := by rw [Int32.add_zero]; exact w.2.2.1
      show bs (fr + 0).toNatClampNeg = kch 11 (Int32.toNatClampNeg 0)
      exact ((B 0 (by decide) (by decide)).symm.trans z).trans (by decide)
    | ⟨1, _⟩ =>
      have z : f_X6_byteAt mtp tz (fr + 1) = 101 := w.2.2.2.1
      show bs (fr + 1).toNatClampNeg = kch 11 (Int32.toNatClampNeg 1)
      exact ((B 1 (by decide) (by decide)).symm.trans z).trans (by decide)
    | ⟨2, _⟩ =>
      have z : f_X6_byteAt mtp tz (fr + 2) = 97 := w.2.2.2.2.1
      show bs (fr + 2).toNatClampNeg = kch 11 (Int32.toNatClampNeg 2)
      exact ((B 2 (by decide) (by decide)).symm.trans z).trans (by decide)
    | ⟨3, _⟩ =>
      have z : f_X6_byteAt mtp tz (fr + 3) = 116 := L w.2.2.2.2.2
      show bs (fr + 3).toNatClampNeg = kch 11 (Int32.toNatClampNeg 3)
      exact ((B 3 (by decide) (by decide)).symm.trans z).trans (by decide)
theorem q_12 (h : RTp bs mtp tz) (k : TK bs tz so fr tt vl) : (¬ f_X3_isName__n12 bs tz so fr tt = 0) ↔ (¬ f_X6_isFive mtp tz so fr tt 112 104 97 115 101 = 0) := by
  rw [nm_12]
  constructor
  · rintro ⟨p1, p2, p3, p4⟩
    have B := tk_by h k p2
    have y0 : f_X6_byteAt mtp tz fr = 112 := by
      have z := (B 0 (by decide) (by decide)).trans (p4 0 (by decide) (by decide))
      rw [Int32.add_zero] at z
      exact z.trans (by decide)
    have y1 : f_X6_byteAt mtp tz (fr + 1) = 104 := ((B 1 (by decide) (by decide)).trans (p4 1 (by decide) (by decide))).trans (by decide)
    have y2 : f_X6_byteAt mtp tz (fr + 2) = 97 := ((B 2 (by decide) (by decide)).trans (p4 2 (by decide) (by decide))).trans (by decide)
    have y3 : f_X6_byteAt mtp tz (fr + 3) = 115 := ((B 3 (by decide) (by decide)).trans (p4 3 (by decide) (by decide))).trans (by decide)
    have y4 : f_X6_byteAt mtp tz (fr + 4) = 101 := ((B 4 (by decide) (by decide)).trans (p4 4 (by decide) (by decide))).trans (by decide)
    have yl : f_X6_byteAt mtp tz (tt - 1) = 101 := by rw [tk_last k (M := 4) p2 (by decide) (by decide)]; exact y4
    exact mV.mpr ⟨⟨p1, p2, y0, y1, y2, yl⟩, y3⟩
  · intro w0
    have w := mV.mp w0
    have B := tk_by h k (w.1.2.1)
    have L : ∀ {c : Int32}, f_X6_byteAt mtp tz (tt - 1) = c → f_X6_byteAt mtp tz (fr + 4) = c := fun z => by rw [← tk_last k (M := 4) (w.1.2.1) (by decide) (by decide)]; exact z
    refine ⟨w.1.1, w.1.2.1, tk_le k, fun i i0 i1 => ?_⟩
    obtain ⟨n, e, _⟩ := ofI (x := i) (B := 5) i0 i1
    rw [e]
    match n with
    | ⟨0, _⟩ =>
      have z : f_X6_byteAt mtp tz (fr + 0) = 112 := by rw [Int32.add_zero]; exact w.1.2.2.1
      show bs (fr + 0).toNatClampNeg = kch 12 (Int32.toNatClampNeg 0)
      exact ((B 0 (by decide) (by decide)).symm.trans z).trans (by decide)
    | ⟨1, _⟩ =>
      have z : f_X6_byteAt mtp tz (fr + 1) = 104 := w.1.2.2.2.1
      show bs (fr + 1).toNatClampNeg = kch 12 (Int32.toNatClampNeg 1)
      exact ((B 1 (by decide) (by decide)).symm.trans z).trans (by decide)
    | ⟨2, _⟩ =>
      have z : f_X6_byteAt mtp tz (fr + 2) = 97 := w.1.2.2.2.2.1
      show bs (fr + 2).toNatClampNeg = kch 12 (Int32.toNatClampNeg 2)
      exact ((B 2 (by decide) (by decide)).symm.trans z).trans (by decide)
    | ⟨3, _⟩ =>
      have z : f_X6_byteAt mtp tz (fr + 3) = 115 := w.2
      show bs (fr + 3).toNatClampNeg = kch 12 (Int32.toNatClampNeg 3)
      exact ((B 3 (by decide) (by decide)).symm.trans z).trans (by decide)
    | ⟨4, _⟩ =>
      have z : f_X6_byteAt mtp tz (fr + 4) = 101 := L w.1.2.2.2.2.2
      show bs (fr + 4).toNatClampNeg = kch 12 (Int32.toNatClampNeg 4)
      exact ((B 4 (by decide) (by decide)).symm.trans z).trans (by decide)
def t1 (a v r : Int32) : Int32 := if a = 0 then r else v
def t2 (a b v r : Int32) : Int32 := if a = 0 then r else if b = 0 then r else v
def t3 (a b c v r : Int32) : Int32 := if a = 0 then r else if b = 0 then r else if c = 0 then r else v
theorem t1_q {n a v r : Int32} (h : (¬ n = 0) ↔ (¬ a = 0)) : t1 n v r = t1 a v r := by
  unfold t1
  by_cases c : a = 0
  · rw [if_pos c, if_pos (Classical.byContradiction fun w => h.mp w c)]
  · rw [if_neg c, if_neg (h.mpr c)]
theorem t2_q {n a b v r : Int32} (h : (¬ n = 0) ↔ ((¬ a = 0) ∧ (¬ b = 0))) : t1 n v r = t2 a b v r := by
  unfold t1 t2
  by_cases c : a = 0
  · rw [if_pos c, if_pos (Classical.byContradiction fun w => (h.mp w).1 c)]
  · rw [if_neg c]
    by_cases d : b = 0
    · rw [if_pos d, if_pos (Classical.byContradiction fun w => (h.mp w).2 d)]
    · rw [if_neg d, if_neg (h.mpr ⟨c, d⟩)]
theorem t3_q {n a b e v r : Int32} (h : (¬ n = 0) ↔ ((¬ a = 0) ∧ (¬ b = 0) ∧ (¬ e = 0))) : t1 n v r = t3 a b e v r := by
  unfold t1 t3
  by_cases c : a = 0
  · rw [if_pos c, if_pos (Classical.byContradiction fun w => (h.mp w).1 c)]
  · rw [if_neg c]
    by_cases d : b = 0
    · rw [if_pos d, if_pos (Classical.byContradiction fun w => (h.mp w).2.1 d)]
    · rw [if_neg d]
      by_cases g : e = 0
      · rw [if_pos g, if_pos (Classical.byContradiction fun w => (h.mp w).2.2 g)]
      · rw [if_neg g, if_neg (h.mpr ⟨c, d, g⟩)]
theorem kn_t : f_X3_kindNamed bs tz so fr tt = t1 (f_X3_isName__n0 bs tz so fr tt) 0 (t1 (f_X3_isName__n1 bs tz so fr tt) 1 (t1 (f_X3_isName__n2 bs tz so fr tt) 2 (t1 (f_X3_isName__n3 bs tz so fr tt) 3 (t1 (f_X3_isName__n4 bs tz so fr tt) 4 (t1 (f_X3_isName__n5 bs tz so fr tt) 5 (-1)))))) := rfl
theorem kh_t : f_X6_kindHere mtp tz so fr tt = t3 (f_X6_isName mtp tz so fr tt 9 110 101 105 114) (f_X6_isSame mtp tz fr 3 103 104 98) (f_X6_isSame mtp tz fr 6 111 117 114) 0 (t1 (f_X6_isFour mtp tz so fr tt 99 111 111 107) 1 (t2 (f_X6_isName mtp tz so fr tt 7 115 111 108 114) (f_X6_isSame mtp tz fr 3 100 105 101) 2 (t1 (f_X6_isFive mtp tz so fr tt 98 97 107 101 114) 3 (t2 (f_X6_isName mtp tz so fr tt 7 111 102 102 114) (f_X6_isSame mtp tz fr 3 105 99 101) 4 (t2 (f_X6_isName mtp tz so fr tt 6 109 111 116 114) (f_X6_isSame mtp tz fr 2 116 104 101) 5 (-1)))))) := rfl
theorem kind_eq (h : RTp bs mtp tz) (k : TK bs tz so fr tt vl) : f_X3_kindNamed bs tz so fr tt = f_X6_kindHere mtp tz so fr tt := by
  rw [kn_t, kh_t, t3_q (q_0 h k), t1_q (q_1 h k), t2_q (q_2 h k), t1_q (q_3 h k), t2_q (q_4 h k), t2_q (q_5 h k)]
theorem ln_t : f_X3_lawNamed bs tz so fr tt = t1 (f_X3_isName__n6 bs tz so fr tt) 0 (t1 (f_X3_isName__n7 bs tz so fr tt) 1 (t1 (f_X3_isName__n8 bs tz so fr tt) 2 (t1 (f_X3_isName__n9 bs tz so fr tt) 3 (-1)))) := rfl
theorem lh_t : f_X6_lawHere mtp tz so fr tt = t1 (f_X6_isFour mtp tz so fr tt 103 111 97 108) 6 (t1 (f_X6_isFour mtp tz so fr tt 108 111 117 100) 7 (t1 (f_X6_isFive mtp tz so fr tt 119 97 116 99 104) 8 (t1 (f_X6_isFive mtp tz so fr tt 99 111 117 103 104) 9 (-1)))) := rfl
theorem law_eq (h : RTp bs mtp tz) (k : TK bs tz so fr tt vl) : (f_X3_lawNamed bs tz so fr tt = -1 ∧ f_X6_lawHere mtp tz so fr tt = -1) ∨ (f_X3_lawNamed bs tz so fr tt = 0 ∧ f_X6_lawHere mtp tz so fr tt = 6) ∨ (f_X3_lawNamed bs tz so fr tt = 1 ∧ f_X6_lawHere mtp tz so fr tt = 7) ∨ (f_X3_lawNamed bs tz so fr tt = 2 ∧ f_X6_lawHere mtp tz so fr tt = 8) ∨ (f_X3_lawNamed bs tz so fr tt = 3 ∧ f_X6_lawHere mtp tz so fr tt = 9) := by
  rw [ln_t, lh_t, ← t1_q (q_6 h k), ← t1_q (q_7 h k), ← t1_q (q_8 h k), ← t1_q (q_9 h k)]
  unfold t1
  by_cases c0 : f_X3_isName__n6 bs tz so fr tt = 0
  · rw [if_pos c0, if_pos c0]
    by_cases c1 : f_X3_isName__n7 bs tz so fr tt = 0
    · rw [if_pos c1, if_pos c1]
      by_cases c2 : f_X3_isName__n8 bs tz so fr tt = 0
      · rw [if_pos c2, if_pos c2]
        by_cases c3 : f_X3_isName__n9 bs tz so fr tt = 0
        · rw [if_pos c3, if_pos c3]; exact .inl ⟨rfl, rfl⟩
        · rw [if_neg c3, if_neg c3]; exact .inr (.inr (.inr (.inr ⟨rfl, rfl⟩)))
      · rw [if_neg c2, if_neg c2]; exact .inr (.inr (.inr (.inl ⟨rfl, rfl⟩)))
    · rw [if_neg c1, if_neg c1]; exact .inr (.inr (.inl ⟨rfl, rfl⟩))
  · rw [if_neg c0, if_neg c0]; exact .inr (.inl ⟨rfl, rfl⟩)
theorem kind_in : f_X3_kindNamed bs tz so fr tt = -1 ∨ (0 ≤ (f_X3_kindNamed bs tz so fr tt).toInt ∧ (f_X3_kindNamed bs tz so fr tt).toInt ≤ 5 ∧ ((¬ f_X3_isName__n0 bs tz so fr tt = 0) ∨ (¬ f_X3_isName__n1 bs tz so fr tt = 0) ∨ (¬ f_X3_isName__n2 bs tz so fr tt = 0) ∨ (¬ f_X3_isName__n3 bs tz so fr tt = 0) ∨ (¬ f_X3_isName__n4 bs tz so fr tt = 0) ∨ (¬ f_X3_isName__n5 bs tz so fr tt = 0))) := by
  rw [kn_t]
  unfold t1
  by_cases c0 : f_X3_isName__n0 bs tz so fr tt = 0
  · rw [if_pos c0]
    by_cases c1 : f_X3_isName__n1 bs tz so fr tt = 0
    · rw [if_pos c1]
      by_cases c2 : f_X3_isName__n2 bs tz so fr tt = 0
      · rw [if_pos c2]
        by_cases c3 : f_X3_isName__n3 bs tz so fr tt = 0
        · rw [if_pos c3]
          by_cases c4 : f_X3_isName__n4 bs tz so fr tt = 0
          · rw [if_pos c4]
            by_cases c5 : f_X3_isName__n5 bs tz so fr tt = 0
            · rw [if_pos c5]; exact .inl rfl
            · rw [if_neg c5]; exact .inr ⟨by decide, by decide, .inr (.inr (.inr (.inr (.inr c5))))⟩
          · rw [if_neg c4]; exact .inr ⟨by decide, by decide, .inr (.inr (.inr (.inr (.inl c4))))⟩
        · rw [if_neg c3]; exact .inr ⟨by decide, by decide, .inr (.inr (.inr (.inl c3)))⟩
      · rw [if_neg c2]; exact .inr ⟨by decide, by decide, .inr (.inr (.inl c2))⟩
    · rw [if_neg c1]; exact .inr ⟨by decide, by decide, .inr (.inl c1)⟩
  · rw [if_neg c0]; exact .inr ⟨by decide, by decide, .inl c0⟩
theorem kind_law (h : 0 ≤ (f_X3_kindNamed bs tz so fr tt).toInt) : f_X3_lawNamed bs tz so fr tt = -1 := by
  rcases kind_in (bs := bs) (tz := tz) (so := so) (fr := fr) (tt := tt) with c | ⟨_, _, c⟩
  · rw [c] at h; exact absurd h (by decide)
  · rw [ln_t]
    unfold t1
    rcases c with c | c | c | c | c | c
    · have p := nm_0.mp c
      have e6 : f_X3_isName__n6 bs tz so fr tt = 0 := Classical.byContradiction fun w => by
        have r := nm_6.mp w
        exact absurd (p.2.1.symm.trans r.2.1) (by decide)
      have e7 : f_X3_isName__n7 bs tz so fr tt = 0 := Classical.byContradiction fun w => by
        have r := nm_7.mp w
        exact absurd (p.2.1.symm.trans r.2.1) (by decide)
      have e8 : f_X3_isName__n8 bs tz so fr tt = 0 := Classical.byContradiction fun w => by
        have r := nm_8.mp w
        exact absurd (p.2.1.symm.trans r.2.1) (by decide)
      have e9 : f_X3_isName__n9 bs tz so fr tt = 0 := Classical.byContradiction fun w => by
        have r := nm_9.mp w
        exact absurd (p.2.1.symm.trans r.2.1) (by decide)
      rw [if_pos e6, if_pos e7, if_pos e8, if_pos e9]
    · have p := nm_1.mp c
      have e6 : f_X3_isName__n6 bs tz so fr tt = 0 := Classical.byContradiction fun w => by
        have r := nm_6.mp w
        exact absurd ((p.2.2.2 0 (by decide) (by decide)).symm.trans (r.2.2.2 0 (by decide) (by decide))) (by decide)
      have e7 : f_X3_isName__n7 bs tz so fr tt = 0 := Classical.byContradiction fun w => by
        have r := nm_7.mp w
        exact absurd ((p.2.2.2 0 (by decide) (by decide)).symm.trans (r.2.2.2 0 (by decide) (by decide))) (by decide)
      have e8 : f_X3_isName__n8 bs tz so fr tt = 0 := Classical.byContradiction fun w => by
        have r := nm_8.mp w
        exact absurd (p.2.1.symm.trans r.2.1) (by decide)
      have e9 : f_X3_isName__n9 bs tz so fr tt = 0 := Classical.byContradiction fun w => by
        have r := nm_9.mp w
        exact absurd (p.2.1.symm.trans r.2.1) (by decide)
      rw [if_pos e6, if_pos e7, if_pos e8, if_pos e9]
    · have p := nm_2.mp c
      have e6 : f_X3_isName__n6 bs tz so fr tt = 0 := Classical.byContradiction fun w => by
        have r := nm_6.mp w
        exact absurd (p.2.1.symm.trans r.2.1) (by decide)
      have e7 : f_X3_isName__n7 bs tz so fr tt = 0 := Classical.byContradiction fun w => by
        have r := nm_7.mp w
        exact absurd (p.2.1.symm.trans r.2.1) (by decide)
      have e8 : f_X3_isName__n8 bs tz so fr tt = 0 := Classical.byContradiction fun w => by
        have r := nm_8.mp w
        exact absurd (p.2.1.symm.trans r.2.1) (by decide)
      have e9 : f_X3_isName__n9 bs tz so fr tt = 0 := Classical.byContradiction fun w => by
        have r := nm_9.mp w
        exact absurd (p.2.1.symm.trans r.2.1) (by decide)
      rw [if_pos e6, if_pos e7, if_pos e8, if_pos e9]
    · have p := nm_3.mp c
      have e6 : f_X3_isName__n6 bs tz so fr tt = 0 := Classical.byContradiction fun w => by
        have r := nm_6.mp w
        exact absurd (p.2.1.symm.trans r.2.1) (by decide)
      have e7 : f_X3_isName__n7 bs tz so fr tt = 0 := Classical.byContradiction fun w => by
        have r := nm_7.mp w
        exact absurd (p.2.1.symm.trans r.2.1) (by decide)
      have e8 : f_X3_isName__n8 bs tz so fr tt = 0 := Classical.byContradiction fun w => by
        have r := nm_8.mp w
        exact absurd ((p.2.2.2 0 (by decide) (by decide)).symm.trans (r.2.2.2 0 (by decide) (by decide))) (by decide)
      have e9 : f_X3_isName__n9 bs tz so fr tt = 0 := Classical.byContradiction fun w => by
        have r := nm_9.mp w
        exact absurd ((p.2.2.2 0 (by decide) (by decide)).symm.trans (r.2.2.2 0 (by decide) (by decide))) (by decide)
      rw [if_pos e6, if_pos e7, if_pos e8, if_pos e9]
    · have p := nm_4.mp c
      have e6 : f_X3_isName__n6 bs tz so fr tt = 0 := Classical.byContradiction fun w => by
        have r := nm_6.mp w
        exact absurd (p.2.1.symm.trans r.2.1) (by decide)
      have e7 : f_X3_isName__n7 bs tz so fr tt = 0 := Classical.byContradiction fun w => by
        have r := nm_7.mp w
        exact absurd (p.2.1.symm.trans r.2.1) (by decide)
      have e8 : f_X3_isName__n8 bs tz so fr tt = 0 := Classical.byContradiction fun w => by
        have r := nm_8.mp w
        exact absurd (p.2.1.symm.trans r.2.1) (by decide)
      have e9 : f_X3_isName__n9 bs tz so fr tt = 0 := Classical.byContradiction fun w => by
        have r := nm_9.mp w
        exact absurd (p.2.1.symm.trans r.2.1) (by decide)
      rw [if_pos e6, if_pos e7, if_pos e8, if_pos e9]
    · have p := nm_5.mp c
      have e6 : f_X3_isName__n6 bs tz so fr tt = 0 := Classical.byContradiction fun w => by
        have r := nm_6.mp w
        exact absurd (p.2.1.symm.trans r.2.1) (by decide)
      have e7 : f_X3_isName__n7 bs tz so fr tt = 0 := Classical.byContradiction fun w => by
        have r := nm_7.mp w
        exact absurd (p.2.1.symm.trans r.2.1) (by decide)
      have e8 : f_X3_isName__n8 bs tz so fr tt = 0 := Classical.byContradiction fun w => by
        have r := nm_8.mp w
        exact absurd (p.2.1.symm.trans r.2.1) (by decide)
      have e9 : f_X3_isName__n9 bs tz so fr tt = 0 := Classical.byContradiction fun w => by
        have r := nm_9.mp w
        exact absurd (p.2.1.symm.trans r.2.1) (by decide)
      rw [if_pos e6, if_pos e7, if_pos e8, if_pos e9]
end TW2
