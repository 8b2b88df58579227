/-! acts: the class's bodies against the model's -/
def RB2 (bo mbo : Nat → Int32) (bg : Int32) : Prop := (0 ≤ bg.toInt ∧ bg.toInt ≤ 30) ∧ ∀ k : Nat, (k : Int) < bg.toInt → bo k = mbo k
def Q3 (p q : Int32 × (Nat → Int32) × Int32) : Prop := p.1 = q.1 ∧ p.2.2 = q.2.2 ∧ RB2 p.2.1 q.2.1 q.2.2
def Q4 (p q : Int32 × (Nat → Int32) × Int32 × Int32) : Prop := p.1 = q.1 ∧ p.2.2.1 = q.2.2.1 ∧ p.2.2.2 = q.2.2.2 ∧ RB2 p.2.1 q.2.1 q.2.2.1
theorem runs_ok {bo mbo : Nat → Int32} {bg : Int32} (n : Int32) (h : RB2 bo mbo bg) : (f_X6_runs bo bg n).2 = (f_X6_runs mbo bg n).2 ∧ RB2 (f_X6_runs bo bg n).1 (f_X6_runs mbo bg n).1 (f_X6_runs mbo bg n).2 := by
  unfold f_X6_runs
  by_cases c : (30 : Int32) ≤ bg
  · rw [if_pos c, if_pos c]; exact ⟨rfl, h⟩
  · rw [if_neg c, if_neg c]
    refine ⟨rfl, ?_⟩
    have hs := cnt_step (B := 30) h.1.1 (by decide) (by decide) c
    have e1 := i32_add1 (i := bg) (by omega)
    have ec := cl_nn h.1.1
    refine ⟨⟨hs.1, hs.2.1⟩, fun k hk => ?_⟩
    have hk' : (k : Int) < (bg + 1).toInt := hk
    show upd bo bg.toNatClampNeg n k = upd mbo bg.toNatClampNeg n k
    by_cases e : k = bg.toNatClampNeg
    · rw [e, pk_us, pk_us]
    · rw [pk_un e, pk_un e]; exact h.2 k (by omega)
theorem pr3_id {α β γ : Type} (p : α × β × γ) : pr3 p (fun a b c => (a, b, c)) = p := rfl
theorem pr4_id {α β γ δ : Type} (p : α × β × γ × δ) : pr4 p (fun a b c d => (a, b, c, d)) = p := rfl
theorem a_b10 {bo mbo : Nat → Int32} {bg an x2 x3 : Int32} (h : RB2 bo mbo bg) (h0 : 0 ≤ x3.toInt) (h1 : x3.toInt ≤ 40) : Q3 (f_X0_body__b10 bo bg an 0 x2 x3) (f_X6_ticksPlain mbo bg an x2) := by
  have e1 := i32_add1 (i := x3) (by omega)
  unfold f_X0_body__b10 f_X6_ticksPlain
  rw [if_pos rfl, if_pos (show x3 ≤ 40 by rw [i32_le, show (40 : Int32).toInt = 40 from rfl]; omega)]
  have hr := runs_ok (10 : Int32) h
  change Q3 (pr2 (f_X6_runs bo bg 10) _) _
  generalize f_X6_runs bo bg 10 = p at hr ⊢
  generalize f_X6_runs mbo bg 10 = q at hr ⊢
  obtain ⟨p0, p1⟩ := p
  obtain ⟨q0, q1⟩ := q
  obtain ⟨e2, hr⟩ := hr
  have e2 : p1 = q1 := e2
  subst e2
  have hr0 : RB2 p0 q0 p1 := hr
  rw [pr2_mk p0 p1, pr2_mk q0 p1]
  exact ⟨rfl, rfl, hr0⟩
theorem a_b30 {bo mbo : Nat → Int32} {bg an x2 x3 : Int32} (h : RB2 bo mbo bg) (h0 : 0 ≤ x3.toInt) (h1 : x3.toInt ≤ 39) : Q3 (f_X0_body__b30 bo bg an 0 x2 x3) (f_X6_ticksOfSoldier mbo bg an x2) := by
  have e1 := i32_add1 (i := x3) (by omega)
  unfold f_X0_body__b30 f_X6_ticksOfSoldier
  rw [if_pos rfl, if_pos (show x3 ≤ 40 by rw [i32_le, show (40 : Int32).toInt = 40 from rfl]; omega)]
  have hr := runs_ok (30 : Int32) h
  change Q3 (pr2 (f_X6_runs bo bg 30) _) _
  generalize f_X6_runs bo bg 30 = p at hr ⊢
  generalize f_X6_runs mbo bg 30 = q at hr ⊢
  obtain ⟨p0, p1⟩ := p
  obtain ⟨q0, q1⟩ := q
  obtain ⟨e2, hr⟩ := hr
  have e2 : p1 = q1 := e2
  subst e2
  have hr0 : RB2 p0 q0 p1 := hr
  rw [pr2_mk p0 p1, pr2_mk q0 p1]
  have s0 := a_b10 (an := an) (x2 := x2) (x3 := (x3 + 1)) hr0 (by omega) (by omega)
  generalize f_X0_body__b10 p0 p1 an 0 x2 (x3 + 1) = u0 at s0 ⊢
  generalize f_X6_ticksPlain q0 p1 an x2 = v0 at s0 ⊢
  obtain ⟨u0a, u0b, u0c⟩ := u0
  obtain ⟨v0a, v0b, v0c⟩ := v0
  obtain ⟨g01, g02, g03⟩ := s0
  have g01 : u0a = v0a := g01
  have g02 : u0c = v0c := g02
  subst g01
  subst g02
  have g03 : RB2 u0b v0b u0c := g03
  rw [pr3_mk u0a u0b u0c, pr3_mk u0a v0b u0c]
  exact ⟨rfl, rfl, g03⟩
theorem a_b51 {bo mbo : Nat → Int32} {bg an aa x2 x3 : Int32} (h : RB2 bo mbo bg) (h0 : 0 ≤ x3.toInt) (h1 : x3.toInt ≤ 39) : Q3 (f_X0_body__b51 bo bg an aa 0 x2 x3) (pr2 (f_X6_runs mbo bg (51 : Int32)) (fun m3 r3 => pr3 (f_X6_ticksPlain m3 r3 an x2) (fun r4 m4 r44 => ((r4 + aa), m4, r44)))) := by
  have e1 := i32_add1 (i := x3) (by omega)
  unfold f_X0_body__b51
  rw [if_pos rfl, if_pos (show x3 ≤ 40 by rw [i32_le, show (40 : Int32).toInt = 40 from rfl]; omega)]
  have hr := runs_ok (51 : Int32) h
  change Q3 (pr2 (f_X6_runs bo bg 51) _) _
  generalize f_X6_runs bo bg 51 = p at hr ⊢
  generalize f_X6_runs mbo bg 51 = q at hr ⊢
  obtain ⟨p0, p1⟩ := p
  obtain ⟨q0, q1⟩ := q
  obtain ⟨e2, hr⟩ := hr
  have e2 : p1 = q1 := e2
  subst e2
  have hr0 : RB2 p0 q0 p1 := hr
  rw [pr2_mk p0 p1, pr2_mk q0 p1]
  have s0 := a_b10 (an := an) (x2 := x2) (x3 := (x3 + 1)) hr0 (by omega) (by omega)
  generalize f_X0_body__b10 p0 p1 an 0 x2 (x3 + 1) = u0 at s0 ⊢
  generalize f_X6_ticksPlain q0 p1 an x2 = v0 at s0 ⊢
  obtain ⟨u0a, u0b, u0c⟩ := u0
  obtain ⟨v0a, v0b, v0c⟩ := v0
  obtain ⟨g01, g02, g03⟩ := s0
  have g01 : u0a = v0a := g01
  have g02 : u0c = v0c := g02
  subst g01
  subst g02
  have g03 : RB2 u0b v0b u0c := g03
  rw [pr3_mk u0a u0b u0c, pr3_mk u0a v0b u0c]
  exact ⟨rfl, rfl, g03⟩
theorem a_b40 {bo mbo : Nat → Int32} {bg an x2 x3 : Int32} (h : RB2 bo mbo bg) (h0 : 0 ≤ x3.toInt) (h1 : x3.toInt ≤ 38) : Q3 (f_X0_body__b40 bo bg an 0 x2 x3) (pr2 (f_X6_runs mbo bg (40 : Int32)) (fun m3 r3 => pr3 (f_X6_ticksOfSoldier m3 r3 an x2) (fun r4 m4 r44 => ((r4 - 9), m4, r44)))) := by
  have e1 := i32_add1 (i := x3) (by omega)
  unfold f_X0_body__b40
  rw [if_pos rfl, if_pos (show x3 ≤ 40 by rw [i32_le, show (40 : Int32).toInt = 40 from rfl]; omega)]
  have hr := runs_ok (40 : Int32) h
  change Q3 (pr2 (f_X6_runs bo bg 40) _) _
  generalize f_X6_runs bo bg 40 = p at hr ⊢
  generalize f_X6_runs mbo bg 40 = q at hr ⊢
  obtain ⟨p0, p1⟩ := p
  obtain ⟨q0, q1⟩ := q
  obtain ⟨e2, hr⟩ := hr
  have e2 : p1 = q1 := e2
  subst e2
  have hr0 : RB2 p0 q0 p1 := hr
  rw [pr2_mk p0 p1, pr2_mk q0 p1]
  have s0 := a_b30 (an := an) (x2 := x2) (x3 := (x3 + 1)) hr0 (by omega) (by omega)
  generalize f_X0_body__b30 p0 p1 an 0 x2 (x3 + 1) = u0 at s0 ⊢
  generalize f_X6_ticksOfSoldier q0 p1 an x2 = v0 at s0 ⊢
  obtain ⟨u0a, u0b, u0c⟩ := u0
  obtain ⟨v0a, v0b, v0c⟩ := v0
  obtain ⟨g01, g02, g03⟩ := s0
  have g01 : u0a = v0a := g01
  have g02 : u0c = v0c := g02
  subst g01
  subst g02
  have g03 : RB2 u0b v0b u0c := g03
  rw [pr3_mk u0a u0b u0c, pr3_mk u0a v0b u0c]
  exact ⟨rfl, rfl, g03⟩
theorem a_o0 {bo mbo : Nat → Int32} {bg ak an aa x2 x3 : Int32} (h : RB2 bo mbo bg) (hk : ak = 0 ∨ ak = 1 ∨ ak = 2 ∨ ak = 3 ∨ ak = 4 ∨ ak = 5) (h0 : 0 ≤ x3.toInt) (h1 : x3.toInt ≤ 37) : Q3 (f_X0_own__o0 bo bg ak an aa 0 x2 x3) (f_X6_ticks mbo bg ak an aa x2) := by
  have e1 := i32_add1 (i := x3) (by omega)
  unfold f_X0_own__o0 f_X6_ticks
  rcases hk with rfl | rfl | rfl | rfl | rfl | rfl
  · rw [if_pos rfl, if_neg (show ¬ f_X5_isIn (0 : Int32) (0 : Int32) (23 : Int32) = 0 by decide), if_neg (by decide), if_neg (by decide), if_neg (by decide)]
    have s := a_b10 (an := an) (x2 := x2) (x3 := x3 + 1) h (by omega) (by omega)
    exact s
  · rw [if_neg (by decide), if_pos rfl, if_neg (show ¬ f_X5_isIn (4 : Int32) (0 : Int32) (23 : Int32) = 0 by decide), if_neg (by decide), if_neg (by decide), if_neg (by decide)]
    have s := a_b10 (an := an) (x2 := x2) (x3 := x3 + 1) h (by omega) (by omega)
    exact s
  · rw [if_neg (by decide), if_neg (by decide), if_pos rfl, if_neg (show ¬ f_X5_isIn (8 : Int32) (0 : Int32) (23 : Int32) = 0 by decide), if_pos rfl]
    have s := a_b30 (an := an) (x2 := x2) (x3 := x3 + 1) h (by omega) (by omega)
    exact s
  · rw [if_neg (by decide), if_neg (by decide), if_neg (by decide), if_pos rfl, if_neg (show ¬ f_X5_isIn (12 : Int32) (0 : Int32) (23 : Int32) = 0 by decide), if_neg (by decide), if_pos rfl]
    have s := a_b51 (an := an) (aa := aa) (x2 := x2) (x3 := x3 + 1) h (by omega) (by omega)
    exact s
  · rw [if_neg (by decide), if_neg (by decide), if_neg (by decide), if_neg (by decide), if_pos rfl, if_neg (show ¬ f_X5_isIn (16 : Int32) (0 : Int32) (23 : Int32) = 0 by decide), if_neg (by decide), if_neg (by decide), if_pos rfl]
    have s := a_b40 (an := an) (x2 := x2) (x3 := x3 + 1) h (by omega) (by omega)
    exact s
  · rw [if_neg (by decide), if_neg (by decide), if_neg (by decide), if_neg (by decide), if_neg (by decide), if_neg (show ¬ f_X5_isIn (20 : Int32) (0 : Int32) (23 : Int32) = 0 by decide), if_neg (by decide), if_neg (by decide), if_neg (by decide)]
    have s := a_b10 (an := an) (x2 := x2) (x3 := x3 + 1) h (by omega) (by omega)
    exact s
theorem a_b11 {bo mbo : Nat → Int32} {bg ak an aa x2 x3 : Int32} (h : RB2 bo mbo bg) (hk : ak = 0 ∨ ak = 1 ∨ ak = 2 ∨ ak = 3 ∨ ak = 4 ∨ ak = 5) (h0 : 0 ≤ x3.toInt) (h1 : x3.toInt ≤ 37) : Q3 (f_X0_body__b11 bo bg ak an aa 0 x2 x3) (f_X6_ringsPlain mbo bg ak an aa x2) := by
  have e1 := i32_add1 (i := x3) (by omega)
  unfold f_X0_body__b11 f_X6_ringsPlain
  rw [if_pos rfl, if_pos (show x3 ≤ 40 by rw [i32_le, show (40 : Int32).toInt = 40 from rfl]; omega)]
  have hr := runs_ok (11 : Int32) h
  change Q3 (pr2 (f_X6_runs bo bg 11) _) _
  generalize f_X6_runs bo bg 11 = p at hr ⊢
  generalize f_X6_runs mbo bg 11 = q at hr ⊢
  obtain ⟨p0, p1⟩ := p
  obtain ⟨q0, q1⟩ := q
  obtain ⟨e2, hr⟩ := hr
  have e2 : p1 = q1 := e2
  subst e2
  have hr0 : RB2 p0 q0 p1 := hr
  rw [pr2_mk p0 p1, pr2_mk q0 p1]
  have s0 := a_o0 (ak := ak) (an := an) (aa := aa) (x2 := x2) (x3 := x3) hr0 hk (by omega) (by omega)
  generalize f_X0_own__o0 p0 p1 ak an aa 0 x2 x3 = u0 at s0 ⊢
  generalize f_X6_ticks q0 p1 ak an aa x2 = v0 at s0 ⊢
  obtain ⟨u0a, u0b, u0c⟩ := u0
  obtain ⟨v0a, v0b, v0c⟩ := v0
  obtain ⟨g01, g02, g03⟩ := s0
  have g01 : u0a = v0a := g01
  have g02 : u0c = v0c := g02
  subst g01
  subst g02
  have g03 : RB2 u0b v0b u0c := g03
  rw [pr3_mk u0a u0b u0c, pr3_mk u0a v0b u0c]
  exact ⟨rfl, rfl, g03⟩
theorem a_b20 {bo mbo : Nat → Int32} {bg ak an aa x2 x3 : Int32} (h : RB2 bo mbo bg) (hk : ak = 0 ∨ ak = 1 ∨ ak = 2 ∨ ak = 3 ∨ ak = 4 ∨ ak = 5) (h0 : 0 ≤ x3.toInt) (h1 : x3.toInt ≤ 36) : Q3 (f_X0_body__b20 bo bg ak an aa 0 x2 x3) (pr2 (f_X6_runs mbo bg (20 : Int32)) (fun m3 r3 => pr3 (f_X6_ringsPlain m3 r3 ak an aa x2) (fun r4 m4 r44 => ((r4 * 2), m4, r44)))) := by
  have e1 := i32_add1 (i := x3) (by omega)
  unfold f_X0_body__b20
  rw [if_pos rfl, if_pos (show x3 ≤ 40 by rw [i32_le, show (40 : Int32).toInt = 40 from rfl]; omega)]
  have hr := runs_ok (20 : Int32) h
  change Q3 (pr2 (f_X6_runs bo bg 20) _) _
  generalize f_X6_runs bo bg 20 = p at hr ⊢
  generalize f_X6_runs mbo bg 20 = q at hr ⊢
  obtain ⟨p0, p1⟩ := p
  obtain ⟨q0, q1⟩ := q
  obtain ⟨e2, hr⟩ := hr
  have e2 : p1 = q1 := e2
  subst e2
  have hr0 : RB2 p0 q0 p1 := hr
  rw [pr2_mk p0 p1, pr2_mk q0 p1]
  have s0 := a_b11 (ak := ak) (an := an) (aa := aa) (x2 := x2) (x3 := (x3 + 1)) hr0 hk (by omega) (by omega)
  generalize f_X0_body__b11 p0 p1 ak an aa 0 x2 (x3 + 1) = u0 at s0 ⊢
  generalize f_X6_ringsPlain q0 p1 ak an aa x2 = v0 at s0 ⊢
  obtain ⟨u0a, u0b, u0c⟩ := u0
  obtain ⟨v0a, v0b, v0c⟩ := v0
  obtain ⟨g01, g02, g03⟩ := s0
  have g01 : u0a = v0a := g01
  have g02 : u0c = v0c := g02
  subst g01
  subst g02
  have g03 : RB2 u0b v0b u0c := g03
  rw [pr3_mk u0a u0b u0c, pr3_mk u0a v0b u0c]
  exact ⟨rfl, rfl, g03⟩
theorem a_b41 {bo mbo : Nat → Int32} {bg ak an aa x2 x3 : Int32} (h : RB2 bo mbo bg) (hk : ak = 0 ∨ ak = 1 ∨ ak = 2 ∨ ak = 3 ∨ ak = 4 ∨ ak = 5) (h0 : 0 ≤ x3.toInt) (h1 : x3.toInt ≤ 36) : Q3 (f_X0_body__b41 bo bg ak an aa 0 x2 x3) (pr2 (f_X6_runs mbo bg (41 : Int32)) (fun m3 r3 => pr3 (f_X6_ringsPlain m3 r3 ak an aa x2) (fun r9 m9 r99 => pr3 (f_X6_ticks m9 r99 ak an aa aa) (fun r10 m10 r100 => ((r9 ^^^ r10), m10, r100))))) := by
  have e1 := i32_add1 (i := x3) (by omega)
  unfold f_X0_body__b41
  rw [if_pos rfl, if_pos (show x3 ≤ 40 by rw [i32_le, show (40 : Int32).toInt = 40 from rfl]; omega)]
  have hr := runs_ok (41 : Int32) h
  change Q3 (pr2 (f_X6_runs bo bg 41) _) _
  generalize f_X6_runs bo bg 41 = p at hr ⊢
  generalize f_X6_runs mbo bg 41 = q at hr ⊢
  obtain ⟨p0, p1⟩ := p
  obtain ⟨q0, q1⟩ := q
  obtain ⟨e2, hr⟩ := hr
  have e2 : p1 = q1 := e2
  subst e2
  have hr0 : RB2 p0 q0 p1 := hr
  rw [pr2_mk p0 p1, pr2_mk q0 p1]
  have s0 := a_b11 (ak := ak) (an := an) (aa := aa) (x2 := x2) (x3 := (x3 + 1)) hr0 hk (by omega) (by omega)
  generalize f_X0_body__b11 p0 p1 ak an aa 0 x2 (x3 + 1) = u0 at s0 ⊢
  generalize f_X6_ringsPlain q0 p1 ak an aa x2 = v0 at s0 ⊢
  obtain ⟨u0a, u0b, u0c⟩ := u0
  obtain ⟨v0a, v0b, v0c⟩ := v0
  obtain ⟨g01, g02, g03⟩ := s0
  have g01 : u0a = v0a := g01
  have g02 : u0c = v0c := g02
  subst g01
  subst g02
  have g03 : RB2 u0b v0b u0c := g03
  rw [pr3_mk u0a u0b u0c, pr3_mk u0a v0b u0c]
  have s1 := a_o0 (ak := ak) (an := an) (aa := aa) (x2 := aa) (x3 := x3) g03 hk (by omega) (by omega)
  generalize f_X0_own__o0 u0b u0c ak an aa 0 aa x3 = u1 at s1 ⊢
  generalize f_X6_ticks v0b u0c ak an aa aa = v1 at s1 ⊢
  obtain ⟨u1a, u1b, u1c⟩ := u1
  obtain ⟨v1a, v1b, v1c⟩ := v1
  obtain ⟨g11, g12, g13⟩ := s1
  have g11 : u1a = v1a := g11
  have g12 : u1c = v1c := g12
  subst g11
  subst g12
  have g13 : RB2 u1b v1b u1c := g13
  rw [pr3_mk u1a u1b u1c, pr3_mk u1a v1b u1c]
  exact ⟨rfl, rfl, g13⟩
theorem a_o1 {bo mbo : Nat → Int32} {bg ak an aa x2 x3 : Int32} (h : RB2 bo mbo bg) (hk : ak = 0 ∨ ak = 1 ∨ ak = 2 ∨ ak = 3 ∨ ak = 4 ∨ ak = 5) (h0 : 0 ≤ x3.toInt) (h1 : x3.toInt ≤ 35) : Q3 (f_X0_own__o1 bo bg ak an aa 0 x2 x3) (f_X6_rings mbo bg ak an aa x2) := by
  have e1 := i32_add1 (i := x3) (by omega)
  unfold f_X0_own__o1 f_X6_rings
  rcases hk with rfl | rfl | rfl | rfl | rfl | rfl
  · rw [if_pos rfl, if_neg (show ¬ f_X5_isIn (1 : Int32) (0 : Int32) (23 : Int32) = 0 by decide), if_neg (by decide), if_neg (by decide), if_neg (by decide)]
    have s := a_b11 (ak := 0) (an := an) (aa := aa) (x2 := x2) (x3 := x3 + 1) h (by decide) (by omega) (by omega)
    exact s
  · rw [if_neg (by decide), if_pos rfl, if_neg (show ¬ f_X5_isIn (5 : Int32) (0 : Int32) (23 : Int32) = 0 by decide), if_pos rfl]
    have s := a_b20 (ak := 1) (an := an) (aa := aa) (x2 := x2) (x3 := x3 + 1) h (by decide) (by omega) (by omega)
    exact s
  · rw [if_neg (by decide), if_neg (by decide), if_pos rfl, if_neg (show ¬ f_X5_isIn (9 : Int32) (0 : Int32) (23 : Int32) = 0 by decide), if_neg (by decide), if_neg (by decide), if_neg (by decide)]
    have s := a_b11 (ak := 2) (an := an) (aa := aa) (x2 := x2) (x3 := x3 + 1) h (by decide) (by omega) (by omega)
    exact s
  · rw [if_neg (by decide), if_neg (by decide), if_neg (by decide), if_pos rfl, if_neg (show ¬ f_X5_isIn (13 : Int32) (0 : Int32) (23 : Int32) = 0 by decide), if_neg (by decide), if_pos rfl]
    have s := a_b20 (ak := 3) (an := an) (aa := aa) (x2 := x2) (x3 := x3 + 1) h (by decide) (by omega) (by omega)
    exact s
  · rw [if_neg (by decide), if_neg (by decide), if_neg (by decide), if_neg (by decide), if_pos rfl, if_neg (show ¬ f_X5_isIn (17 : Int32) (0 : Int32) (23 : Int32) = 0 by decide), if_neg (by decide), if_neg (by decide), if_pos rfl]
    have s := a_b41 (ak := 4) (an := an) (aa := aa) (x2 := x2) (x3 := x3 + 1) h (by decide) (by omega) (by omega)
    exact s
  · rw [if_neg (by decide), if_neg (by decide), if_neg (by decide), if_neg (by decide), if_neg (by decide), if_neg (show ¬ f_X5_isIn (21 : Int32) (0 : Int32) (23 : Int32) = 0 by decide), if_neg (by decide), if_neg (by decide), if_neg (by decide)]
    have s := a_b11 (ak := 5) (an := an) (aa := aa) (x2 := x2) (x3 := x3 + 1) h (by decide) (by omega) (by omega)
    exact s
theorem a_b12 {bo mbo : Nat → Int32} {bg an aa x2 x3 : Int32} (h : RB2 bo mbo bg) (h0 : 0 ≤ x3.toInt) (h1 : x3.toInt ≤ 40) : Q4 (f_X0_body__b12 bo bg an aa 0 x2 x3) (f_X6_partsPlain mbo bg an aa 0 x2) := by
  unfold f_X0_body__b12 f_X6_partsPlain f_X0_parted
  rw [if_pos rfl, if_pos (show x3 ≤ 40 by rw [i32_le, show (40 : Int32).toInt = 40 from rfl]; omega)]
  have hr := runs_ok (12 : Int32) h
  change Q4 (pr2 (f_X6_runs bo bg 12) _) _
  generalize f_X6_runs bo bg 12 = p at hr ⊢
  generalize f_X6_runs mbo bg 12 = q at hr ⊢
  obtain ⟨p0, p1⟩ := p
  obtain ⟨q0, q1⟩ := q
  obtain ⟨e2, hr⟩ := hr
  have e2 : p1 = q1 := e2
  subst e2
  have hr0 : RB2 p0 q0 p1 := hr
  rw [pr2_mk p0 p1, pr2_mk q0 p1, if_pos rfl, pr1_mk]
  by_cases c : an = aa
  · have c2 : aa - an = 0 := by rw [c]; exact Int32.sub_self _
    rw [if_pos c, if_pos c2, if_neg i1n0, pr2_mk]
    exact ⟨rfl, rfl, rfl, hr0⟩
  · have c2 : ¬ aa - an = 0 := sub_nz c
    rw [if_neg c, if_neg c2, if_pos rfl, pr2_mk]
    exact ⟨rfl, rfl, rfl, hr0⟩
theorem a_b50 {bo mbo : Nat → Int32} {bg an aa x2 x3 : Int32} (h : RB2 bo mbo bg) (h0 : 0 ≤ x3.toInt) (h1 : x3.toInt ≤ 39) : Q4 (f_X0_body__b50 bo bg an aa 0 x2 x3) (pr2 (f_X6_runs mbo bg (50 : Int32)) (fun m3 r3 => pr4 (f_X6_partsPlain m3 r3 an aa 0 (x2 * 5)) (fun r4 m4 r44 i4 => ((r4 + an), m4, r44, i4)))) := by
  have e1 := i32_add1 (i := x3) (by omega)
  unfold f_X0_body__b50
  rw [if_pos rfl, if_pos (show x3 ≤ 40 by rw [i32_le, show (40 : Int32).toInt = 40 from rfl]; omega)]
  have hr := runs_ok (50 : Int32) h
  change Q4 (pr2 (f_X6_runs bo bg 50) _) _
  generalize f_X6_runs bo bg 50 = p at hr ⊢
  generalize f_X6_runs mbo bg 50 = q at hr ⊢
  obtain ⟨p0, p1⟩ := p
  obtain ⟨q0, q1⟩ := q
  obtain ⟨e2, hr⟩ := hr
  have e2 : p1 = q1 := e2
  subst e2
  have hr0 : RB2 p0 q0 p1 := hr
  rw [pr2_mk p0 p1, pr2_mk q0 p1]
  have s0 := a_b12 (an := an) (aa := aa) (x2 := (x2 * 5)) (x3 := (x3 + 1)) hr0 (by omega) (by omega)
  generalize f_X0_body__b12 p0 p1 an aa 0 (x2 * 5) (x3 + 1) = u0 at s0 ⊢
  generalize f_X6_partsPlain q0 p1 an aa 0 (x2 * 5) = v0 at s0 ⊢
  obtain ⟨u0a, u0b, u0c, u0d⟩ := u0
  obtain ⟨v0a, v0b, v0c, v0d⟩ := v0
  obtain ⟨g01, g02, g04, g03⟩ := s0
  have g01 : u0a = v0a := g01
  have g02 : u0c = v0c := g02
  have g04 : u0d = v0d := g04
  subst g01
  subst g02
  subst g04
  have g03 : RB2 u0b v0b u0c := g03
  rw [pr4_mk u0a u0b u0c u0d, pr4_mk u0a v0b u0c u0d]
  exact ⟨rfl, rfl, rfl, g03⟩
theorem own_parted {bo : Nat → Int32} {bg ak an aa ip x2 x3 : Int32} (hi : ¬ ip = 0) : f_X0_own__o0 bo bg ak an aa ip x2 x3 = (0, bo, bg) := by
  unfold f_X0_own__o0 f_X0_body__b10 f_X0_body__b30 f_X0_body__b51 f_X0_body__b40
  simp only [if_neg hi, pr3_mk]
  repeat' split
  all_goals rfl
theorem a_b61 {bo mbo : Nat → Int32} {bg ak an aa x2 x3 : Int32} (h : RB2 bo mbo bg) (hk : ak = 0 ∨ ak = 1 ∨ ak = 2 ∨ ak = 3 ∨ ak = 4 ∨ ak = 5) (h0 : 0 ≤ x3.toInt) (h1 : x3.toInt ≤ 37) : Q4 (f_X0_body__b61 bo bg ak an aa 0 x2 x3) (pr2 (f_X6_runs mbo bg (61 : Int32)) (fun m3 r3 => pr4 (f_X6_partsPlain m3 r3 an aa 0 x2) (fun r6 m6 r66 i6 => if (i6 = 0) then (pr3 (f_X6_ticks m6 r66 ak an aa an) (fun r8 m8 r88 => ((r6 * r8), m8, r88, i6))) else ((0 : Int32), m6, r66, i6)))) := by
  have e1 := i32_add1 (i := x3) (by omega)
  unfold f_X0_body__b61
  rw [if_pos rfl, if_pos (show x3 ≤ 40 by rw [i32_le, show (40 : Int32).toInt = 40 from rfl]; omega)]
  have hr := runs_ok (61 : Int32) h
  change Q4 (pr2 (f_X6_runs bo bg 61) _) _
  generalize f_X6_runs bo bg 61 = p at hr ⊢
  generalize f_X6_runs mbo bg 61 = q at hr ⊢
  obtain ⟨p0, p1⟩ := p
  obtain ⟨q0, q1⟩ := q
  obtain ⟨e2, hr⟩ := hr
  have e2 : p1 = q1 := e2
  subst e2
  have hr0 : RB2 p0 q0 p1 := hr
  rw [pr2_mk p0 p1, pr2_mk q0 p1]
  have s0 := a_b12 (an := an) (aa := aa) (x2 := x2) (x3 := (x3 + 1)) hr0 (by omega) (by omega)
  generalize f_X0_body__b12 p0 p1 an aa 0 x2 (x3 + 1) = u0 at s0 ⊢
  generalize f_X6_partsPlain q0 p1 an aa 0 x2 = v0 at s0 ⊢
  obtain ⟨u0a, u0b, u0c, u0d⟩ := u0
  obtain ⟨v0a, v0b, v0c, v0d⟩ := v0
  obtain ⟨g01, g02, g04, g03⟩ := s0
  have g01 : u0a = v0a := g01
  have g02 : u0c = v0c := g02
  have g04 : u0d = v0d := g04
  subst g01
  subst g02
  subst g04
  have g03 : RB2 u0b v0b u0c := g03
  rw [pr4_mk u0a u0b u0c u0d, pr4_mk u0a v0b u0c u0d]
  by_cases c : u0d = 0
  · subst c
    rw [if_pos rfl]
    have s1 := a_o0 (ak := ak) (an := an) (aa := aa) (x2 := an) (x3 := x3) g03 hk (by omega) (by omega)
    generalize f_X0_own__o0 u0b u0c ak an aa 0 an x3 = u1 at s1 ⊢
    generalize f_X6_ticks v0b u0c ak an aa an = v1 at s1 ⊢
    obtain ⟨u1a, u1b, u1c⟩ := u1
    obtain ⟨v1a, v1b, v1c⟩ := v1
    obtain ⟨g11, g12, g13⟩ := s1
    have g11 : u1a = v1a := g11
    have g12 : u1c = v1c := g12
    subst g11
    subst g12
    rw [pr3_mk u1a u1b u1c, pr3_mk u1a v1b u1c]
    exact ⟨rfl, rfl, rfl, g13⟩
  · rw [if_neg c, own_parted c, pr3_mk (0 : Int32) u0b u0c, Int32.mul_zero]
    exact ⟨rfl, rfl, rfl, g03⟩
theorem a_o2 {bo mbo : Nat → Int32} {bg ak an aa x2 x3 : Int32} (h : RB2 bo mbo bg) (hk : ak = 0 ∨ ak = 1 ∨ ak = 2 ∨ ak = 3 ∨ ak = 4 ∨ ak = 5) (h0 : 0 ≤ x3.toInt) (h1 : x3.toInt ≤ 36) : Q4 (f_X0_own__o2 bo bg ak an aa 0 x2 x3) (f_X6_parts mbo bg ak an aa 0 x2) := by
  have e1 := i32_add1 (i := x3) (by omega)
  unfold f_X0_own__o2 f_X6_parts
  rcases hk with rfl | rfl | rfl | rfl | rfl | rfl
  · rw [if_pos rfl, if_neg (show ¬ f_X5_isIn (2 : Int32) (0 : Int32) (23 : Int32) = 0 by decide), if_neg (by decide), if_neg (by decide)]
    have s := a_b12 (an := an) (aa := aa) (x2 := x2) (x3 := x3 + 1) h (by omega) (by omega)
    exact s
  · rw [if_neg (by decide), if_pos rfl, if_neg (show ¬ f_X5_isIn (6 : Int32) (0 : Int32) (23 : Int32) = 0 by decide), if_neg (by decide), if_neg (by decide)]
    have s := a_b12 (an := an) (aa := aa) (x2 := x2) (x3 := x3 + 1) h (by omega) (by omega)
    exact s
  · rw [if_neg (by decide), if_neg (by decide), if_pos rfl, if_neg (show ¬ f_X5_isIn (10 : Int32) (0 : Int32) (23 : Int32) = 0 by decide), if_neg (by decide), if_neg (by decide)]
    have s := a_b12 (an := an) (aa := aa) (x2 := x2) (x3 := x3 + 1) h (by omega) (by omega)
    exact s
  · rw [if_neg (by decide), if_neg (by decide), if_neg (by decide), if_pos rfl, if_neg (show ¬ f_X5_isIn (14 : Int32) (0 : Int32) (23 : Int32) = 0 by decide), if_pos rfl]
    have s := a_b50 (an := an) (aa := aa) (x2 := x2) (x3 := x3 + 1) h (by omega) (by omega)
    exact s
  · rw [if_neg (by decide), if_neg (by decide), if_neg (by decide), if_neg (by decide), if_pos rfl, if_neg (show ¬ f_X5_isIn (18 : Int32) (0 : Int32) (23 : Int32) = 0 by decide), if_neg (by decide), if_neg (by decide)]
    have s := a_b12 (an := an) (aa := aa) (x2 := x2) (x3 := x3 + 1) h (by omega) (by omega)
    exact s
  · rw [if_neg (by decide), if_neg (by decide), if_neg (by decide), if_neg (by decide), if_neg (by decide), if_neg (show ¬ f_X5_isIn (22 : Int32) (0 : Int32) (23 : Int32) = 0 by decide), if_neg (by decide), if_pos rfl]
    have s := a_b61 (ak := 5) (an := an) (aa := aa) (x2 := x2) (x3 := x3 + 1) h (by decide) (by omega) (by omega)
    exact s
theorem a_b13 {bo mbo : Nat → Int32} {bg ak an aa x2 x3 : Int32} (h : RB2 bo mbo bg) (hk : ak = 0 ∨ ak = 1 ∨ ak = 2 ∨ ak = 3 ∨ ak = 4 ∨ ak = 5) (h0 : 0 ≤ x3.toInt) (h1 : x3.toInt ≤ 35) : Q3 (f_X0_body__b13 bo bg ak an aa 0 x2 x3) (f_X6_waitsPlain mbo bg ak an aa x2) := by
  have e1 := i32_add1 (i := x3) (by omega)
  unfold f_X0_body__b13 f_X6_waitsPlain
  rw [if_pos rfl, if_pos (show x3 ≤ 40 by rw [i32_le, show (40 : Int32).toInt = 40 from rfl]; omega)]
  have hr := runs_ok (13 : Int32) h
  change Q3 (pr2 (f_X6_runs bo bg 13) _) _
  generalize f_X6_runs bo bg 13 = p at hr ⊢
  generalize f_X6_runs mbo bg 13 = q at hr ⊢
  obtain ⟨p0, p1⟩ := p
  obtain ⟨q0, q1⟩ := q
  obtain ⟨e2, hr⟩ := hr
  have e2 : p1 = q1 := e2
  subst e2
  have hr0 : RB2 p0 q0 p1 := hr
  rw [pr2_mk p0 p1, pr2_mk q0 p1]
  have s0 := a_o1 (ak := ak) (an := an) (aa := aa) (x2 := x2) (x3 := x3) hr0 hk (by omega) (by omega)
  generalize f_X0_own__o1 p0 p1 ak an aa 0 x2 x3 = u0 at s0 ⊢
  generalize f_X6_rings q0 p1 ak an aa x2 = v0 at s0 ⊢
  obtain ⟨u0a, u0b, u0c⟩ := u0
  obtain ⟨v0a, v0b, v0c⟩ := v0
  obtain ⟨g01, g02, g03⟩ := s0
  have g01 : u0a = v0a := g01
  have g02 : u0c = v0c := g02
  subst g01
  subst g02
  have g03 : RB2 u0b v0b u0c := g03
  rw [pr3_mk u0a u0b u0c, pr3_mk u0a v0b u0c]
  exact ⟨rfl, rfl, g03⟩
theorem a_b31 {bo mbo : Nat → Int32} {bg ak an aa x2 x3 : Int32} (h : RB2 bo mbo bg) (hk : ak = 0 ∨ ak = 1 ∨ ak = 2 ∨ ak = 3 ∨ ak = 4 ∨ ak = 5) (h0 : 0 ≤ x3.toInt) (h1 : x3.toInt ≤ 34) : Q4 (f_X0_body__b31 bo bg ak an aa 0 x2 x3) (pr2 (f_X6_runs mbo bg (31 : Int32)) (fun m3 r3 => pr3 (f_X6_waitsPlain m3 r3 ak an aa x2) (fun r7 m7 r77 => pr4 (f_X6_parts m7 r77 ak an aa 0 an) (fun r8 m8 r88 i8 => ((r7 + r8), m8, r88, i8))))) := by
  have e1 := i32_add1 (i := x3) (by omega)
  unfold f_X0_body__b31
  rw [if_pos rfl, if_pos (show x3 ≤ 40 by rw [i32_le, show (40 : Int32).toInt = 40 from rfl]; omega)]
  have hr := runs_ok (31 : Int32) h
  change Q4 (pr2 (f_X6_runs bo bg 31) _) _
  generalize f_X6_runs bo bg 31 = p at hr ⊢
  generalize f_X6_runs mbo bg 31 = q at hr ⊢
  obtain ⟨p0, p1⟩ := p
  obtain ⟨q0, q1⟩ := q
  obtain ⟨e2, hr⟩ := hr
  have e2 : p1 = q1 := e2
  subst e2
  have hr0 : RB2 p0 q0 p1 := hr
  rw [pr2_mk p0 p1, pr2_mk q0 p1]
  have s0 := a_b13 (ak := ak) (an := an) (aa := aa) (x2 := x2) (x3 := (x3 + 1)) hr0 hk (by omega) (by omega)
  generalize f_X0_body__b13 p0 p1 ak an aa 0 x2 (x3 + 1) = u0 at s0 ⊢
  generalize f_X6_waitsPlain q0 p1 ak an aa x2 = v0 at s0 ⊢
  obtain ⟨u0a, u0b, u0c⟩ := u0
  obtain ⟨v0a, v0b, v0c⟩ := v0
  obtain ⟨g01, g02, g03⟩ := s0
  have g01 : u0a = v0a := g01
  have g02 : u0c = v0c := g02
  subst g01
  subst g02
  have g03 : RB2 u0b v0b u0c := g03
  rw [pr3_mk u0a u0b u0c, pr3_mk u0a v0b u0c]
  have s1 := a_o2 (ak := ak) (an := an) (aa := aa) (x2 := an) (x3 := x3) g03 hk (by omega) (by omega)
  generalize f_X0_own__o2 u0b u0c ak an aa 0 an x3 = u1 at s1 ⊢
  generalize f_X6_parts v0b u0c ak an aa 0 an = v1 at s1 ⊢
  obtain ⟨u1a, u1b, u1c, u1d⟩ := u1
  obtain ⟨v1a, v1b, v1c, v1d⟩ := v1
  obtain ⟨g11, g12, g14, g13⟩ := s1
  have g11 : u1a = v1a := g11
  have g12 : u1c = v1c := g12
  have g14 : u1d = v1d := g14
  subst g11
  subst g12
  subst g14
  have g13 : RB2 u1b v1b u1c := g13
  rw [pr4_mk u1a u1b u1c u1d, pr4_mk u1a v1b u1c u1d]
  exact ⟨rfl, rfl, rfl, g13⟩
theorem a_b60 {bo mbo : Nat → Int32} {bg ak an aa x2 x3 : Int32} (h : RB2 bo mbo bg) (hk : ak = 0 ∨ ak = 1 ∨ ak = 2 ∨ ak = 3 ∨ ak = 4 ∨ ak = 5) (h0 : 0 ≤ x3.toInt) (h1 : x3.toInt ≤ 34) : Q3 (f_X0_body__b60 bo bg ak an aa 0 x2 x3) (pr2 (f_X6_runs mbo bg (60 : Int32)) (fun m3 r3 => pr3 (f_X6_waitsPlain m3 r3 ak an aa x2) (fun r4 m4 r44 => ((r4 - 1), m4, r44)))) := by
  have e1 := i32_add1 (i := x3) (by omega)
  unfold f_X0_body__b60
  rw [if_pos rfl, if_pos (show x3 ≤ 40 by rw [i32_le, show (40 : Int32).toInt = 40 from rfl]; omega)]
  have hr := runs_ok (60 : Int32) h
  change Q3 (pr2 (f_X6_runs bo bg 60) _) _
  generalize f_X6_runs bo bg 60 = p at hr ⊢
  generalize f_X6_runs mbo bg 60 = q at hr ⊢
  obtain ⟨p0, p1⟩ := p
  obtain ⟨q0, q1⟩ := q
  obtain ⟨e2, hr⟩ := hr
  have e2 : p1 = q1 := e2
  subst e2
  have hr0 : RB2 p0 q0 p1 := hr
  rw [pr2_mk p0 p1, pr2_mk q0 p1]
  have s0 := a_b13 (ak := ak) (an := an) (aa := aa) (x2 := x2) (x3 := (x3 + 1)) hr0 hk (by omega) (by omega)
  generalize f_X0_body__b13 p0 p1 ak an aa 0 x2 (x3 + 1) = u0 at s0 ⊢
  generalize f_X6_waitsPlain q0 p1 ak an aa x2 = v0 at s0 ⊢
  obtain ⟨u0a, u0b, u0c⟩ := u0
  obtain ⟨v0a, v0b, v0c⟩ := v0
  obtain ⟨g01, g02, g03⟩ := s0
  have g01 : u0a = v0a := g01
  have g02 : u0c = v0c := g02
  subst g01
  subst g02
  have g03 : RB2 u0b v0b u0c := g03
  rw [pr3_mk u0a u0b u0c, pr3_mk u0a v0b u0c]
  exact ⟨rfl, rfl, g03⟩
theorem a_o3 {bo mbo : Nat → Int32} {bg ak an aa x2 x3 : Int32} (h : RB2 bo mbo bg) (hk : ak = 0 ∨ ak = 1 ∨ ak = 2 ∨ ak = 3 ∨ ak = 4 ∨ ak = 5) (h0 : 0 ≤ x3.toInt) (h1 : x3.toInt ≤ 33) : Q4 (f_X0_own__o3 bo bg ak an aa 0 x2 x3) (f_X6_waits mbo bg ak an aa 0 x2) := by
  have e1 := i32_add1 (i := x3) (by omega)
  unfold f_X0_own__o3 f_X6_waits
  rcases hk with rfl | rfl | rfl | rfl | rfl | rfl
  · rw [if_pos rfl, if_neg (show ¬ f_X5_isIn (3 : Int32) (0 : Int32) (23 : Int32) = 0 by decide), if_neg (by decide), if_neg (by decide), if_neg (by decide)]
    have s := a_b13 (ak := 0) (an := an) (aa := aa) (x2 := x2) (x3 := x3 + 1) h (by decide) (by omega) (by omega)
    generalize f_X0_body__b13 bo bg 0 an aa 0 x2 (x3 + 1) = X at s ⊢
    generalize f_X6_waitsPlain mbo bg 0 an aa x2 = Y at s ⊢
    obtain ⟨X0, X1, X2⟩ := X
    obtain ⟨Y0, Y1, Y2⟩ := Y
    exact ⟨s.1, s.2.1, rfl, s.2.2⟩
  · rw [if_neg (by decide), if_pos rfl, if_neg (show ¬ f_X5_isIn (7 : Int32) (0 : Int32) (23 : Int32) = 0 by decide), if_neg (by decide), if_neg (by decide), if_neg (by decide)]
    have s := a_b13 (ak := 1) (an := an) (aa := aa) (x2 := x2) (x3 := x3 + 1) h (by decide) (by omega) (by omega)
    generalize f_X0_body__b13 bo bg 1 an aa 0 x2 (x3 + 1) = X at s ⊢
    generalize f_X6_waitsPlain mbo bg 1 an aa x2 = Y at s ⊢
    obtain ⟨X0, X1, X2⟩ := X
    obtain ⟨Y0, Y1, Y2⟩ := Y
    exact ⟨s.1, s.2.1, rfl, s.2.2⟩
  · rw [if_neg (by decide), if_neg (by decide), if_pos rfl, if_neg (show ¬ f_X5_isIn (11 : Int32) (0 : Int32) (23 : Int32) = 0 by decide), if_pos rfl]
    have s := a_b31 (ak := 2) (an := an) (aa := aa) (x2 := x2) (x3 := x3 + 1) h (by decide) (by omega) (by omega)
    generalize f_X0_body__b31 bo bg 2 an aa 0 x2 (x3 + 1) = X at s ⊢
    obtain ⟨X0, X1, X2, X3⟩ := X
    exact s
  · rw [if_neg (by decide), if_neg (by decide), if_neg (by decide), if_pos rfl, if_neg (show ¬ f_X5_isIn (15 : Int32) (0 : Int32) (23 : Int32) = 0 by decide), if_neg (by decide), if_neg (by decide), if_neg (by decide)]
    have s := a_b13 (ak := 3) (an := an) (aa := aa) (x2 := x2) (x3 := x3 + 1) h (by decide) (by omega) (by omega)
    generalize f_X0_body__b13 bo bg 3 an aa 0 x2 (x3 + 1) = X at s ⊢
    generalize f_X6_waitsPlain mbo bg 3 an aa x2 = Y at s ⊢
    obtain ⟨X0, X1, X2⟩ := X
    obtain ⟨Y0, Y1, Y2⟩ := Y
    exact ⟨s.1, s.2.1, rfl, s.2.2⟩
  · rw [if_neg (by decide), if_neg (by decide), if_neg (by decide), if_neg (by decide), if_pos rfl, if_neg (show ¬ f_X5_isIn (19 : Int32) (0 : Int32) (23 : Int32) = 0 by decide), if_neg (by decide), if_pos rfl]
    have s := a_b31 (ak := 4) (an := an) (aa := aa) (x2 := x2) (x3 := x3 + 1) h (by decide) (by omega) (by omega)
    generalize f_X0_body__b31 bo bg 4 an aa 0 x2 (x3 + 1) = X at s ⊢
    obtain ⟨X0, X1, X2, X3⟩ := X
    exact s
  · rw [if_neg (by decide), if_neg (by decide), if_neg (by decide), if_neg (by decide), if_neg (by decide), if_neg (show ¬ f_X5_isIn (23 : Int32) (0 : Int32) (23 : Int32) = 0 by decide), if_neg (by decide), if_neg (by decide), if_pos rfl]
    have s := a_b60 (ak := 5) (an := an) (aa := aa) (x2 := x2) (x3 := x3 + 1) h (by decide) (by omega) (by omega)
    generalize f_X0_body__b60 bo bg 5 an aa 0 x2 (x3 + 1) = X at s ⊢
    generalize f_X6_runs mbo bg 60 = p at s ⊢
    obtain ⟨p0, p1⟩ := p
    rw [pr2_mk p0 p1] at s ⊢
    generalize f_X6_waitsPlain p0 p1 5 an aa x2 = Y at s ⊢
    obtain ⟨X0, X1, X2⟩ := X
    obtain ⟨Y0, Y1, Y2⟩ := Y
    rw [pr3_mk Y0 Y1 Y2] at s ⊢
    exact ⟨s.1, s.2.1, rfl, s.2.2⟩
theorem e_act {lw kd bt ph cn no s : Nat → Int32} {ct sc rn lg dn zz : Int32} {bo mbo shw shn shs shz mhw mhh mhm : Nat → Int32} {ak an aa ip mak man maa mip : Int32} (h : RT lw kd bt ph cn no ct sc rn lg dn zz s) (hH : RH shw shn shs shz mhw mhh mhm) (x1 x2 x3 : Int32) : (f_X5_act kd bt ct bo ak an aa ip shw shn x1 x2 x3).1 = (f_X6_act s mhw mhh mbo mak man maa mip x1 x2 x3).1 ∧ (f_X5_act kd bt ct bo ak an aa ip shw shn x1 x2 x3).2.2.1 = (f_X6_act s mhw mhh mbo mak man maa mip x1 x2 x3).2.2.1 ∧ RB2 (f_X5_act kd bt ct bo ak an aa ip shw shn x1 x2 x3).2.1 (f_X6_act s mhw mhh mbo mak man maa mip x1 x2 x3).2.1 (f_X6_act s mhw mhh mbo mak man maa mip x1 x2 x3).2.2.1 := by
  have hz : RB2 bo mbo 0 := ⟨by decide, fun k hk => by rw [z0I] at hk; omega⟩
  unfold f_X5_act f_X6_act f_X5_isShelf f_X6_isShelf
  rw [isin_eq (x := x1) (l := 0) (h := 3) rfl rfl, isin_eq (x := x2) (l := 0) (h := 3) rfl rfl]
  by_cases c1 : f_X5_isIn x1 0 3 = 0
  · rw [if_pos c1, if_pos c1]; exact ⟨rfl, rfl, hz⟩
  · rw [if_neg c1, if_neg c1]
    have hv := in_isIn4 c1
    have hvn : x1.toNatClampNeg < 4 := by have := vp_in_iff.mp hv; have := cl_nn this.1; omega
    by_cases c2 : f_X5_isIn x2 0 3 = 0
    · rw [if_pos c2, if_pos c2]; exact ⟨rfl, rfl, hz⟩
    · rw [if_neg c2, if_neg c2]
      have no : f_X5_holdsPerson ct (shw x1.toNatClampNeg) (shn x1.toNatClampNeg) = 0 ∧ ¬ f_X6_heldOn s mhw mhh x1 = 1 ∨ ¬ f_X5_holdsPerson ct (shw x1.toNatClampNeg) (shn x1.toNatClampNeg) = 0 ∧ f_X6_heldOn s mhw mhh x1 = 1 ∧ mhh x1.toNatClampNeg = shn x1.toNatClampNeg ∧ ¬ f_X4_has ct (shn x1.toNatClampNeg) = 0 := by
        unfold f_X5_holdsPerson f_X6_heldOn
        rcases hH _ hvn with ⟨a, b, c⟩ | ⟨a, b, c, d⟩ | ⟨a, b⟩
        · rw [a, b, c, if_pos rfl, if_pos rfl, rt_has h]
          by_cases g : f_X4_has ct (shn x1.toNatClampNeg) = 0
          · rw [if_pos g]; exact .inl ⟨rfl, by decide⟩
          · rw [if_neg g]; exact .inr ⟨by decide, rfl, rfl, g⟩
        · rw [a, b, if_neg i1n0, if_neg (show ¬ (2 : Int32) = 1 by decide)]; exact .inl ⟨rfl, by decide⟩
        · rw [a, b, if_neg (show ¬ (2 : Int32) = 0 by decide), if_neg (show ¬ (0 : Int32) = 1 by decide)]; exact .inl ⟨rfl, by decide⟩
      rcases no with ⟨p, q⟩ | ⟨p, q, e, g⟩
      · rw [if_pos p, if_neg q]; exact ⟨rfl, rfl, hz⟩
      · rw [if_neg p, if_pos q, e]
        have hx := rt_in h g
        have hp := rt_p h hx.1 hx.2.1
        have hk := hp.2.1
        obtain ⟨i0, i1, -, -, -⟩ := rp_its hx.1 hx.2.2 hp
        rw [i0, i1]
        generalize kd (shn x1.toNatClampNeg).toNatClampNeg = K at hk ⊢
        generalize bt (shn x1.toNatClampNeg).toNatClampNeg = A
        generalize shn x1.toNatClampNeg = N0
        have hK : K = 0 ∨ K = 1 ∨ K = 2 ∨ K = 3 ∨ K = 4 ∨ K = 5 := by
          simp only [i32_eq, show (0 : Int32).toInt = 0 from rfl, show (1 : Int32).toInt = 1 from rfl, show (2 : Int32).toInt = 2 from rfl, show (3 : Int32).toInt = 3 from rfl, show (4 : Int32).toInt = 4 from rfl, show (5 : Int32).toInt = 5 from rfl]
          omega
        unfold f_X0_play
        rcases four_or c2 with rfl | rfl | rfl | rfl
        · have t := a_o0 (an := N0) (aa := A) (x2 := x3) (x3 := 0) hz hK (by decide) (by decide)
          rw [if_pos rfl, if_pos rfl]
          generalize f_X0_own__o0 bo 0 K N0 A 0 x3 0 = u at t ⊢
          generalize f_X6_ticks mbo 0 K N0 A x3 = v at t ⊢
          obtain ⟨u0, u1, u2⟩ := u
          obtain ⟨v0, v1, v2⟩ := v
          rw [pr3_mk u0 u1 u2, pr3_mk v0 v1 v2, pr7_mk, pr4_mk, if_pos rfl]
          exact t
        · have t := a_o1 (an := N0) (aa := A) (x2 := x3) (x3 := 0) hz hK (by decide) (by decide)
          rw [if_neg (by decide), if_pos rfl, if_neg (by decide), if_pos rfl]
          generalize f_X0_own__o1 bo 0 K N0 A 0 x3 0 = u at t ⊢
          generalize f_X6_rings mbo 0 K N0 A x3 = v at t ⊢
          obtain ⟨u0, u1, u2⟩ := u
          obtain ⟨v0, v1, v2⟩ := v
          rw [pr3_mk u0 u1 u2, pr3_mk v0 v1 v2, pr7_mk, pr4_mk, if_pos rfl]
          exact t
        · have t := a_o2 (an := N0) (aa := A) (x2 := x3) (x3 := 0) hz hK (by decide) (by decide)
          rw [if_neg (by decide), if_neg (by decide), if_pos rfl, if_neg (by decide), if_neg (by decide), if_pos rfl]
          generalize f_X0_own__o2 bo 0 K N0 A 0 x3 0 = u at t ⊢
          generalize f_X6_parts mbo 0 K N0 A 0 x3 = v at t ⊢
          obtain ⟨u0, u1, u2, u3⟩ := u
          obtain ⟨v0, v1, v2, v3⟩ := v
          obtain ⟨t1, t2, t3, t4⟩ := t
          have t3 : u3 = v3 := t3
          subst t3
          rw [pr4_mk u0 u1 u2 u3, pr4_mk v0 v1 v2 u3]
          by_cases c : u3 = 0
          · rw [if_pos c, pr7_mk, pr4_mk, if_pos c]; exact ⟨t1, t2, t4⟩
          · rw [if_neg c, pr7_mk, pr4_mk, if_neg c]; exact ⟨rfl, t2, t4⟩
        · have t := a_o3 (an := N0) (aa := A) (x2 := x3) (x3 := 0) hz hK (by decide) (by decide)
          rw [if_neg (by decide), if_neg (by decide), if_neg (by decide), if_neg (by decide), if_neg (by decide), if_neg (by decide)]
          generalize f_X0_own__o3 bo 0 K N0 A 0 x3 0 = u at t ⊢
          generalize f_X6_waits mbo 0 K N0 A 0 x3 = v at t ⊢
          obtain ⟨u0, u1, u2, u3⟩ := u
          obtain ⟨v0, v1, v2, v3⟩ := v
          obtain ⟨t1, t2, t3, t4⟩ := t
          have t3 : u3 = v3 := t3
          subst t3
          rw [pr4_mk u0 u1 u2 u3, pr4_mk v0 v1 v2 u3]
          by_cases c : u3 = 0
          · rw [if_pos c, pr7_mk, pr4_mk, if_pos c]; exact ⟨t1, t2, t4⟩
          · rw [if_neg c, pr7_mk, pr4_mk, if_neg c]; exact ⟨rfl, t2, t4⟩
