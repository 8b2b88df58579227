/-! what the start gives -/
theorem gb_start {args : Array Value} {s : State} {A : Nat → Prop} (hts : ∀ w ∈ lw_tbl, w.before args s = true) (hgv : (Jvm.Cond.and given_1 narrow_1).before args s = true) (hA : ∀ a : Nat, a < s.heap.size → ¬ A a) : ∃ g : Nat → Nat, GB g A s := by
  have hs := flat_of_before _ hgv
  obtain ⟨adK, adV, hK, hE⟩ := vk_Sof (args := args) (s := s) (N := 13) (tm := stK) (len := stL) (byt := stB) (A := A) st_n (fun i hi => hs _ (st_ex i hi)) (fun i hi => hs _ (st_co i hi)) (fun i hi => hs _ (st_ar i hi)) (fun i hi => hs _ (st_le i hi)) (fun i hi j hj => hs _ (st_el i hi j hj)) (fun i j hi hj hne => by
    rcases Nat.lt_or_gt_of_ne hne with c | c
    · exact .inl (hs _ (st_lt j hj i c))
    · exact .inr (hs _ (st_lt i hi j c))) hA
  have hZ : ∀ i : Nat, ∃ t : Nat, ∀ q, saT[i]? = some q → va_Z q.1 q.2.1 "[I" (.ref t) A s s.heap ∧ va_T .int t q.2.2.length (fun j => .int (q.2.2.getD j 0)) A s s.heap := fun i => by
    cases hq : saT[i]? with
    | none => exact ⟨0, fun q h => by cases h⟩
    | some q =>
      have hm := List.mem_of_getElem? hq
      obtain ⟨t, ht, hT⟩ := va_Tof (tm := .static q.1 q.2.1 "[I") (ty := .int) (N := q.2.2.length) (f := fun j => .int (q.2.2.getD j 0)) (A := A) (sa_n q hm) (hs _ (sa_arr q hm)) (va_eqt (hs _ (sa_len q hm))) (fun j hj => va_eqt (hs _ (sa_el q hm j hj))) hA
      exact ⟨t, fun q' h => by cases h; exact ⟨va_Zref (hts _ (sa_lay q hm)) (hts _ (sa_ini q hm)) ht hA, hT⟩⟩
  obtain ⟨g, hg⟩ := Classical.axiomOfChoice hZ
  obtain ⟨G, hG⟩ : ∃ G : Nat → Nat, G = fun k => if k < 100 then g k else if k < 200 then adK (k - 100) else adV (k - 200) := ⟨_, rfl⟩
  have hG0 : ∀ i : Nat, i < 5 → G i = g i := fun i hi => by rw [hG]; exact if_pos (by omega)
  have hG1 : ∀ i : Nat, i < 13 → G (100 + i) = adK i := fun i hi => by
    rw [hG]
    show (if 100 + i < 100 then _ else if 100 + i < 200 then _ else _) = _
    rw [if_neg (by omega), if_pos (by omega), show 100 + i - 100 = i by omega]
  have hG2 : ∀ i : Nat, i < 13 → G (200 + i) = adV i := fun i hi => by
    rw [hG]
    show (if 200 + i < 100 then _ else if 200 + i < 200 then _ else _) = _
    rw [if_neg (by omega), if_neg (by omega), show 200 + i - 200 = i by omega]
  refine ⟨G, fun q hq => va_Nw.of rfl (hts _ (nw_m q hq)), fun q hq => va_Nw.of rfl (hts _ (nw_f q hq)), fun i q hq => ?_, va_Zof (hts (Cond.laysStatic "java/lang/String" "COMPACT_STRINGS" "Z") (by decide +kernel)) (hts (Cond.initialized "java/lang/String") (by decide +kernel)) (va_eqt (hs (Cond.eq (.static "java/lang/String" "COMPACT_STRINGS" "Z") (.int 1)) (by decide +kernel))) hA, va_Zqof (hts (Cond.laysStatic "jdk/internal/util/Preconditions" "SIOOBE_FORMATTER" "Ljava/util/function/BiFunction;") (by decide +kernel)) (hts (Cond.initialized "jdk/internal/util/Preconditions") (by decide +kernel)) (hs (Cond.isRef (.static "jdk/internal/util/Preconditions" "SIOOBE_FORMATTER" "Ljava/util/function/BiFunction;")) (by decide +kernel)) hA, fun i q hq => ?_, fun i hi => ?_, fun i j hi hj e => ?_⟩
  · have hl : i < 5 := (List.getElem?_eq_some_iff.mp hq).1
    rw [hG0 i hl]
    exact hg i q hq
  · have hl : i < 13 := (List.getElem?_eq_some_iff.mp hq).1
    have hm := List.mem_of_getElem? hq
    have e : stK i = .string RX3 q.1 := by
      show Term.string RX3 (stT.getD i (0, "")).1 = _
      rw [List.getD_eq_getElem?_getD, hq]
      rfl
    rw [hG1 i hl]
    exact vk_R.of (A := args) (hts _ (st_ref q hm)) (by rw [← e]; exact hE i hl)
  · have q := hK.1 i hi
    rw [← hG1 i hi, ← hG2 i hi] at q
    exact q
  · exact hK.2 i j hi hj (by rw [← hG1 i hi, ← hG1 j hj]; exact e)
theorem arr_start {args : Array Value} {s : State} (hts : ∀ w ∈ lw_tbl, w.before args s = true) : ∃ cA : Nat → ClassId, (ArrOfT s (cA 0) .int ∧ va_RA s (cA 0) .int) ∧ (ArrOfT s (cA 1) .long ∧ va_RA s (cA 1) .long) ∧ (ArrOfT s (cA 2) (.object "TwoMinutes$Sheet") ∧ va_RA s (cA 2) (.object "TwoMinutes$Sheet")) ∧ (ArrOfT s (cA 3) (.object "TwoMinutes$Shelf") ∧ va_RA s (cA 3) (.object "TwoMinutes$Shelf")) := by
  obtain ⟨c0, k0, p0, f0, g0, h0⟩ := Cond.arrayClass_spec (hts (Cond.arrayClass .int) (by decide +kernel))
  obtain ⟨c1, k1, p1, f1, g1, h1⟩ := Cond.arrayClass_spec (hts (Cond.arrayClass .long) (by decide +kernel))
  obtain ⟨p2, c2, k2, f2, -, g2, h2, i2⟩ := Cond.arrayOver_spec (hts (Cond.arrayOver (.object "TwoMinutes$Sheet")) (by decide +kernel))
  obtain ⟨p3, c3, k3, f3, -, g3, h3, i3⟩ := Cond.arrayOver_spec (hts (Cond.arrayOver (.object "TwoMinutes$Shelf")) (by decide +kernel))
  exact ⟨fun j => [c0, c1, c2, c3].getD j c0, ⟨fun n z => ⟨(fun k h => by cases h), k0, g0, p0, h0⟩, f0⟩, ⟨fun n z => ⟨(fun k h => by cases h), k1, g1, p1, h1⟩, f1⟩, ⟨fun n z => ⟨(fun k h => by cases h), k2, g2, p2, h2⟩, k2, p2, g2, h2, f2, i2⟩, ⟨fun n z => ⟨(fun k h => by cases h), k3, g3, p3, h3⟩, k3, p3, g3, h3, f3, i3⟩⟩
theorem cls_start {args : Array Value} {s : State} (hts : ∀ w ∈ lw_tbl, w.before args s = true) : ∃ D : va_G, ∀ (c : Nat) (q : vw_C), vwCl[c]? = some q → u_Kn s q.1 q.2.1 q.2.2 (D.1 c) (D.2 c) := by
  obtain ⟨c0, i0, h0⟩ := u_known (C := RX0) (T := TX0) (N := 6) (n := 6) hts inX0 (hts (.instantiable RX0 6) (by decide +kernel))
  obtain ⟨c1, i1, h1⟩ := u_known (C := RX1) (T := TX1) (N := 3) (n := 3) hts inX1 (hts (.instantiable RX1 3) (by decide +kernel))
  obtain ⟨c2, i2, h2⟩ := u_known (C := RX2) (T := TX2) (N := 4) (n := 4) hts inX2 (hts (.instantiable RX2 4) (by decide +kernel))
  obtain ⟨c3, i3, h3⟩ := u_known (C := RX3) (T := TX3) (N := 6) (n := 6) hts inX3 (hts (.instantiable RX3 6) (by decide +kernel))
  obtain ⟨c4, i4, h4⟩ := u_known (C := RX4) (T := TX4) (N := 12) (n := 12) hts inX4 (hts (.instantiable RX4 12) (by decide +kernel))
  obtain ⟨c5, i5, h5⟩ := u_known (C := RX5) (T := TX5) (N := 10) (n := 10) hts inX5 (hts (.instantiable RX5 10) (by decide +kernel))
  obtain ⟨c6, i6, h6⟩ := u_known (C := RX6) (T := TX6) (N := 27) (n := 27) hts inX6 (hts (.instantiable RX6 27) (by decide +kernel))
  refine ⟨(fun k => [c0, c1, c2, c3, c4, c5, c6].getD k c0, fun k => [i0, i1, i2, i3, i4, i5, i6].getD k i0), fun c q hq => ?_⟩
  match c, hq with
  | 0, hq => cases hq; exact h0
  | 1, hq => cases hq; exact h1
  | 2, hq => cases hq; exact h2
  | 3, hq => cases hq; exact h3
  | 4, hq => cases hq; exact h4
  | 5, hq => cases hq; exact h5
  | 6, hq => cases hq; exact h6
  | c + 7, hq => simp [vwCl] at hq
theorem rt_first : RT ((f_X4_clear (fun _ => 0) (fun _ => 0)).1) (fun _ => 0) (fun _ => 0) (fun _ => 0) (fun _ => 0) ((f_X4_clear (fun _ => 0) (fun _ => 0)).2.1) ((f_X4_clear (fun _ => 0) (fun _ => 0)).2.2.1) ((f_X4_clear (fun _ => 0) (fun _ => 0)).2.2.2.1) ((f_X4_clear (fun _ => 0) (fun _ => 0)).2.2.2.2.1) ((f_X4_clear (fun _ => 0) (fun _ => 0)).2.2.2.2.2.1) ((f_X4_clear (fun _ => 0) (fun _ => 0)).2.2.2.2.2.2) 1 (upd (f_X6_begins (fun _ => 0)) 2 1) := by
  have hb : ∀ k, k < 50 → k ≠ 2 → (upd (f_X6_begins (fun _ => 0)) 2 1) k = if k = 9 then 20 else if k = 8 then 6 else if k = 7 then 1 else if k = 6 then 12 else if k = 2 then 0 else 0 := fun k hk hn => by rw [pk_un hn]; exact begins_at _ k hk
  have l : ∀ k, k < 4 → (f_X4_clear (fun _ => 0) (fun _ => 0)).1 k = saG 0 k := fun k hk => show va_cpy (saG 0) (fun _ => 0) 0 0 4 k = saG 0 k from cpy_at hk
  refine ⟨⟨hb 0 (by decide) (by decide), hb 1 (by decide) (by decide), pk_us, hb 3 (by decide) (by decide), hb 4 (by decide) (by decide), hb 5 (by decide) (by decide)⟩, ⟨(hb 6 (by decide) (by decide)).trans ((l 0 (by decide)).trans sa_0.1).symm, (hb 7 (by decide) (by decide)).trans ((l 1 (by decide)).trans sa_0.2.1).symm, (hb 8 (by decide) (by decide)).trans ((l 2 (by decide)).trans sa_0.2.2.1).symm, (hb 9 (by decide) (by decide)).trans ((l 3 (by decide)).trans sa_0.2.2.2).symm⟩, ⟨by decide, by decide⟩, ⟨by decide, by decide⟩, .inl rfl, ⟨by rw [l 3 (by decide), sa_0.2.2.2]; decide, by rw [l 3 (by decide), sa_0.2.2.2]; decide⟩, fun k hk => absurd hk (by show ¬ (k : Int) < (0 : Int32).toInt; rw [z0I]; omega)⟩
theorem z40 : 0 ≤ (0 : Int32).toInt ∧ (0 : Int32).toInt ≤ 40 := by decide
theorem m13 : -1 ≤ (-1 : Int32).toInt ∧ (-1 : Int32).toInt ≤ 3 := by decide
theorem mso_m : ∀ i : Nat, i < 4 → (upd (upd (upd (upd (fun _ => 0) 0 (-1)) 1 (-1)) 2 (-1)) 3 (-1)) i = -1 := by decide
theorem inv_first : INV (fun _ => 0) 0 0 ((f_X4_clear (fun _ => 0) (fun _ => 0)).1) (fun _ => 0) (fun _ => 0) (fun _ => 0) (fun _ => 0) ((f_X4_clear (fun _ => 0) (fun _ => 0)).2.1) ((f_X4_clear (fun _ => 0) (fun _ => 0)).2.2.1) ((f_X4_clear (fun _ => 0) (fun _ => 0)).2.2.2.1) ((f_X4_clear (fun _ => 0) (fun _ => 0)).2.2.2.2.1) ((f_X4_clear (fun _ => 0) (fun _ => 0)).2.2.2.2.2.1) ((f_X4_clear (fun _ => 0) (fun _ => 0)).2.2.2.2.2.2) 1 ((f_X4_clear (fun _ => 0) (fun _ => 0)).1) (fun _ => 0) (fun _ => 0) (fun _ => 0) (fun _ => 0) ((f_X4_clear (fun _ => 0) (fun _ => 0)).2.1) ((f_X4_clear (fun _ => 0) (fun _ => 0)).2.2.1) ((f_X4_clear (fun _ => 0) (fun _ => 0)).2.2.2.1) ((f_X4_clear (fun _ => 0) (fun _ => 0)).2.2.2.2.1) ((f_X4_clear (fun _ => 0) (fun _ => 0)).2.2.2.2.2.1) ((f_X4_clear (fun _ => 0) (fun _ => 0)).2.2.2.2.2.2) 1 (fun _ => 0) 0 (fun _ => 0) 0 (fun _ => (fun _ => 0)) (fun _ => (-1)) (fun _ => 0) (fun _ => 2) (fun _ => 0) (fun _ => 0) (fun _ => 0) (upd (f_X6_begins (fun _ => 0)) 2 1) (fun _ => 0) (fun _ => 0) (fun _ => 0) (upd (upd (upd (upd (fun _ => 0) 0 (-1)) 1 (-1)) 2 (-1)) 3 (-1)) (fun _ => 0) (fun _ => 0) (fun _ => 0) (fun _ => 0) (fun _ => 0) (fun _ => 0) := by
  refine ⟨rt_first, fun h => absurd rfl h, ⟨⟨by decide, by decide⟩, fun k _ => rfl⟩, ⟨⟨by decide, by decide⟩, fun k hk => absurd hk (by rw [z0I]; omega)⟩, ⟨⟨by decide, by decide⟩, fun k hk => absurd hk (by rw [z0I]; omega)⟩, ⟨fun _ => z40, fun _ => z40, fun i hi => ⟨⟨(mso_m i hi).symm, rfl⟩, m13, fun k _ => rfl⟩⟩, fun i _ => .inr (.inr ⟨rfl, rfl⟩)⟩
