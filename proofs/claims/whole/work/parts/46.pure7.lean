/-! rows of seconds, and the reader; what a sheet tells -/
theorem one_bit : ∀ i : Fin 32, (1#32).getLsbD i.val = decide (i.val = 0) := by decide +kernel
theorem bit_gen {r v : Int32} {k : Nat} (hk : (v.toBitVec.smod 32).toNat = k) (h8 : k < 8) : (r >>> v) &&& 1 = if r.toBitVec.getLsbD k = true then 1 else 0 := by
  apply Int32.toBitVec_inj.mp
  rw [Int32.toBitVec_and, Int32.toBitVec_shiftRight]
  unfold BitVec.sshiftRight'
  rw [hk]
  apply BitVec.eq_of_getLsbD_eq
  intro i hi
  rw [BitVec.getLsbD_and, BitVec.getLsbD_sshiftRight, show (1 : Int32).toBitVec = 1#32 from rfl, one_bit ⟨i, hi⟩]
  by_cases h0 : i = 0
  · subst h0
    rw [if_pos (by omega), Nat.add_zero]
    by_cases hb : r.toBitVec.getLsbD k = true
    · rw [if_pos hb, hb]; rfl
    · rw [if_neg hb, Bool.eq_false_iff.mpr hb]; rfl
  · have hf : decide (i = 0) = false := decide_eq_false h0
    show (_ && decide (i = 0)) = _
    rw [hf, Bool.and_false]
    split
    · rw [show (1 : Int32).toBitVec = 1#32 from rfl, one_bit ⟨i, hi⟩]; exact hf.symm
    · rw [show (0 : Int32).toBitVec = 0#32 from rfl, BitVec.getLsbD_zero]
theorem bit_at {r x : Int32} (hx : 0 ≤ x.toInt ∧ x.toInt < 8) : (r >>> (x &&& 31)) &&& 1 = if r.toBitVec.getLsbD x.toNatClampNeg = true then 1 else 0 := by
  rcases eight_of (vpI hx.1 hx.2) with rfl | rfl | rfl | rfl | rfl | rfl | rfl | rfl
  · exact bit_gen (k := 0) (by decide) (by decide)
  · exact bit_gen (k := 1) (by decide) (by decide)
  · exact bit_gen (k := 2) (by decide) (by decide)
  · exact bit_gen (k := 3) (by decide) (by decide)
  · exact bit_gen (k := 4) (by decide) (by decide)
  · exact bit_gen (k := 5) (by decide) (by decide)
  · exact bit_gen (k := 6) (by decide) (by decide)
  · exact bit_gen (k := 7) (by decide) (by decide)
theorem shl_bit : ∀ w x : Fin 8, ((1 : Int32) <<< (Int32.ofNat w.val &&& 31)).toBitVec.getLsbD x.val = decide (w = x) := by decide +kernel
theorem bit_or {n w x : Int32} (hw : 0 ≤ w.toInt ∧ w.toInt < 8) (hx : 0 ≤ x.toInt ∧ x.toInt < 8) : ((n ||| ((1 : Int32) <<< (w &&& 31))) >>> (x &&& 31)) &&& 1 = if w = x then 1 else (n >>> (x &&& 31)) &&& 1 := by
  obtain ⟨a, e1, q1⟩ := ofI (x := w) (B := 8) hw.1 hw.2
  obtain ⟨b, e2, q2⟩ := ofI (x := x) (B := 8) hx.1 hx.2
  have t := shl_bit a b
  rw [← e1] at t
  have hb : x.toNatClampNeg = b.val := by have := cl_nn hx.1; omega
  rw [bit_at hx, bit_at hx, Int32.toBitVec_or, BitVec.getLsbD_or, hb, t]
  by_cases c : w = x
  · have d : a = b := Fin.ext (by have := i32_eq.mp c; omega)
    rw [if_pos c, decide_eq_true d, Bool.or_true, if_pos rfl]
  · have d : ¬ a = b := fun d => c (by rw [e1, e2, d])
    rw [if_neg c, decide_eq_false d, Bool.or_false]
theorem snd_bitL {s : Nat → Int32} {x : Int32} (hok : okS s) (hx : 0 ≤ x.toInt ∧ x.toInt < 8) : ∀ (N : Nat) (x1 x2 : Int32), bS x1 → 0 ≤ x2.toInt → ((s 0).toInt - x2.toInt).toNat < N → ((l_X6_sounding_4 s N x1 x2).1 >>> (x &&& 31)) &&& 1 = if x2.toInt ≤ x.toInt ∧ x.toInt < (s 0).toInt ∧ ¬ f_X6_sounds s x = 0 then 1 else (x1 >>> (x &&& 31)) &&& 1 := by
  intro N
  induction N with
  | zero => intro x1 x2 _ _ h; exact absurd h (Nat.not_lt_zero _)
  | succ N ih =>
    intro x1 x2 hb h0 hN
    rw [l_X6_sounding_4]
    by_cases c : s 0 ≤ x2
    · have c' := i32_le.mp c
      rw [if_pos c, if_neg (by omega)]
    · rw [if_neg c, pr1_mk]
      have hs := cnt_step (B := 8) h0 hok.2.1 (by decide) c
      have c' : x2.toInt < (s 0).toInt := by have := mt i32_le.mpr c; omega
      have e1 := i32_add1 (i := x2) (by omega)
      have hw : vp_in x2 8 := vpI h0 hs.2.2.2
      rw [ih _ _ (bS_or hb (by split; exact bS0; exact bS_shl hw)) hs.1 (by omega), e1]
      by_cases d : f_X6_sounds s x2 = 0
      · rw [if_pos d, Int32.or_zero]
        by_cases e : x2 = x
        · subst e
          rw [if_neg (by omega), if_neg (fun q => q.2.2 d)]
        · have e' : ¬ x2.toInt = x.toInt := fun q => e (i32_eq.mpr q)
          by_cases f : x2.toInt ≤ x.toInt ∧ x.toInt < (s 0).toInt ∧ ¬ f_X6_sounds s x = 0
          · rw [if_pos f, if_pos ⟨by omega, f.2⟩]
          · rw [if_neg f, if_neg (fun q => f ⟨by omega, q.2⟩)]
      · rw [if_neg d, bit_or ⟨h0, hs.2.2.2⟩ hx]
        by_cases e : x2 = x
        · subst e
          rw [if_neg (by omega), if_pos rfl, if_pos ⟨Int.le_refl _, c', d⟩]
        · have e' : ¬ x2.toInt = x.toInt := fun q => e (i32_eq.mpr q)
          rw [if_neg e]
          by_cases f : x2.toInt ≤ x.toInt ∧ x.toInt < (s 0).toInt ∧ ¬ f_X6_sounds s x = 0
          · rw [if_pos f, if_pos ⟨by omega, f.2⟩]
          · rw [if_neg f, if_neg (fun q => f ⟨by omega, q.2⟩)]
theorem z_bit {x : Int32} (hx : 0 ≤ x.toInt ∧ x.toInt < 8) : ((0 : Int32) >>> (x &&& 31)) &&& 1 = 0 := by
  rcases eight_of (vpI hx.1 hx.2) with rfl | rfl | rfl | rfl | rfl | rfl | rfl | rfl <;> decide
theorem snd_bit {s : Nat → Int32} {x : Int32} (hok : okS s) (h0 : 0 ≤ x.toInt) (h1 : x.toInt < (s 0).toInt) : (f_X6_sounding s >>> (x &&& 31)) &&& 1 = if f_X6_sounds s x = 0 then 0 else 1 := by
  have h8 := hok.2.1
  have hl := snd_bitL (x := x) hok ⟨h0, by omega⟩ 300 0 0 bS0 (by decide) (by rw [z0I]; have := hok.1; omega)
  unfold f_X6_sounding
  generalize l_X6_sounding_4 s 300 0 0 = p at hl ⊢
  obtain ⟨p0, p1⟩ := p
  rw [pr2_mk]
  have hl' : (p0 >>> (x &&& 31)) &&& 1 = if (0 : Int32).toInt ≤ x.toInt ∧ x.toInt < (s 0).toInt ∧ ¬ f_X6_sounds s x = 0 then 1 else ((0 : Int32) >>> (x &&& 31)) &&& 1 := hl
  rw [hl']
  by_cases c : f_X6_sounds s x = 0
  · rw [if_pos c, if_neg (fun q => q.2.2 c), z_bit ⟨h0, by omega⟩]
  · rw [if_neg c, if_pos ⟨by rw [z0I]; exact h0, h1, c⟩]
theorem upd3_eq {f g : Nat → Int32} {a b c k : Nat} {u v w : Int32} (h : k ≠ a → k ≠ b → k ≠ c → f k = g k) : upd (upd (upd f a u) b v) c w k = upd (upd (upd g a u) b v) c w k := by
  by_cases e1 : k = c
  · rw [e1, pk_us, pk_us]
  · rw [pk_un e1, pk_un e1]
    by_cases e2 : k = b
    · rw [e2, pk_us, pk_us]
    · rw [pk_un e2, pk_un e2]
      by_cases e3 : k = a
      · rw [e3, pk_us, pk_us]
      · rw [pk_un e3, pk_un e3]; exact h e3 e2 e1
theorem ix3n {i : Int32} (h0 : 0 ≤ i.toInt) (h : i.toInt < 10) : ((i * 3).toNatClampNeg : Int) = 3 * i.toInt ∧ ((i * 3 + 1).toNatClampNeg : Int) = 3 * i.toInt + 1 ∧ ((i * 3 + 2).toNatClampNeg : Int) = 3 * i.toInt + 2 := by
  have e3 : (3 : Int32).toInt = 3 := rfl
  have e2 : (2 : Int32).toInt = 2 := rfl
  have m1 : (i * 3).toInt = i.toInt * 3 := i32_mulE (a := i) (b := 3) (by rw [e3]; omega) (by rw [e3]; omega)
  have m2 : (i * 3 + 1).toInt = (i * 3).toInt + 1 := i32_add1 (by omega)
  have m3 : (i * 3 + 2).toInt = (i * 3).toInt + 2 := i32_addE (a := i * 3) (b := 2) (by rw [e2]; omega) (by rw [e2]; omega)
  rw [cl_nn (by omega), cl_nn (by omega), cl_nn (by omega)]
  omega
section PU12
variable {lw kd bt ph cn : Nat → Int32} {ct zz : Int32}
theorem proveL {x1 x2 : Int32} (hx : 0 ≤ x1.toInt ∧ x1.toInt < ct.toInt) (h2 : x2.toInt ≤ 10) : ∀ (N : Nat) (x3 : Int32) (rws mrw no : Nat → Int32) (sc rn lg dn : Int32) (s : Nat → Int32), RT lw kd bt ph cn no ct sc rn lg dn zz s → 0 ≤ x3.toInt → x3.toInt ≤ x2.toInt → (x2.toInt - x3.toInt).toNat < N → (∀ k : Nat, (k : Int) < 3 * x3.toInt → rws k = mrw k) → ∀ k : Nat, (k : Int) < 3 * x2.toInt → (l_X5_prove_26 lw kd bt ph cn ct x1 x2 N x3 rws no sc rn lg dn).2.1 k = (l_X6_prove_35 x1 x2 N x3 s mrw).2.2 k := by
  intro N
  induction N with
  | zero => intro x3 rws mrw no sc rn lg dn s _ _ _ h; exact absurd h (Nat.not_lt_zero _)
  | succ N ih =>
    intro x3 rws mrw no sc rn lg dn s h h0 h1 hN hr k hk
    rw [l_X5_prove_26, l_X6_prove_35]
    by_cases c : x2 ≤ x3
    · have c' := i32_le.mp c
      rw [if_pos c, if_pos c]
      exact hr k (by omega)
    · rw [if_neg c, if_neg c]
      have c' : x3.toInt < x2.toInt := by have := mt i32_le.mpr c; omega
      have e1 := i32_add1 (i := x3) (by omega)
      have hct := h.2.2.1
      have hb := snd_bit (rt_ok h) hx.1 (by rw [h.1.1]; exact hx.2)
      have hp := rt_passS h
      generalize f_X4_pass lw kd bt ph cn no ct sc rn lg dn = p at hp ⊢
      obtain ⟨p0, p1, p2, p3, p4, p5⟩ := p
      have hp0 : p0 = f_X6_sounding s := hp.1
      have hp1 : RT lw kd bt ph cn p1 ct p2 p3 p4 p5 zz (f_X6_goesBy s (f_X6_sounding s)) := hp.2
      have e3 : f_X6_goesBy s (f_X6_sounding s) 3 = p3 := hp1.1.2.2.2.1
      obtain ⟨-, -, -, -, i4⟩ := rp_its hx.1 (by omega) (rt_p hp1 hx.1 hx.2)
      rw [pr6_mk, pr1_mk, pr1_mk, goes1, and_m1, e3, i4, hp0, hb, Int32.mul_comm 3 x3]
      obtain ⟨n1, n2, n3⟩ := ix3n h0 (show x3.toInt < 10 by omega)
      exact ih _ _ _ _ _ _ _ _ _ hp1 (by omega) (by omega) (by omega) (fun j hj => upd3_eq (fun q1 q2 q3 => hr j (by omega))) k hk
theorem e_prove {no s mas rws mrw : Nat → Int32} {sc rn lg dn rc mrn : Int32} {tlw tkd tbt tph tcn tno : Nat → Int32} {tct tsc trn tlg tdn tzz : Int32} (h : RT lw kd bt ph cn no ct sc rn lg dn zz s) (hrc : rc = mrn) (hc : 0 ≤ rc.toInt ∧ rc.toInt ≤ 10) (hr : ∀ k : Nat, (k : Int) < 3 * rc.toInt → rws k = mrw k) (x1 x2 : Int32) : (f_X5_prove rws rc lw kd bt ph cn no ct sc rn lg dn zz tlw tkd tbt tph tcn tno tct tsc trn tlg tdn tzz x1 x2).1 = (f_X6_prove s mas mrw mrn x1 x2).1 ∧ (∀ k, k < 50 → (f_X6_prove s mas mrw mrn x1 x2).2.1 k = s k) ∧ (f_X5_prove rws rc lw kd bt ph cn no ct sc rn lg dn zz tlw tkd tbt tph tcn tno tct tsc trn tlg tdn tzz x1 x2).2.2.1 = (f_X6_prove s mas mrw mrn x1 x2).2.2.2.2 ∧ (0 ≤ (f_X6_prove s mas mrw mrn x1 x2).2.2.2.2.toInt ∧ (f_X6_prove s mas mrw mrn x1 x2).2.2.2.2.toInt ≤ 10) ∧ ∀ k : Nat, (k : Int) < 3 * (f_X6_prove s mas mrw mrn x1 x2).2.2.2.2.toInt → (f_X5_prove rws rc lw kd bt ph cn no ct sc rn lg dn zz tlw tkd tbt tph tcn tno tct tsc trn tlg tdn tzz x1 x2).2.1 k = (f_X6_prove s mas mrw mrn x1 x2).2.2.2.1 k := by
  subst hrc
  unfold f_X5_prove f_X6_prove f_X5_isTrial
  rw [rt_has h, isin_eq (x := x2) (l := 1) (h := 10) rfl rfl]
  by_cases c1 : f_X4_has ct x1 = 0
  · rw [if_pos c1, if_pos c1, if_pos rfl]; exact ⟨rfl, fun _ _ => rfl, rfl, hc, hr⟩
  · rw [if_neg c1, if_neg c1]
    have hx := rt_in h c1
    by_cases c2 : f_X5_isIn x2 1 10 = 0
    · rw [if_pos c2, if_pos c2, if_pos rfl]; exact ⟨rfl, fun _ _ => rfl, rfl, hc, hr⟩
    · rw [if_neg c2, if_neg c2, if_neg i1n0]
      have a2 := in_isIn c2
      rw [z1I, show (10 : Int32).toInt = 10 from rfl] at a2
      have hp := proveL (x1 := x1) (x2 := x2) ⟨hx.1, hx.2.1⟩ a2.2 300 0 rws mrw _ sc rn lg dn s (rt_cpy (lw' := tlw) (kd' := tkd) (bt' := tbt) (ph' := tph) (cn' := tcn) (no' := tno) h) (by decide) (by rw [z0I]; omega) (by rw [z0I]; omega) (fun k hk => by rw [z0I] at hk; omega)
      generalize l_X5_prove_26 (va_cpy lw tlw 0 0 4) (va_cpy kd tkd 0 0 8) (va_cpy bt tbt 0 0 8) (va_cpy ph tph 0 0 8) (va_cpy cn tcn 0 0 8) ct x1 x2 300 0 rws (va_cpy no tno 0 0 8) sc rn lg dn = p at hp ⊢
      obtain ⟨p0, p1, p2, p3, p4, p5, p6⟩ := p
      generalize l_X6_prove_35 x1 x2 300 0 s mrw = q at hp ⊢
      obtain ⟨q0, q1, q2⟩ := q
      simp only [pr7_mk, pr3_mk, pr1_mk]
      exact ⟨trivial, back_s _, trivial, ⟨by omega, a2.2⟩, hp⟩
theorem judgeL {rws mrw : Nat → Int32} {rc x1 tz : Int32} (hx : 0 ≤ x1.toInt ∧ x1.toInt < ct.toInt) (hc : 0 ≤ rc.toInt ∧ rc.toInt ≤ 10) (hr : ∀ k : Nat, (k : Int) < 3 * rc.toInt → rws k = mrw k) (g : Int32 × (Nat → Int32) × Int32 × Int32 × Int32 × Int32 → T13) (hg : ∀ z, (g z).1 = 0) : ∀ (N : Nat) (x2 : Int32) (no : Nat → Int32) (sc rn lg dn : Int32) (s : Nat → Int32), RT lw kd bt ph cn no ct sc rn lg dn zz s → 0 ≤ x2.toInt → x2.toInt ≤ rc.toInt → (rc.toInt + 1 - x2.toInt).toNat < N → (sm (l_X5_judge_26 rws rc lw kd bt ph cn ct tz x1 N x2 no sc rn lg dn) g (fun X => X)).1 = if (l_X6_judge_25 mrw rc x1 N x2 1 s).2.1 = 0 then (l_X6_judge_25 mrw rc x1 N x2 1 s).1 else 0 := by
  intro N
  induction N with
  | zero => intro x2 no sc rn lg dn s _ _ _ h; exact absurd h (Nat.not_lt_zero _)
  | succ N ih =>
    intro x2 no sc rn lg dn s h h0 h1 hN
    by_cases c : rc ≤ x2
    · rw [l_X5_judge_26, l_X6_judge_25, if_pos c, if_pos c, sm_inl, if_neg (show ¬ ((x2, (1 : Int32), s) : Int32 × Int32 × (Nat → Int32)).2.1 = 0 from i1n0)]
      exact hg _
    · rw [l_X5_judge_26, if_neg c]
      have c' : x2.toInt < rc.toInt := by have := mt i32_le.mpr c; omega
      have e1 := i32_add1 (i := x2) (by omega)
      have hct := h.2.2.1
      have hb := snd_bit (rt_ok h) hx.1 (by rw [h.1.1]; exact hx.2)
      have hp := rt_passS h
      generalize f_X4_pass lw kd bt ph cn no ct sc rn lg dn = p at hp ⊢
      obtain ⟨p0, p1, p2, p3, p4, p5⟩ := p
      have hp0 : p0 = f_X6_sounding s := hp.1
      have hp1 : RT lw kd bt ph cn p1 ct p2 p3 p4 p5 zz (f_X6_goesBy s (f_X6_sounding s)) := hp.2
      have e3 : f_X6_goesBy s (f_X6_sounding s) 3 = p3 := hp1.1.2.2.2.1
      obtain ⟨-, -, -, -, i4⟩ := rp_its hx.1 (by omega) (rt_p hp1 hx.1 hx.2)
      obtain ⟨n1, n2, n3⟩ := ix3n h0 (show x2.toInt < 10 by omega)
      have hM : l_X6_judge_25 mrw rc x1 (N + 1) x2 1 s = l_X6_judge_25 mrw rc x1 N (x2 + 1) (if (if rws (x2 * 3).toNatClampNeg = (if f_X6_sounds s x1 = 0 then (0 : Int32) else (1 : Int32)) then (1 : Int32) else (0 : Int32)) = 0 then (0 : Int32) else (if rws (x2 * 3 + 1).toNatClampNeg = p3 then (if rws (x2 * 3 + 2).toNatClampNeg = p1 x1.toNatClampNeg then (1 : Int32) else (0 : Int32)) else (0 : Int32))) (f_X6_goesBy s (f_X6_sounding s)) := by
        rw [l_X6_judge_25, if_neg c, if_neg i1n0, pr1_mk, pr1_mk, pr1_mk, pr1_mk, goes1, and_m1, e3, i4, Int32.mul_comm 3 x2, hr (x2 * 3).toNatClampNeg (by omega), hr (x2 * 3 + 1).toNatClampNeg (by omega), hr (x2 * 3 + 2).toNatClampNeg (by omega)]
      rw [pr6_mk, hp0, hb, hM]
      obtain ⟨M, rfl⟩ : ∃ M, N = M + 1 := ⟨N - 1, by omega⟩
      have el : ∀ t : Nat → Int32, l_X6_judge_25 mrw rc x1 (M + 1) (x2 + 1) 0 t = (x2 + 1, 0, t) := fun t => by
        rw [l_X6_judge_25]
        split
        · rfl
        · rw [if_pos rfl]
      generalize (if f_X6_sounds s x1 = 0 then (0 : Int32) else (1 : Int32)) = j0
      by_cases d1 : rws (x2 * 3).toNatClampNeg = j0
      · rw [if_pos d1, if_pos d1, if_neg i1n0]
        by_cases d2 : rws (x2 * 3 + 1).toNatClampNeg = p3
        · rw [if_pos d2, if_pos d2]
          by_cases d3 : rws (x2 * 3 + 2).toNatClampNeg = p1 x1.toNatClampNeg
          · rw [if_pos d3, if_pos d3]
            exact ih _ _ _ _ _ _ _ hp1 (by omega) (by omega) (by omega)
          · rw [if_neg d3, if_neg d3, el, sm_inr]; rfl
        · rw [if_neg d2, if_neg d2, el, sm_inr]; rfl
      · rw [if_neg d1, if_neg d1, if_pos rfl, el, sm_inr]; rfl
theorem e_judge {no s mas rws mrw : Nat → Int32} {sc rn lg dn rc mrn : Int32} {tlw tkd tbt tph tcn tno : Nat → Int32} {tct tsc trn tlg tdn tzz : Int32} (h : RT lw kd bt ph cn no ct sc rn lg dn zz s) (hrc : rc = mrn) (hc : 0 ≤ rc.toInt ∧ rc.toInt ≤ 10) (hr : ∀ k : Nat, (k : Int) < 3 * rc.toInt → rws k = mrw k) (x1 : Int32) : (f_X5_judge rws rc lw kd bt ph cn no ct sc rn lg dn zz tlw tkd tbt tph tcn tno tct tsc trn tlg tdn tzz x1).1 = (f_X6_judge s mas mrw mrn x1).1 ∧ ∀ k, k < 50 → (f_X6_judge s mas mrw mrn x1).2.1 k = s k := by
  subst hrc
  unfold f_X5_judge f_X6_judge
  rw [rt_has h]
  by_cases c1 : f_X4_has ct x1 = 0
  · rw [if_pos c1, if_pos c1]; exact ⟨rfl, fun _ _ => rfl⟩
  · rw [if_neg c1, if_neg c1]
    have hx := rt_in h c1
    have hp := judgeL (x1 := x1) (tz := zz) ⟨hx.1, hx.2.1⟩ hc hr (fun (z4 : Int32 × (Nat → Int32) × Int32 × Int32 × Int32 × Int32) => pr6 z4 (fun x2_4 tno_4 tsc_4 trn_4 tlg_4 tdn_4 => ((0 : Int32), (va_cpy lw tlw 0 0 4), (va_cpy kd tkd 0 0 8), (va_cpy bt tbt 0 0 8), (va_cpy ph tph 0 0 8), (va_cpy cn tcn 0 0 8), tno_4, ct, tsc_4, trn_4, tlg_4, tdn_4, zz))) (fun z => rfl) 300 0 _ sc rn lg dn s (rt_cpy (lw' := tlw) (kd' := tkd) (bt' := tbt) (ph' := tph) (cn' := tcn) (no' := tno) h) (by decide) (by rw [z0I]; exact hc.1) (by rw [z0I]; omega)
    have hb := fun t => back_s (s := s) (mas := mas) t
    rw [hp]
    generalize l_X6_judge_25 mrw rc x1 300 0 1 s = q
    obtain ⟨q0, q1, q2⟩ := q
    simp only [pr3_mk, pr1_mk]
    by_cases d : q1 = 0
    · rw [if_pos d, if_pos d]; exact ⟨rfl, hb _⟩
    · rw [if_neg d, if_neg d]; exact ⟨rfl, hb _⟩
end PU12
theorem lgc_eq {a b : Int64} : lg_cmp a b = 0 ↔ a = b := by
  unfold lg_cmp
  by_cases h : b < a
  · rw [if_pos h]
    exact ⟨fun c => absurd c (by decide), fun e => by rw [e] at h; exact absurd h (Int64.lt_irrefl)⟩
  · rw [if_neg h]
    by_cases e : a = b
    · rw [if_pos e]; exact ⟨fun _ => e, fun _ => rfl⟩
    · rw [if_neg e]; exact ⟨fun c => absurd c (by decide), fun q => absurd q e⟩
theorem i64_inj {a b : Int32} (h : a.toInt64 = b.toInt64) : a = b := by
  have e := congrArg Int64.toInt32 h
  rw [Int32.toInt32_toInt64, Int32.toInt32_toInt64] at e
  exact e
theorem lgc_m1 {a : Int32} : lg_cmp a.toInt64 (-1) = 0 ↔ a = -1 := by
  rw [lgc_eq]
  exact ⟨fun e => i64_inj (e.trans (show (-1 : Int64) = (-1 : Int32).toInt64 by decide)), fun e => by rw [e]; decide⟩
theorem lgc_ii {a b : Int32} : lg_cmp a.toInt64 b.toInt64 = 0 ↔ a = b := by
  rw [lgc_eq]
  exact ⟨i64_inj, fun e => by rw [e]⟩
/-- the sheets -/
def RS (sit : Nat → Nat → Int64) (ssr ssi mso msz mnu : Nat → Int32) : Prop := (∀ i : Nat, 0 ≤ (ssi i).toInt ∧ (ssi i).toInt ≤ 40) ∧ (∀ i : Nat, 0 ≤ (msz i).toInt ∧ (msz i).toInt ≤ 40) ∧ ∀ i : Nat, i < 4 → (ssr i = mso i ∧ ssi i = msz i) ∧ (-1 ≤ (ssr i).toInt ∧ (ssr i).toInt ≤ 3) ∧ ∀ k : Nat, k < 40 → sit i k = (mnu (40 * i + k)).toInt64
theorem nu_ix {x y : Int32} (h : vp_in x 4) (y0 : 0 ≤ y.toInt) (y1 : y.toInt < 40) : ((40 : Int32) * x + y).toNatClampNeg = 40 * x.toNatClampNeg + y.toNatClampNeg ∧ x.toNatClampNeg < 4 ∧ y.toNatClampNeg < 40 := by
  have h' := vp_in_iff.mp h
  have e40 : (40 : Int32).toInt = 40 := rfl
  have m1 : ((40 : Int32) * x).toInt = 40 * x.toInt := i32_mulE (a := 40) (b := x) (by rw [e40]; omega) (by rw [e40]; omega)
  have m2 : ((40 : Int32) * x + y).toInt = ((40 : Int32) * x).toInt + y.toInt := i32_addE (by omega) (by omega)
  have c1 := cl_nn h'.1
  have c2 := cl_nn y0
  have c3 := cl_nn (x := (40 : Int32) * x + y) (by omega)
  omega
section PU13
variable {lw kd bt ph cn : Nat → Int32} {ct zz : Int32}
theorem toldL {it : Nat → Int64} {si tz x1 : Int32} {tcn tno msz mnu : Nat → Int32} (hv : vp_in x1 4) (hsz : msz x1.toNatClampNeg = si) (hsi : si.toInt ≤ 40) (hit : ∀ k : Nat, k < 40 → it k = (mnu (40 * x1.toNatClampNeg + k)).toInt64) (g : Int32 × Int32 × Int32 × Int32 × Int32 → T13) (hg : ∀ z, (g z).1 = 1) : ∀ (N : Nat) (x4 : Int32) (no : Nat → Int32) (sc rn lg dn : Int32) (s : Nat → Int32), RT lw kd bt ph cn no ct sc rn lg dn zz s → 0 ≤ x4.toInt → ((41 : Int) - x4.toInt).toNat < N → (sm (l_X5_isTold_24 lw kd bt ph tcn tno ct tz it si N x4 sc rn lg dn) g (fun X => X)).1 = (l_X6_isTold_15 msz mnu x1 N 1 x4 s).1 := by
  intro N
  induction N with
  | zero => intro x4 no sc rn lg dn s _ _ h; exact absurd h (Nat.not_lt_zero _)
  | succ N ih =>
    intro x4 no sc rn lg dn s h h0 hN
    rw [l_X5_isTold_24, l_X6_isTold_15, hsz]
    by_cases c : si ≤ x4
    · rw [if_pos c, if_pos c, sm_inl]; exact hg _
    · rw [if_neg c, if_neg c, if_neg i1n0, pr1_mk, goes1, and_m1, rt_sounding h]
      have c' : x4.toInt < si.toInt := by have := mt i32_le.mpr c; omega
      have e1 := i32_add1 (i := x4) (by omega)
      have hp := rt_goesBy (f_X4_soundingSet lw kd bt ph ct sc rn) h
      obtain ⟨n1, n2, n3⟩ := nu_ix hv h0 (show x4.toInt < 40 by omega)
      generalize f_X4_endSecond lw sc rn lg dn (f_X4_soundingSet lw kd bt ph ct sc rn) = p at hp ⊢
      obtain ⟨p0, p1, p2, p3⟩ := p
      have e3 : f_X6_goesBy s (f_X4_soundingSet lw kd bt ph ct sc rn) 3 = p1 := hp.1.2.2.2.1
      rw [pr4_mk, hit _ n3, n1, e3]
      obtain ⟨M, rfl⟩ : ∃ M, N = M + 1 := ⟨N - 1, by omega⟩
      by_cases d1 : mnu (40 * x1.toNatClampNeg + x4.toNatClampNeg) = -1
      · rw [if_pos (lgc_m1.mpr d1), if_pos d1, pr1_mk]
        exact ih _ _ _ _ _ _ _ hp (by omega) (by omega)
      · rw [if_neg (fun q => d1 (lgc_m1.mp q)), if_neg d1]
        by_cases d2 : mnu (40 * x1.toNatClampNeg + x4.toNatClampNeg) = p1
        · rw [if_pos (lgc_ii.mpr d2), if_pos d2, pr1_mk]
          exact ih _ _ _ _ _ _ _ hp (by omega) (by omega)
        · rw [if_neg (fun q => d2 (lgc_ii.mp q)), if_neg d2, pr1_mk, sm_inr, l_X6_isTold_15]
          split
          · rfl
          · rw [if_pos rfl]
theorem rt_told {no s mas msz mnu : Nat → Int32} {sc rn lg dn si x1 x2 x3 : Int32} {it : Nat → Int64} {tlw tkd tbt tph tcn tno : Nat → Int32} (h : RT lw kd bt ph cn no ct sc rn lg dn zz s) (hv : vp_in x1 4) (hsz : msz x1.toNatClampNeg = si) (hsi : si.toInt ≤ 40) (hit : ∀ k : Nat, k < 40 → it k = (mnu (40 * x1.toNatClampNeg + k)).toInt64) (hx : 0 ≤ x2.toInt ∧ x2.toInt < ct.toInt) (h3 : 0 ≤ x3.toInt ∧ x3.toInt ≤ 8) {ss : Nat → Int32} (hs : ∀ k, k < 50 → k ≠ 10 + 5 * x2.toNatClampNeg + 2 → ss k = s k) : (f_X5_isTold lw kd bt ph cn no ct sc rn lg dn zz tlw tkd tbt tph tcn tno it si x2 x3).1 = (f_X6_isTold (upd ss (10 + 5 * x2.toNatClampNeg + 2) x3) mas msz mnu x1).1 := by
  have h2 := rt_ph (rt_cpy (lw' := tlw) (kd' := tkd) (bt' := tbt) (ph' := tph) (cn' := tcn) (no' := tno) h) (k0 := x2.toNatClampNeg) (v := x3) (by rw [cl_nn hx.1]; exact hx.2) h3
  have h4 := rt_same h2 (upd_agree hs)
  have hm : (f_X6_isTold (upd ss (10 + 5 * x2.toNatClampNeg + 2) x3) mas msz mnu x1).1 = (l_X6_isTold_15 msz mnu x1 300 1 0 (upd ss (10 + 5 * x2.toNatClampNeg + 2) x3)).1 := by
    unfold f_X6_isTold
    generalize l_X6_isTold_15 msz mnu x1 300 1 0 (upd ss (10 + 5 * x2.toNatClampNeg + 2) x3) = q
    obtain ⟨q0, q1, q2⟩ := q
    rw [pr1_mk, pr3_mk, pr1_mk]
  rw [hm]
  unfold f_X5_isTold
  exact toldL hv hsz hsi hit _ (fun z => by obtain ⟨z0, z1, z2, z3, z4⟩ := z; rw [pr5_mk]) 300 0 _ sc rn lg dn _ h4 (by decide) (by decide)
end PU13
theorem told_kp {ss mas msz mnu : Nat → Int32} {x1 : Int32} : ∀ k, k < 50 → (f_X6_isTold ss mas msz mnu x1).2.1 k = ss k := told_keep (r := (f_X6_isTold ss mas msz mnu x1).1) (s2 := (f_X6_isTold ss mas msz mnu x1).2.1) (m2 := (f_X6_isTold ss mas msz mnu x1).2.2) rfl
theorem fit_at {f : Int32} (h0 : 0 ≤ f.toInt) (h : f.toInt < 256) : (f_J6_bitCount_0f7a4 (f * 2 + 0) = f_J6_bitCount_0f7a4 f + 0 ∧ f_J6_bitCount_0f7a4 (f * 2 + 1) = f_J6_bitCount_0f7a4 f + 1) ∧ f_J6_numberOfTrailingZeros_0f7a4 (f * 2 + 1) = 0 ∧ ((f * 2 + 0).toInt = 2 * f.toInt ∧ (f * 2 + 1).toInt = 2 * f.toInt + 1) ∧ (¬ f = 0 → f_J6_numberOfTrailingZeros_0f7a4 (f * 2 + 0) = f_J6_numberOfTrailingZeros_0f7a4 f + 1) := by
  obtain ⟨n, e, q⟩ := ofI (x := f) (B := 256) h0 h
  have t := fit_tab n
  rw [← e, q] at t
  exact ⟨t.1, t.2.1, t.2.2.1, fun hf => t.2.2.2 (fun q2 => hf (by rw [e, q2]; rfl))⟩
section PU14
variable {lw kd bt ph cn no s mso msz mnu ssr ssi : Nat → Int32} {ct sc rn lg dn zz : Int32} {sit : Nat → Nat → Int64}
theorem fitsL {x1 x2 ix : Int32} (h : RT lw kd bt ph cn no ct sc rn lg dn zz s) (hS : RS sit ssr ssi mso msz mnu) (hv : vp_in x1 4) (hx : 0 ≤ x2.toInt ∧ x2.toInt < ct.toInt) (hix : ix.toNatClampNeg = 10 + 5 * x2.toNatClampNeg + 2) : ∀ (n N : Nat) (x4 x5 y6 y7 : Int32) (tlw tkd tbt tph tcn tno : Nat → Int32) (tct tsc trn tlg tdn tzz : Int32) (ss mas : Nat → Int32), x5.toInt + 1 = n → n ≤ 9 → n < N → 0 ≤ x4.toInt → x4.toInt < w9 n → y6 = f_J6_bitCount_0f7a4 x4 → (x4 = 0 → y7 = -3) → (¬ x4 = 0 → y7 = f_J6_numberOfTrailingZeros_0f7a4 x4 + (x5 + 1)) → (∀ k, k < 50 → k ≠ 10 + 5 * x2.toNatClampNeg + 2 → ss k = s k) → ((l_X6_fits_69 msz mnu x1 ix N y6 y7 x5 ss mas).1 = f_J6_bitCount_0f7a4 (l_X5_fits_52 lw kd bt ph cn no ct sc rn lg dn zz sit ssi x1 x2 N x4 x5 tlw tkd tbt tph tcn tno tct tsc trn tlg tdn tzz).1 ∧ (l_X6_fits_69 msz mnu x1 ix N y6 y7 x5 ss mas).2.1 = if (l_X5_fits_52 lw kd bt ph cn no ct sc rn lg dn zz sit ssi x1 x2 N x4 x5 tlw tkd tbt tph tcn tno tct tsc trn tlg tdn tzz).1 = 0 then -3 else f_J6_numberOfTrailingZeros_0f7a4 (l_X5_fits_52 lw kd bt ph cn no ct sc rn lg dn zz sit ssi x1 x2 N x4 x5 tlw tkd tbt tph tcn tno tct tsc trn tlg tdn tzz).1) ∧ ∀ k, k < 50 → k ≠ 10 + 5 * x2.toNatClampNeg + 2 → (l_X6_fits_69 msz mnu x1 ix N y6 y7 x5 ss mas).2.2.2.1 k = s k := by
  intro n
  induction n with
  | zero =>
    intro N x4 x5 y6 y7 tlw tkd tbt tph tcn tno tct tsc trn tlg tdn tzz ss mas h5 hn hN h40 h4 h6 h7 h8 hs
    obtain ⟨N', rfl⟩ : ∃ M, N = M + 1 := ⟨N - 1, by omega⟩
    have e5 : x5 = -1 := i32_eq.mpr (by rw [show (-1 : Int32).toInt = -1 from rfl]; omega)
    have c : x5 < 0 := by rw [e5]; decide
    rw [l_X5_fits_52, l_X6_fits_69, if_pos c, if_pos c]
    refine ⟨⟨h6, ?_⟩, hs⟩
    show y7 = if x4 = 0 then -3 else f_J6_numberOfTrailingZeros_0f7a4 x4
    by_cases d : x4 = 0
    · rw [if_pos d]; exact h7 d
    · rw [if_neg d, h8 d, e5, show (-1 : Int32) + 1 = 0 from rfl, Int32.add_zero]
  | succ n ih =>
    intro N x4 x5 y6 y7 tlw tkd tbt tph tcn tno tct tsc trn tlg tdn tzz ss mas h5 hn hN h40 h4 h6 h7 h8 hs
    obtain ⟨N', rfl⟩ : ∃ M, N = M + 1 := ⟨N - 1, by omega⟩
    obtain ⟨hpw, hpl⟩ : w9 n = 2 * w9 (n + 1) ∧ w9 (n + 1) ≤ 256 := w9_tab ⟨n, by omega⟩
    have h5' : x5.toInt = n := by clear hpw hpl h4; omega
    have c : ¬ x5 < 0 := by rw [i32_lt, z0I]; clear hpw hpl h4; omega
    have ed := i32_dec (i := x5) (by clear hpw hpl h4; omega)
    have e51 := i32_add1 (i := x5) (by clear hpw hpl h4; omega)
    have hv' := vp_in_iff.mp hv
    have hvn : x1.toNatClampNeg < 4 := by have := cl_nn hv'.1; omega
    obtain ⟨⟨-, q2⟩, -, q4⟩ := hS.2.2 _ hvn
    have hq5 : x5 + -1 + 1 = x5 := i32_eq.mpr (by clear hpw hpl h4 e51 q2 q4; rw [i32_add1 (by omega)]; omega)
    rw [l_X5_fits_52, l_X6_fits_69, if_neg c, if_neg c, hix]
    have ht := rt_told (mas := mas) (x3 := x5) (tlw := tlw) (tkd := tkd) (tbt := tbt) (tph := tph) (tcn := tcn) (tno := tno) h hv q2.symm (hS.1 _).2 q4 hx ⟨by clear hpw hpl h4 e51 q2 q4 ed; omega, by clear hpw hpl h4 e51 q2 q4 ed; omega⟩ hs
    have hk := told_kp (ss := upd ss (10 + 5 * x2.toNatClampNeg + 2) x5) (mas := mas) (msz := msz) (mnu := mnu) (x1 := x1)
    generalize f_X5_isTold lw kd bt ph cn no ct sc rn lg dn zz tlw tkd tbt tph tcn tno (sit x1.toNatClampNeg) (ssi x1.toNatClampNeg) x2 x5 = p at ht ⊢
    obtain ⟨p0, p1, p2, p3, p4, p5, p6, p7, p8, p9, p10, p11, p12⟩ := p
    generalize f_X6_isTold (upd ss (10 + 5 * x2.toNatClampNeg + 2) x5) mas msz mnu x1 = r at ht hk ⊢
    obtain ⟨r0, r1, r2⟩ := r
    have e0 : p0 = r0 := ht
    have hs2 : ∀ k, k < 50 → k ≠ 10 + 5 * x2.toNatClampNeg + 2 → r1 k = s k := fun k hk2 hne => by
      have q := hk k hk2
      rw [pk_un hne] at q
      exact q.trans (hs k hk2 hne)
    obtain ⟨⟨t0, t1⟩, t2, ⟨t3, t4⟩, t5⟩ := fit_at (f := x4) h40 (Int.lt_of_lt_of_le h4 hpl)
    rw [pr13_mk, pr3_mk, e0]
    have a1 : (x5 + -1).toInt + 1 = n := by clear hpw hpl h4 e51 q2 q4 t3 t4 h40 hx; omega
    have a2 : n ≤ 9 := by clear hpw hpl h4 e51 q2 q4 t3 t4 h40 hx a1; omega
    have a3 : n < N' := by clear hpw hpl h4 e51 q2 q4 t3 t4 h40 hx a1 a2; omega
    have a4 : 0 ≤ (x4 * 2 + 0).toInt ∧ (x4 * 2 + 0).toInt < w9 n := by clear e51 q2 q4 hx a1 a2 a3 ed h5 h5' hN hn; omega
    have a5 : 0 < (x4 * 2 + 1).toInt ∧ (x4 * 2 + 1).toInt < w9 n := by clear e51 q2 q4 hx a1 a2 a3 a4 ed h5 h5' hN hn; omega
    have a6 : x4.toInt = 0 ↔ (x4 * 2 + 0).toInt = 0 := by clear e51 q2 q4 hx a1 a2 a3 a4 a5 ed h5 h5' hN hn hpw hpl h4; omega
    clear hpw hpl h4 e51 t3 t4 ed h5 h5' hN hn
    by_cases d : r0 = 0
    · rw [if_pos d, if_pos d]
      simp only [pr1_mk]
      refine ih N' _ _ _ _ _ _ _ _ _ _ _ _ _ _ _ _ _ _ a1 a2 a3 a4.1 a4.2 (by rw [t0, h6]) (fun q => h7 (i32_eq.mpr (a6.mpr (i32_eq.mp q)))) (fun q => ?_) hs2
      have x4n : ¬ x4 = 0 := fun w => q (by rw [w]; decide)
      rw [h8 x4n, t5 x4n, hq5, Int32.add_assoc, Int32.add_comm 1 x5]
    · rw [if_neg d, if_neg d]
      simp only [pr1_mk]
      refine ih N' _ _ _ _ _ _ _ _ _ _ _ _ _ _ _ _ _ _ a1 a2 a3 (Int.le_of_lt a5.1) a5.2 (by rw [t1, h6]) (fun q => absurd (i32_eq.mp q) (fun w => absurd a5.1 (by rw [w, z0I]; decide))) (fun q => ?_) hs2
      rw [t2, hq5, Int32.zero_add]
theorem neg_sort {i : Nat} (hS : RS sit ssr ssi mso msz mnu) (hi : i < 4) : (ssr i = -1 ↔ ¬ (0 : Int32) ≤ mso i) ∧ (ssr i = -1 ↔ mso i < 0) := by
  obtain ⟨⟨q1, -⟩, q3, -⟩ := hS.2.2 i hi
  rw [← q1, i32_eq, i32_le, i32_lt, z0I, show (-1 : Int32).toInt = -1 from rfl]
  constructor <;> constructor <;> intro q <;> omega
theorem e_fits {mas : Nat → Int32} {tlw tkd tbt tph tcn tno : Nat → Int32} {tct tsc trn tlg tdn tzz : Int32} (h : RT lw kd bt ph cn no ct sc rn lg dn zz s) (hS : RS sit ssr ssi mso msz mnu) (x1 x2 x3 : Int32) : (f_X5_fits lw kd bt ph cn no ct sc rn lg dn zz tlw tkd tbt tph tcn tno tct tsc trn tlg tdn tzz sit ssr ssi x1 x2 x3).1 = (f_X6_fits s mas mso msz mnu x1 x2 x3).1 ∧ ∀ k, k < 50 → (f_X6_fits s mas mso msz mnu x1 x2 x3).2.1 k = s k := by
  unfold f_X5_fits f_X6_fits f_X5_isSheet f_X6_isSheet
  rw [isin_eq (x := x1) (l := 0) (h := 3) rfl rfl, rt_has h, isin_eq (x := x3) (l := 0) (h := 1) rfl rfl]
  by_cases c1 : f_X5_isIn x1 0 3 = 0
  · rw [if_pos c1, if_pos c1]; exact ⟨rfl, fun _ _ => rfl⟩
  · rw [if_neg c1, if_neg c1]
    have hv := in_isIn4 c1
    have hvn : x1.toNatClampNeg < 4 := by have := vp_in_iff.mp hv; have := cl_nn this.1; omega
    by_cases c2 : f_X4_has ct x2 = 0
    · rw [if_pos c2, if_pos c2]; exact ⟨rfl, fun _ _ => rfl⟩
    · rw [if_neg c2, if_neg c2]
      have hx := rt_in h c2
      by_cases c3 : f_X5_isIn x3 0 1 = 0
      · rw [if_pos c3, if_pos c3]; exact ⟨rfl, fun _ _ => rfl⟩
      · rw [if_neg c3, if_neg c3]
        by_cases c4 : ssr x1.toNatClampNeg = -1
        · rw [if_pos c4, if_neg ((neg_sort hS hvn).1.mp c4)]; exact ⟨rfl, fun _ _ => rfl⟩
        · rw [if_neg c4, if_pos (Decidable.byContradiction (fun q => c4 ((neg_sort hS hvn).1.mpr q)))]
          have ei := its_ix (o := x2) (w := 2) hx.1 hx.2.2 (by decide) (by decide)
          rw [show (2 : Int32).toNatClampNeg = 2 from rfl] at ei
          have hp := fitsL (x1 := x1) (x2 := x2) h hS hv ⟨hx.1, hx.2.1⟩ ei 9 300 0 8 0 (-3) tlw tkd tbt tph tcn tno tct tsc trn tlg tdn tzz s mas (by decide) (by decide) (by decide) (by decide) (by decide) (by decide) (fun _ => rfl) (fun q => absurd rfl q) (fun _ _ _ => rfl)
          rw [ei]
          generalize l_X5_fits_52 lw kd bt ph cn no ct sc rn lg dn zz sit ssi x1 x2 300 0 8 tlw tkd tbt tph tcn tno tct tsc trn tlg tdn tzz = p at hp ⊢
          obtain ⟨p0, p1, p2, p3, p4, p5, p6, p7, p8, p9, p10, p11, p12, p13⟩ := p
          generalize l_X6_fits_69 msz mnu x1 (((10 : Int32) + ((5 : Int32) * x2)) + 2) 300 0 (-3) 8 s mas = q at hp ⊢
          obtain ⟨q0, q1, q2, q3, q4⟩ := q
          obtain ⟨⟨a1, a2⟩, a3⟩ := hp
          have a1' : q0 = f_J6_bitCount_0f7a4 p0 := a1
          have a2' : q1 = if p0 = 0 then -3 else f_J6_numberOfTrailingZeros_0f7a4 p0 := a2
          have hb : ∀ k, k < 50 → upd q3 (10 + 5 * x2.toNatClampNeg + 2) (s (10 + 5 * x2.toNatClampNeg + 2)) k = s k := fun k hk => by
            by_cases e : k = 10 + 5 * x2.toNatClampNeg + 2
            · rw [e, pk_us]
            · rw [pk_un e]; exact a3 k hk e
          rw [pr14_mk, pr5_mk]
          by_cases d : x3 = 0
          · rw [if_pos d, if_pos d]; exact ⟨a1'.symm, hb⟩
          · rw [if_neg d, if_neg d]
            by_cases f : p0 = 0
            · rw [if_pos f] at a2' ⊢; exact ⟨a2'.symm, hb⟩
            · rw [if_neg f] at a2' ⊢; exact ⟨a2'.symm, hb⟩
end PU14
