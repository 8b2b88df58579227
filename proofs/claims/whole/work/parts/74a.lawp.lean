/-! worlds in another order; a call upon a part of the world -/
theorem vaP_perm {D : va_G} {cl : List vw_C} {ws ws' : va_W} {H : Heap} (h : ws'.Perm ws) (hP : va_P D cl ws H) : va_P D cl ws' H := fun k q hk => by
  obtain ⟨j, hj⟩ := List.getElem?_of_mem (h.mem_iff.mp (List.mem_of_getElem? hk))
  exact hP j q hj
theorem vaD_perm {A : Nat → Prop} {ws ws' : va_W} (h : ws'.Perm ws) (hD : va_D A ws) : va_D A ws' := by
  have p1 : ws.Pairwise (fun p q => p.1 ≠ q.1) := List.pairwise_iff_getElem.mpr (fun i j hi hj hij e => by
    have := hD.1 i j _ _ (List.getElem?_eq_getElem hi) (List.getElem?_eq_getElem hj) e
    omega)
  have p2 := List.pairwise_iff_getElem.mp ((h.pairwise_iff (fun {x y} (q : x.1 ≠ y.1) => q.symm)).mpr p1)
  refine ⟨fun i j p q hi hj e => ?_, fun k q hk => ?_⟩
  · obtain ⟨li, ei⟩ := List.getElem?_eq_some_iff.mp hi
    obtain ⟨lj, ej⟩ := List.getElem?_eq_some_iff.mp hj
    subst ei
    subst ej
    rcases Nat.lt_trichotomy i j with c | c | c
    · exact absurd e (p2 i j li lj c)
    · exact c
    · exact absurd e.symm (p2 j i lj li c)
  · obtain ⟨j, hj⟩ := List.getElem?_of_mem (h.mem_iff.mp (List.mem_of_getElem? hk))
    exact hD.2 j q hj
theorem rg_all {α : Type} (l : List α) (n : Nat) (hn : l.length = n) : (List.range n).map (fun i => l[i]?) = l.map some := by
  subst hn
  apply List.ext_getElem?
  intro i
  rw [List.getElem?_map, List.getElem?_map]
  by_cases h : i < l.length
  · rw [List.getElem?_range h]
    show some l[i]? = Option.map some l[i]?
    rw [List.getElem?_eq_getElem h]
    rfl
  · rw [List.getElem?_eq_none (by rw [List.length_range]; omega), List.getElem?_eq_none (by omega)]
    rfl
theorem rgC {α : Type} {wr w0 : List α} {nr n0 : Nat} (hr : wr.length = nr) (h0 : w0.length = n0) : ((List.range n0).map (fun i => i + nr)).map (fun i => (wr ++ w0)[i]?) = w0.map some := by
  rw [List.map_map, ← rg_all w0 n0 h0]
  apply List.map_congr_left
  intro i hi
  show (wr ++ w0)[i + nr]? = w0[i]?
  rw [List.getElem?_append_right (by omega), hr, Nat.add_sub_cancel]
theorem rgR {α : Type} {wr w0 : List α} {nr : Nat} (hr : wr.length = nr) : (List.range nr).map (fun i => (wr ++ w0)[i]?) = wr.map some := by
  rw [← rg_all wr nr hr]
  apply List.map_congr_left
  intro i hi
  have := List.mem_range.mp hi
  exact List.getElem?_append_left (by omega)
theorem rgD {nr n0 : Nat} : ∀ i ∈ List.range nr, i ∉ (List.range n0).map (fun i => i + nr) := fun i hi hc => by
  obtain ⟨j, _, e⟩ := List.mem_map.mp hc
  have e' : j + nr = i := e
  have := List.mem_range.mp hi
  omega
section JPRM
variable {τ : SX} {κ : KX} {k n : Nat} {ws : va_W} {lv : List (Nat × Value)} {pc : Nat} {st : List Value} {cc : ByteArray} {own : String} {Ts : List Cond} {rm : Room} {nL : Nat}
theorem j_permP {ws' : va_W} (h : ws'.Perm ws) (t : J τ κ k n ws' lv pc st) : J τ κ k n ws lv pc st := fun H locs ls hP hD hS hl => t H locs ls (vaP_perm h hP) (vaD_perm h hD) hS hl
theorem j_cvIp {S : Type} {y : MethodName} {words words' : List Cond} {rc : Room} {bytes : ByteArray} {maxL idx na : Nat} {As : List Value} {st0 : List Value} {w0 : va_W} {mkW : S → va_W} {ty : FieldType} {X : Int32 × S} {b : Nat} (C : Cx τ κ cc own Ts rm nL) (d : decode cc pc = .ok (.invokevirtual idx, 3)) (pc' : Nat) (e : pc + 3 = pc') (hM : ∀ sz, McI τ y words rc ty (.ref b :: As) w0 mkW X sz) {Cn : String} (hG : GoodIn Ts (wsV own idx Cn y words)) (hw : words = Cond.code y bytes maxL (some ty) :: words') (hrc : rc.cells = 0) (hrs : rc.slots = 0) (hd : y.cls = Cn ∧ y.cls ≠ "java/lang/invoke/MethodHandle" ∧ y.cls ≠ "java/lang/invoke/VarHandle" ∧ (parseMethodDescriptor y.desc).map (fun d => d.parameters.length) = some na) (hn : As.length = na) (hR : rc.frames + 1 ≤ rm.frames ∧ 8 + (maxL + 11) + rc.locals ≤ rm.locals) (hk : k ≤ rm.cells ∧ n ≤ rm.slots) (hst : st0 = As.reverse ++ .ref b :: st) (hsum : (st.map fun v => v.category).sum ≤ 8) (wr : va_W) (nr n0 : Nat) (hlr : wr.length = nr) (hl0 : w0.length = n0) (hlu : ∀ u, (mkW u).length = n0) (nd1 : va_nd ((List.range n0).map (fun i => i + nr)) = true) (nd2 : va_nd (List.range nr) = true) (nd3 : va_nd (List.range (nr + n0)) = true) (hp0 : (wr ++ w0).Perm ws) (ci q0 : Nat) {T : u_T} {N : Nat} {fs : List Value} (hc : vwCl[ci]? = some (Cn, T, N)) (he : w0[q0]? = some (b, .inr (ci, fs))) (ws' : S → va_W) (hp1 : ∀ u, (wr ++ mkW u).Perm (ws' u)) (t : ∀ (r : Int32) (u : S), X = (r, u) → narrow ty (.int r) = .int r → J τ κ k n (ws' u) lv pc' (.int r :: st)) : J τ κ k n ws lv pc st0 :=
  j_permP hp0 (j_cvI (na := na) C d pc' e hM hG hw hrc hrs hd hn hR hk hst hsum ((List.range n0).map (fun i => i + nr)) (List.range nr) (List.range (nr + n0)) wr (rgC hlr hl0) nd1 (rgR hlr) nd2 rgD ci q0 hc he (fun u => wr ++ mkW u) (fun u => rg_all _ _ (by rw [List.length_append, hlr, hlu u])) nd3 (fun r u hX hn => j_permP (hp1 u).symm (t r u hX hn)))
theorem j_cvLp {S : Type} {y : MethodName} {words words' : List Cond} {rc : Room} {bytes : ByteArray} {maxL idx na : Nat} {As : List Value} {st0 : List Value} {w0 : va_W} {mkW : S → va_W} {X : Int64 × S} {b : Nat} (C : Cx τ κ cc own Ts rm nL) (d : decode cc pc = .ok (.invokevirtual idx, 3)) (pc' : Nat) (e : pc + 3 = pc') (hM : ∀ sz, McL τ y words rc (.ref b :: As) w0 mkW X sz) {Cn : String} (hG : GoodIn Ts (wsV own idx Cn y words)) (hw : words = Cond.code y bytes maxL (some .long) :: words') (hrc : rc.cells = 0) (hrs : rc.slots = 0) (hd : y.cls = Cn ∧ y.cls ≠ "java/lang/invoke/MethodHandle" ∧ y.cls ≠ "java/lang/invoke/VarHandle" ∧ (parseMethodDescriptor y.desc).map (fun d => d.parameters.length) = some na) (hn : As.length = na) (hR : rc.frames + 1 ≤ rm.frames ∧ 8 + (maxL + 11) + rc.locals ≤ rm.locals) (hk : k ≤ rm.cells ∧ n ≤ rm.slots) (hst : st0 = As.reverse ++ .ref b :: st) (hsum : (st.map fun v => v.category).sum ≤ 8) (wr : va_W) (nr n0 : Nat) (hlr : wr.length = nr) (hl0 : w0.length = n0) (hlu : ∀ u, (mkW u).length = n0) (nd1 : va_nd ((List.range n0).map (fun i => i + nr)) = true) (nd2 : va_nd (List.range nr) = true) (nd3 : va_nd (List.range (nr + n0)) = true) (hp0 : (wr ++ w0).Perm ws) (ci q0 : Nat) {T : u_T} {N : Nat} {fs : List Value} (hc : vwCl[ci]? = some (Cn, T, N)) (he : w0[q0]? = some (b, .inr (ci, fs))) (ws' : S → va_W) (hp1 : ∀ u, (wr ++ mkW u).Perm (ws' u)) (t : ∀ (r : Int64) (u : S), X = (r, u) → J τ κ k n (ws' u) lv pc' (.long r :: st)) : J τ κ k n ws lv pc st0 :=
  j_permP hp0 (j_cvL (na := na) C d pc' e hM hG hw hrc hrs hd hn hR hk hst hsum ((List.range n0).map (fun i => i + nr)) (List.range nr) (List.range (nr + n0)) wr (rgC hlr hl0) nd1 (rgR hlr) nd2 rgD ci q0 hc he (fun u => wr ++ mkW u) (fun u => rg_all _ _ (by rw [List.length_append, hlr, hlu u])) nd3 (fun r u hX  => j_permP (hp1 u).symm (t r u hX )))
end JPRM
theorem pm_0 {α : Type} (b0 b1 b2 b3 b4 b5 b6 b7 b8 : List α) : ((b1 ++ b2 ++ b3 ++ b4 ++ b5 ++ b6 ++ b7 ++ b8) ++ (b0)).Perm (b0 ++ b1 ++ b2 ++ b3 ++ b4 ++ b5 ++ b6 ++ b7 ++ b8) := by
  classical
  exact List.perm_iff_count.mpr (fun q => by simp only [List.count_append]; omega)
theorem pm_0_1 {α : Type} (b0 b1 b2 b3 b4 b5 b6 b7 b8 : List α) : ((b2 ++ b3 ++ b4 ++ b5 ++ b6 ++ b7 ++ b8) ++ (b0 ++ b1)).Perm (b0 ++ b1 ++ b2 ++ b3 ++ b4 ++ b5 ++ b6 ++ b7 ++ b8) := by
  classical
  exact List.perm_iff_count.mpr (fun q => by simp only [List.count_append]; omega)
theorem pm_0_1_2 {α : Type} (b0 b1 b2 b3 b4 b5 b6 b7 b8 : List α) : ((b3 ++ b4 ++ b5 ++ b6 ++ b7 ++ b8) ++ (b0 ++ b1 ++ b2)).Perm (b0 ++ b1 ++ b2 ++ b3 ++ b4 ++ b5 ++ b6 ++ b7 ++ b8) := by
  classical
  exact List.perm_iff_count.mpr (fun q => by simp only [List.count_append]; omega)
theorem pm_0_1_2_4 {α : Type} (b0 b1 b2 b3 b4 b5 b6 b7 b8 : List α) : ((b3 ++ b5 ++ b6 ++ b7 ++ b8) ++ (b0 ++ b1 ++ b2 ++ b4)).Perm (b0 ++ b1 ++ b2 ++ b3 ++ b4 ++ b5 ++ b6 ++ b7 ++ b8) := by
  classical
  exact List.perm_iff_count.mpr (fun q => by simp only [List.count_append]; omega)
theorem pm_0_1_2_6 {α : Type} (b0 b1 b2 b3 b4 b5 b6 b7 b8 : List α) : ((b3 ++ b4 ++ b5 ++ b7 ++ b8) ++ (b0 ++ b1 ++ b2 ++ b6)).Perm (b0 ++ b1 ++ b2 ++ b3 ++ b4 ++ b5 ++ b6 ++ b7 ++ b8) := by
  classical
  exact List.perm_iff_count.mpr (fun q => by simp only [List.count_append]; omega)
theorem pm_0_1_3 {α : Type} (b0 b1 b2 b3 b4 b5 b6 b7 b8 : List α) : ((b2 ++ b4 ++ b5 ++ b6 ++ b7 ++ b8) ++ (b0 ++ b1 ++ b3)).Perm (b0 ++ b1 ++ b2 ++ b3 ++ b4 ++ b5 ++ b6 ++ b7 ++ b8) := by
  classical
  exact List.perm_iff_count.mpr (fun q => by simp only [List.count_append]; omega)
theorem pm_0_1_4_5 {α : Type} (b0 b1 b2 b3 b4 b5 b6 b7 b8 : List α) : ((b2 ++ b3 ++ b6 ++ b7 ++ b8) ++ (b0 ++ b1 ++ b4 ++ b5)).Perm (b0 ++ b1 ++ b2 ++ b3 ++ b4 ++ b5 ++ b6 ++ b7 ++ b8) := by
  classical
  exact List.perm_iff_count.mpr (fun q => by simp only [List.count_append]; omega)
theorem pm_0_1_5_7 {α : Type} (b0 b1 b2 b3 b4 b5 b6 b7 b8 : List α) : ((b2 ++ b3 ++ b4 ++ b6 ++ b8) ++ (b0 ++ b1 ++ b5 ++ b7)).Perm (b0 ++ b1 ++ b2 ++ b3 ++ b4 ++ b5 ++ b6 ++ b7 ++ b8) := by
  classical
  exact List.perm_iff_count.mpr (fun q => by simp only [List.count_append]; omega)
theorem pm_0_1_6 {α : Type} (b0 b1 b2 b3 b4 b5 b6 b7 b8 : List α) : ((b2 ++ b3 ++ b4 ++ b5 ++ b7 ++ b8) ++ (b0 ++ b1 ++ b6)).Perm (b0 ++ b1 ++ b2 ++ b3 ++ b4 ++ b5 ++ b6 ++ b7 ++ b8) := by
  classical
  exact List.perm_iff_count.mpr (fun q => by simp only [List.count_append]; omega)
theorem pm_0_1_6_7 {α : Type} (b0 b1 b2 b3 b4 b5 b6 b7 b8 : List α) : ((b2 ++ b3 ++ b4 ++ b5 ++ b8) ++ (b0 ++ b1 ++ b6 ++ b7)).Perm (b0 ++ b1 ++ b2 ++ b3 ++ b4 ++ b5 ++ b6 ++ b7 ++ b8) := by
  classical
  exact List.perm_iff_count.mpr (fun q => by simp only [List.count_append]; omega)
theorem pm_0_1_7 {α : Type} (b0 b1 b2 b3 b4 b5 b6 b7 b8 : List α) : ((b2 ++ b3 ++ b4 ++ b5 ++ b6 ++ b8) ++ (b0 ++ b1 ++ b7)).Perm (b0 ++ b1 ++ b2 ++ b3 ++ b4 ++ b5 ++ b6 ++ b7 ++ b8) := by
  classical
  exact List.perm_iff_count.mpr (fun q => by simp only [List.count_append]; omega)
theorem pm_0_4 {α : Type} (b0 b1 b2 b3 b4 b5 b6 b7 b8 : List α) : ((b1 ++ b2 ++ b3 ++ b5 ++ b6 ++ b7 ++ b8) ++ (b0 ++ b4)).Perm (b0 ++ b1 ++ b2 ++ b3 ++ b4 ++ b5 ++ b6 ++ b7 ++ b8) := by
  classical
  exact List.perm_iff_count.mpr (fun q => by simp only [List.count_append]; omega)
theorem pm_0_5 {α : Type} (b0 b1 b2 b3 b4 b5 b6 b7 b8 : List α) : ((b1 ++ b2 ++ b3 ++ b4 ++ b6 ++ b7 ++ b8) ++ (b0 ++ b5)).Perm (b0 ++ b1 ++ b2 ++ b3 ++ b4 ++ b5 ++ b6 ++ b7 ++ b8) := by
  classical
  exact List.perm_iff_count.mpr (fun q => by simp only [List.count_append]; omega)
theorem pm_0_6 {α : Type} (b0 b1 b2 b3 b4 b5 b6 b7 b8 : List α) : ((b1 ++ b2 ++ b3 ++ b4 ++ b5 ++ b7 ++ b8) ++ (b0 ++ b6)).Perm (b0 ++ b1 ++ b2 ++ b3 ++ b4 ++ b5 ++ b6 ++ b7 ++ b8) := by
  classical
  exact List.perm_iff_count.mpr (fun q => by simp only [List.count_append]; omega)
