/-! String constants -/
section JSTR
variable {τ : SX} {κ : KX} {k n : Nat} {ws : va_W} {lv : List (Nat × Value)} {pc : Nat} {st : List Value} {cc : ByteArray} {own : String} {Ts : List Cond} {rm : Room} {nL : Nat}
def kch (i j : Nat) : Int32 := (stB.getD i []).getD j 0
theorem j_ldcS {i : Nat} {q : Nat × String} (C : Cx τ κ cc RX3 Ts rm nL) (hq : stT[i]? = some q) (d : decode cc pc = .ok (.ldc q.1, 2)) (pc' : Nat) (e : pc + 2 = pc') (t : J τ κ k n ws lv pc' (.ref (τ.2.2.2 (100 + i)) :: st)) : J τ κ k n ws lv pc st := by
  subst e
  exact fun H locs ls hP hD hS hl => va_ldcS C.1.1 C.1.2.1 C.1.2.2.2.1 (C.2.2.2.1.2.2.2.2.2.1 i q hq) d (t H locs ls hP hD hS hl)
theorem j_getKv {i index : Nat} (C : Cx τ κ cc own Ts rm nL) (hi : i < 13) (d : decode cc pc = .ok (.getfield index, 3)) (pc' : Nat) (e : pc + 3 = pc') (hl0 : Cond.fieldLink own index "java/lang/String" "value" "[B" ∈ Ts) (t : J τ κ k n ws lv pc' (.ref (τ.2.2.2 (200 + i)) :: st)) : J τ κ k n ws lv pc (.ref (τ.2.2.2 (100 + i)) :: st) := by
  subst e
  exact fun H locs ls hP hD hS hl => vk_getf C.1.1 C.1.2.1 (C.2.2.2.1.2.2.2.2.2.2.1 i hi).2.2.1 hS C.1.2.2.2.1 (C.1.2.2.2.2 _ hl0) (fun _ h => h) d (t H locs ls hP hD hS hl)
theorem j_getKc {i index : Nat} (C : Cx τ κ cc own Ts rm nL) (hi : i < 13) (d : decode cc pc = .ok (.getfield index, 3)) (pc' : Nat) (e : pc + 3 = pc') (hl0 : Cond.fieldLink own index "java/lang/String" "coder" "B" ∈ Ts) (t : J τ κ k n ws lv pc' (.int 0 :: st)) : J τ κ k n ws lv pc (.ref (τ.2.2.2 (100 + i)) :: st) := by
  subst e
  exact fun H locs ls hP hD hS hl => vk_getf C.1.1 C.1.2.1 (C.2.2.2.1.2.2.2.2.2.2.1 i hi).2.1 hS C.1.2.2.2.1 (C.1.2.2.2.2 _ hl0) (fun _ h => h) d (t H locs ls hP hD hS hl)
theorem j_getsC {index : Nat} (C : Cx τ κ cc own Ts rm nL) (d : decode cc pc = .ok (.getstatic index, 3)) (pc' : Nat) (e : pc + 3 = pc') (hl0 : Cond.fieldLink own index "java/lang/String" "COMPACT_STRINGS" "Z" ∈ Ts) (t : J τ κ k n ws lv pc' (.int 1 :: st)) : J τ κ k n ws lv pc st := by
  subst e
  exact fun H locs ls hP hD hS hl => va_gets C.1.1 C.1.2.1 C.2.2.2.1.2.2.2.1 hS C.1.2.2.2.1 (C.1.2.2.2.2 _ hl0) (fun _ h => h) d (t H locs ls hP hD hS hl)
theorem j_getsQ {index : Nat} (C : Cx τ κ cc own Ts rm nL) (d : decode cc pc = .ok (.getstatic index, 3)) (pc' : Nat) (e : pc + 3 = pc') (hl0 : Cond.fieldLink own index "jdk/internal/util/Preconditions" "SIOOBE_FORMATTER" "Ljava/util/function/BiFunction;" ∈ Ts) (t : ∀ v : Value, v = .null ∨ (∃ q, v = .ref q) → J τ κ k n ws lv pc' (v :: st)) : J τ κ k n ws lv pc st := by
  subst e
  intro H locs ls hP hD hS hl
  rcases C.2.2.2.1.2.2.2.2.1 with h | ⟨q, h⟩
  · exact va_gets C.1.1 C.1.2.1 h hS C.1.2.2.2.1 (C.1.2.2.2.2 _ hl0) (fun _ h => h) d (t .null (.inl rfl) H locs ls hP hD hS hl)
  · exact va_gets C.1.1 C.1.2.1 h hS C.1.2.2.2.1 (C.1.2.2.2.2 _ hl0) (fun _ h => h) d (t (.ref q) (.inr ⟨q, rfl⟩) H locs ls hP hD hS hl)
theorem j_kaln {i : Nat} (C : Cx τ κ cc own Ts rm nL) (hi : i < 13) (d : decode cc pc = .ok (.arraylength, 1)) (pc' : Nat) (e : pc + 1 = pc') {v : Int32} (hv : Int32.ofNat (stL.getD i 0) = v) (t : J τ κ k n ws lv pc' (.int v :: st)) : J τ κ k n ws lv pc (.ref (τ.2.2.2 (200 + i)) :: st) := by
  subst e
  exact fun H locs ls hP hD hS hl => va_tlen C.1.1 C.1.2.1 (C.2.2.2.1.2.2.2.2.2.2.1 i hi).2.2.2 hS hv d (t H locs ls hP hD hS hl)
theorem j_kbald {i : Nat} (C : Cx τ κ cc own Ts rm nL) (hi : i < 13) (d : decode cc pc = .ok (.baload, 1)) (pc' : Nat) (e : pc + 1 = pc') {x : Int32} (hx : vp_in x (stL.getD i 0)) (t : J τ κ k n ws lv pc' (.int (kch i x.toNatClampNeg) :: st)) : J τ κ k n ws lv pc (.int x :: .ref (τ.2.2.2 (200 + i)) :: st) := by
  subst e
  exact fun H locs ls hP hD hS hl => va_tb C.1.1 C.1.2.1 (C.2.2.2.1.2.2.2.2.2.2.1 i hi).2.2.2 hS hx rfl d (t H locs ls hP hD hS hl)
theorem j_cvKI {S : Type} {y : MethodName} {words words' : List Cond} {rc : Room} {bytes : ByteArray} {maxL idx na i : Nat} {As : List Value} {st0 : List Value} {w0 : va_W} {mkW : S → va_W} {ty : FieldType} {X : Int32 × S} (C : Cx τ κ cc own Ts rm nL) (hi : i < 13) (d : decode cc pc = .ok (.invokevirtual idx, 3)) (pc' : Nat) (e : pc + 3 = pc') (hM : ∀ sz, McI τ y words rc ty (.ref (τ.2.2.2 (100 + i)) :: As) w0 mkW X sz) (hw0 : w0 = []) (hG : GoodIn Ts (wsV own idx RJ0 y words)) (hw : words = Cond.code y bytes maxL (some ty) :: words') (hrc : rc.cells = 0) (hrs : rc.slots = 0) (hd : y.cls = RJ0 ∧ y.cls ≠ "java/lang/invoke/MethodHandle" ∧ y.cls ≠ "java/lang/invoke/VarHandle" ∧ (parseMethodDescriptor y.desc).map (fun d => d.parameters.length) = some na) (hn : As.length = na) (hR : rc.frames + 1 ≤ rm.frames ∧ 8 + (maxL + 11) + rc.locals ≤ rm.locals) (hk : k ≤ rm.cells ∧ n ≤ rm.slots) (hst : st0 = As.reverse ++ .ref (τ.2.2.2 (100 + i)) :: st) (hsum : (st.map fun v => v.category).sum ≤ 8) (t : ∀ (r : Int32) (u : S), X = (r, u) → narrow ty (.int r) = .int r → J τ κ k n ws lv pc' (.int r :: st)) : J τ κ k n ws lv pc st0 := by
  subst e; subst hst; subst hw0
  obtain ⟨C1, C2, C3, C4, C5, C6⟩ := C
  subst C5
  intro H locs ls hP hD hS hl
  have hF : ∀ q, va_A [] H.size q → x_A κ q := fun q h => by
    rcases h with ⟨k, e, h⟩ | h
    · simp at h
    · exact C3 q (Nat.le_trans hS.1 h)
  refine va_calli (va_runV (As := As) (rest := st) C1 (hM H.size) (cwV na C1.2.2.2.2 hG hw hrc hrs hd hR) ⟨McP.blind, vk_recv C4.2.2.2.2.2.2 hi hS, fun U hU hW => ⟨rfl, by rw [hU], fun k q h => by simp at h, va_K.moved hW.alike C2, ⟨fun i j p q h => by simp at h, fun k q h => by simp at h⟩, C4.call hS hF hU hW⟩⟩ rfl hn (hl.1.trans C6) rfl (lv_room hsum) d ⟨hk.1, hk.2⟩) hS (fun q _ h => hF q h) hF (fun r u t1 H1 locs1 ht hvm hw hB hz1 hk1 hS1 => ?_)
  exact t r u hw.1 hw.2 H1 locs1 ls (fun k q h => (hP k q h).kept (hk1 q.1 (hP k q h).lt (fun h2 => by
    rcases h2 with ⟨k2, e2, h2⟩ | h2
    · simp at h2
    · exact absurd (hP k q h).lt (Nat.not_lt.mpr h2)))) hD hS1 hl
end JSTR
abbrev rmK0 : Room := { frames := 0, cells := 0, slots := 0, locals := 0 }
abbrev rmJ0_length_8abf5 : Room := { frames := 1, cells := 0, slots := 0, locals := 20 }
abbrev rmJ0_checkIndex_df160 : Room := { frames := 1, cells := 0, slots := 0, locals := 22 }
abbrev rmJ1_charAt_3b067 : Room := { frames := 2, cells := 0, slots := 0, locals := 43 }
abbrev rmJ0_charAt_5068e : Room := { frames := 3, cells := 0, slots := 0, locals := 64 }
theorem c_J0_coder (τ : SX) (i : Nat) (hi : i < 13) (sz : Nat) : McI τ yJ0_coder_7d493 wsJ0_coder_7d493 rmK0 .byte [.ref (τ.2.2.2 (100 + i))] [] (fun _ : Unit => []) ((0 : Int32), ()) sz := by
  refine mc_I (cc := cJ0_coder_7d493) (own := RJ0) [(0, .ref (τ.2.2.2 (100 + i)))] rfl (by decide) rfl rfl (Nat.le_of_ble_eq_true rfl) (fun κ C hR => ?_)
  refine j_getsC C dJ0_coder_7d493_0 3 rfl (by decide +kernel) ?_
  refine j_if_eq C dJ0_coder_7d493_3 13 rfl 6 rfl (fun c => absurd c (by decide)) (fun _ => ?_)
  refine j_aload_n C dJ0_coder_7d493_6 7 rfl rfl 0 rfl ?_
  refine j_getKc C hi dJ0_coder_7d493_7 10 rfl (by decide +kernel) ?_
  refine j_goto C dJ0_coder_7d493_10 14 rfl ?_
  exact Rt.ret hR rfl dJ0_coder_7d493_14
theorem c_J0_isLatin1 (τ : SX) (i : Nat) (hi : i < 13) (sz : Nat) : McI τ yJ0_isLatin1_aae02 wsJ0_isLatin1_aae02 rmK0 .boolean [.ref (τ.2.2.2 (100 + i))] [] (fun _ : Unit => []) ((1 : Int32), ()) sz := by
  refine mc_I (cc := cJ0_isLatin1_aae02) (own := RJ0) [(0, .ref (τ.2.2.2 (100 + i)))] rfl (by decide) rfl rfl (Nat.le_of_ble_eq_true rfl) (fun κ C hR => ?_)
  refine j_getsC C dJ0_isLatin1_aae02_0 3 rfl (by decide +kernel) ?_
  refine j_if_eq C dJ0_isLatin1_aae02_3 17 rfl 6 rfl (fun c => absurd c (by decide)) (fun _ => ?_)
  refine j_aload_n C dJ0_isLatin1_aae02_6 7 rfl rfl 0 rfl ?_
  refine j_getKc C hi dJ0_isLatin1_aae02_7 10 rfl (by decide +kernel) ?_
  refine j_if_ne C dJ0_isLatin1_aae02_10 17 rfl 13 rfl (fun c => absurd rfl c) (fun _ => ?_)
  refine j_iconst (v := 1) C dJ0_isLatin1_aae02_13 14 rfl (by decide) ?_
  refine j_goto C dJ0_isLatin1_aae02_14 18 rfl ?_
  exact Rt.ret hR rfl dJ0_isLatin1_aae02_18
theorem st_len {i : Nat} (hi : i < 13) : (Int32.ofNat (stL.getD i 0)) >>> ((0 : Int32) &&& 31) = Int32.ofNat (stL.getD i 0) := by
  have h : ∀ i : Fin 13, (Int32.ofNat (stL.getD i.val 0)) >>> ((0 : Int32) &&& 31) = Int32.ofNat (stL.getD i.val 0) := by decide +kernel
  exact h ⟨i, hi⟩
theorem qdK0 : yJ0_coder_7d493.cls = RJ0 ∧ yJ0_coder_7d493.cls ≠ "java/lang/invoke/MethodHandle" ∧ yJ0_coder_7d493.cls ≠ "java/lang/invoke/VarHandle" ∧ (parseMethodDescriptor yJ0_coder_7d493.desc).map (fun d => d.parameters.length) = some 0 := by decide +kernel
theorem qdK1 : yJ0_isLatin1_aae02.cls = RJ0 ∧ yJ0_isLatin1_aae02.cls ≠ "java/lang/invoke/MethodHandle" ∧ yJ0_isLatin1_aae02.cls ≠ "java/lang/invoke/VarHandle" ∧ (parseMethodDescriptor yJ0_isLatin1_aae02.desc).map (fun d => d.parameters.length) = some 0 := by decide +kernel
theorem qdK2 : yJ0_length_8abf5.cls = RJ0 ∧ yJ0_length_8abf5.cls ≠ "java/lang/invoke/MethodHandle" ∧ yJ0_length_8abf5.cls ≠ "java/lang/invoke/VarHandle" ∧ (parseMethodDescriptor yJ0_length_8abf5.desc).map (fun d => d.parameters.length) = some 0 := by decide +kernel
theorem qdK3 : yJ0_charAt_5068e.cls = RJ0 ∧ yJ0_charAt_5068e.cls ≠ "java/lang/invoke/MethodHandle" ∧ yJ0_charAt_5068e.cls ≠ "java/lang/invoke/VarHandle" ∧ (parseMethodDescriptor yJ0_charAt_5068e.desc).map (fun d => d.parameters.length) = some 1 := by decide +kernel
theorem qdK4 : yJ3_checkIndex_8e157.cls ≠ "java/lang/invoke/MethodHandle" ∧ yJ3_checkIndex_8e157.cls ≠ "java/lang/invoke/VarHandle" ∧ (parseMethodDescriptor yJ3_checkIndex_8e157.desc).map (fun d => d.parameters.length) = some 3 := by decide +kernel
theorem qdK5 : yJ0_checkIndex_df160.cls ≠ "java/lang/invoke/MethodHandle" ∧ yJ0_checkIndex_df160.cls ≠ "java/lang/invoke/VarHandle" ∧ (parseMethodDescriptor yJ0_checkIndex_df160.desc).map (fun d => d.parameters.length) = some 2 := by decide +kernel
theorem qdK6 : yJ1_charAt_3b067.cls ≠ "java/lang/invoke/MethodHandle" ∧ yJ1_charAt_3b067.cls ≠ "java/lang/invoke/VarHandle" ∧ (parseMethodDescriptor yJ1_charAt_3b067.desc).map (fun d => d.parameters.length) = some 2 := by decide +kernel
theorem c_J0_length (τ : SX) (i : Nat) (hi : i < 13) (L : Int32) (hL : Int32.ofNat (stL.getD i 0) = L) (sz : Nat) : McI τ yJ0_length_8abf5 wsJ0_length_8abf5 rmJ0_length_8abf5 .int [.ref (τ.2.2.2 (100 + i))] [] (fun _ : Unit => []) (L, ()) sz := by
  subst hL
  refine mc_I (cc := cJ0_length_8abf5) (own := RJ0) [(0, .ref (τ.2.2.2 (100 + i)))] rfl (by decide) rfl rfl (Nat.le_of_ble_eq_true rfl) (fun κ C hR => ?_)
  refine j_aload_n C dJ0_length_8abf5_0 1 rfl rfl 0 rfl ?_
  refine j_getKv C hi dJ0_length_8abf5_1 4 rfl (by decide +kernel) ?_
  refine j_kaln C hi dJ0_length_8abf5_4 5 rfl rfl ?_
  refine j_aload_n C dJ0_length_8abf5_5 6 rfl rfl 0 rfl ?_
  refine j_cvKI (na := 0) C hi dJ0_length_8abf5_6 9 rfl (c_J0_coder τ i hi) rfl gJ0_length_8abf5_J0_coder_7d493 rfl rfl rfl qdK0 rfl ⟨by decide, by decide⟩ ⟨by decide, by decide⟩ rfl (Nat.le_of_ble_eq_true rfl) (fun r u hX hn => ?_)
  obtain rfl := (Prod.mk.inj hX).1
  refine j_ishr C dJ0_length_8abf5_9 10 rfl ?_
  rw [st_len hi]
  exact Rt.ret hR rfl dJ0_length_8abf5_10
theorem c_J3_checkIndex (τ : SX) (x L : Int32) (v : Value) (hv : v = .null ∨ ∃ q, v = .ref q) (h0 : 0 ≤ x.toInt) (h : x.toInt < L.toInt) (sz : Nat) : McI τ yJ3_checkIndex_8e157 wsJ3_checkIndex_8e157 rmK0 .int [.int x, .int L, v] [] (fun _ : Unit => []) (x, ()) sz := by
  have hc : ¬ x < 0 := fun c => by rw [i32_lt, show (0 : Int32).toInt = 0 from rfl] at c; omega
  have hc2 : x < L := i32_lt.mpr h
  have body : ∀ κ : KX, Cx τ κ cJ3_checkIndex_8e157 RJ3 wsJ3_checkIndex_8e157 rmK0 3 → Rt τ κ cJ3_checkIndex_8e157 .int (fun _ : Unit => []) (x, ()) → J τ κ 0 0 [] [(0, .int x), (1, .int L), (2, v)] 0 [] := by
    intro κ C hR
    refine j_iload_n C dJ3_checkIndex_8e157_0 1 rfl rfl 0 rfl ?_
    refine j_if_lt C dJ3_checkIndex_8e157_1 9 rfl 4 rfl (fun c => absurd c hc) (fun _ => ?_)
    refine j_iload_n C dJ3_checkIndex_8e157_4 5 rfl rfl 0 rfl ?_
    refine j_iload_n C dJ3_checkIndex_8e157_5 6 rfl rfl 1 rfl ?_
    refine j_icmp_lt C dJ3_checkIndex_8e157_6 16 rfl 9 rfl (fun _ => ?_) (fun c => absurd hc2 c)
    refine j_iload_n C dJ3_checkIndex_8e157_16 17 rfl rfl 0 rfl ?_
    exact Rt.ret hR rfl dJ3_checkIndex_8e157_17
  rcases hv with rfl | ⟨q, rfl⟩
  · exact mc_I (cc := cJ3_checkIndex_8e157) (own := RJ3) [(0, .int x), (1, .int L), (2, .null)] rfl (by decide) rfl rfl (Nat.le_of_ble_eq_true rfl) body
  · exact mc_I (cc := cJ3_checkIndex_8e157) (own := RJ3) [(0, .int x), (1, .int L), (2, .ref q)] rfl (by decide) rfl rfl (Nat.le_of_ble_eq_true rfl) body
theorem c_J0_checkIndex (τ : SX) (x L : Int32) (h0 : 0 ≤ x.toInt) (h : x.toInt < L.toInt) (sz : Nat) : McV τ yJ0_checkIndex_df160 wsJ0_checkIndex_df160 rmJ0_checkIndex_df160 [.int x, .int L] [] (fun _ : Unit => []) () 0 0 sz := by
  refine mc_V (cc := cJ0_checkIndex_df160) (own := RJ0) [(0, .int x), (1, .int L)] rfl (by decide) rfl rfl (Nat.le_of_ble_eq_true rfl) (fun κ C _ hR => ?_)
  refine j_iload_n C dJ0_checkIndex_df160_0 1 rfl rfl 0 rfl ?_
  refine j_iload_n C dJ0_checkIndex_df160_1 2 rfl rfl 1 rfl ?_
  refine j_getsQ C dJ0_checkIndex_df160_2 5 rfl (by decide +kernel) (fun v hv => ?_)
  have hs : ((([] : List Value).map fun v => v.category).sum ≤ 8) := by decide
  refine j_cs0I (na := 3) (As := [.int x, .int L, v]) (st := []) C dJ0_checkIndex_df160_5 8 rfl (c_J3_checkIndex τ x L v hv h0 h) rfl ggJ0_checkIndex_df160_J3_checkIndex_8e157 rfl rfl rfl (by decide +kernel) (by decide +kernel) (by decide +kernel) qdK4 rfl ⟨by decide, by decide⟩ ⟨by decide, by decide⟩ rfl hs (fun r u hX hn => ?_)
  refine j_pop C dJ0_checkIndex_df160_8 9 rfl rfl ?_
  exact hR _ _ dJ0_checkIndex_df160_9
theorem kch_c {i : Nat} (hi : i < 13) {j : Nat} (hj : j < stL.getD i 0) : ((kch i j &&& 255).toUInt32 % 65536).toInt32 = kch i j ∧ narrow .char (.int (kch i j)) = .int (kch i j) := by
  have h : ∀ i : Fin 13, ∀ j : Fin 9, j.val < stL.getD i.val 0 → ((kch i.val j.val &&& 255).toUInt32 % 65536).toInt32 = kch i.val j.val ∧ (kch i.val j.val).toUInt32.toUInt16.toUInt32.toInt32 = kch i.val j.val := by decide +kernel
  have hl : ∀ i : Fin 13, stL.getD i.val 0 ≤ 9 := by decide +kernel
  have : stL.getD i 0 ≤ 9 := hl ⟨i, hi⟩
  have q := h ⟨i, hi⟩ ⟨j, by omega⟩ hj
  exact ⟨q.1, congrArg Value.int q.2⟩
theorem kin_n {x : Int32} {N : Nat} (h : vp_in x N) : 0 ≤ x.toInt ∧ x.toInt < N ∧ x.toNatClampNeg < N := by
  rw [vp_in_iff] at h
  exact ⟨h.1, h.2, by show x.toInt.toNat < N; omega⟩
theorem stL_I {i : Nat} (hi : i < 13) : (Int32.ofNat (stL.getD i 0)).toInt = (stL.getD i 0 : Int) := by
  have h : ∀ i : Fin 13, (Int32.ofNat (stL.getD i.val 0)).toInt = (stL.getD i.val 0 : Int) := by decide +kernel
  exact h ⟨i, hi⟩
theorem c_J1_charAt (τ : SX) (i : Nat) (hi : i < 13) (x : Int32) (hx : vp_in x (stL.getD i 0)) (sz : Nat) : McI τ yJ1_charAt_3b067 wsJ1_charAt_3b067 rmJ1_charAt_3b067 .char [.ref (τ.2.2.2 (200 + i)), .int x] [] (fun _ : Unit => []) (kch i x.toNatClampNeg, ()) sz := by
  have hk := kin_n hx
  refine mc_I (cc := cJ1_charAt_3b067) (own := RJ1) [(0, .ref (τ.2.2.2 (200 + i))), (1, .int x)] rfl (by decide) rfl rfl (Nat.le_of_ble_eq_true rfl) (fun κ C hR => ?_)
  refine j_iload_n C dJ1_charAt_3b067_0 1 rfl rfl 1 rfl ?_
  refine j_aload_n C dJ1_charAt_3b067_1 2 rfl rfl 0 rfl ?_
  refine j_kaln C hi dJ1_charAt_3b067_2 3 rfl rfl ?_
  refine j_cs0V (na := 2) C dJ1_charAt_3b067_3 6 rfl (c_J0_checkIndex τ x (Int32.ofNat (stL.getD i 0)) hk.1 (by rw [stL_I hi]; exact hk.2.1)) rfl ggJ1_charAt_3b067_J0_checkIndex_df160 rfl rfl rfl (by decide +kernel) (by decide +kernel) (by decide +kernel) qdK5 rfl ⟨by decide, by decide⟩ ⟨by decide, by decide⟩ rfl (Nat.le_of_ble_eq_true rfl) (fun u hX => ?_)
  refine j_aload_n C dJ1_charAt_3b067_6 7 rfl rfl 0 rfl ?_
  refine j_iload_n C dJ1_charAt_3b067_7 8 rfl rfl 1 rfl ?_
  refine j_kbald C hi dJ1_charAt_3b067_8 9 rfl hx ?_
  refine j_sipush (v := 255) C dJ1_charAt_3b067_9 12 rfl (by decide) ?_
  refine j_iand C dJ1_charAt_3b067_12 13 rfl ?_
  refine j_i2c C dJ1_charAt_3b067_13 14 rfl ?_
  rw [(kch_c hi hk.2.2).1]
  exact Rt.ret hR (kch_c hi hk.2.2).2 dJ1_charAt_3b067_14
theorem c_J0_charAt (τ : SX) (i : Nat) (hi : i < 13) (x : Int32) (hx : vp_in x (stL.getD i 0)) (sz : Nat) : McI τ yJ0_charAt_5068e wsJ0_charAt_5068e rmJ0_charAt_5068e .char [.ref (τ.2.2.2 (100 + i)), .int x] [] (fun _ : Unit => []) (kch i x.toNatClampNeg, ()) sz := by
  refine mc_I (cc := cJ0_charAt_5068e) (own := RJ0) [(0, .ref (τ.2.2.2 (100 + i))), (1, .int x)] rfl (by decide) rfl rfl (Nat.le_of_ble_eq_true rfl) (fun κ C hR => ?_)
  refine j_aload_n C dJ0_charAt_5068e_0 1 rfl rfl 0 rfl ?_
  refine j_cvKI (na := 0) C hi dJ0_charAt_5068e_1 4 rfl (c_J0_isLatin1 τ i hi) rfl gJ0_charAt_5068e_J0_isLatin1_aae02 rfl rfl rfl qdK1 rfl ⟨by decide, by decide⟩ ⟨by decide, by decide⟩ rfl (Nat.le_of_ble_eq_true rfl) (fun r u hX hn => ?_)
  obtain rfl := (Prod.mk.inj hX).1
  refine j_if_eq C dJ0_charAt_5068e_4 16 rfl 7 rfl (fun c => absurd c (by decide)) (fun _ => ?_)
  refine j_aload_n C dJ0_charAt_5068e_7 8 rfl rfl 0 rfl ?_
  refine j_getKv C hi dJ0_charAt_5068e_8 11 rfl (by decide +kernel) ?_
  refine j_iload_n C dJ0_charAt_5068e_11 12 rfl rfl 1 rfl ?_
  refine j_cs0I (na := 2) C dJ0_charAt_5068e_12 15 rfl (c_J1_charAt τ i hi x hx) rfl ggJ0_charAt_5068e_J1_charAt_3b067 rfl rfl rfl (by decide +kernel) (by decide +kernel) (by decide +kernel) qdK6 rfl ⟨by decide, by decide⟩ ⟨by decide, by decide⟩ rfl (Nat.le_of_ble_eq_true rfl) (fun r u hX hn => ?_)
  obtain rfl := (Prod.mk.inj hX).1
  exact Rt.ret hR (kch_c hi (kin_n hx).2.2).2 dJ0_charAt_5068e_15
