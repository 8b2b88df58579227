/-! rows that make objects and arrays, and the contracts of constructors -/
def EXq (b : Bool) (U : State) : Prop := b = true → va_AO RX1 U ∧ va_AO RX2 U
theorem EXq.moved {b : Bool} {u U : State} (hvm : u.vm.Alike U.vm) (h : EXq b u) : EXq b U := fun e => ⟨(h e).1.moved hvm, (h e).2.moved hvm⟩
def McPE (τ : SX) (b : Bool) (argv : List Value) (w0 : va_W) (sz : Nat) : Array Value → State → Prop := va_Pc argv (fun U => (U.heap.size = sz ∧ va_P τ.2.1 vwCl w0 U.heap ∧ va_K τ.2.1 vwCl (tyX τ) U ∧ va_D (fun _ => True) w0 ∧ GB τ.2.2.2 (va_A w0 sz) U) ∧ EXq b U)
def McN {S : Type} (τ : SX) (b : Bool) (y : MethodName) (words : List Cond) (rm : Room) (argv : List Value) (w0 : va_W) (mkW : S → va_W) (post : S → Prop) (k n sz : Nat) : Prop :=
  Met τ.1 y words rm (McPE τ b argv w0 sz) (va_Qv post (McB τ w0 mkW sz) (va_A w0 sz)) k n (va_A w0 sz)
theorem McPE.blind {τ : SX} {b : Bool} {argv : List Value} {w0 : va_W} {sz : Nat} : FrameBlind (McPE τ b argv w0 sz) := fun a U g mk q => by
  obtain ⟨q0, ⟨q1, qP, qK, qD, qG⟩, qE⟩ := q
  exact ⟨q0, ⟨q1, qP, va_K.moved (u := U) (U := U.calling g mk a) (Vm.Alike.refl U.vm) qK, qD, qG.same rfl rfl⟩, EXq.moved (u := U) (U := U.calling g mk a) (Vm.Alike.refl U.vm) qE⟩
theorem mc_N {S : Type} {τ : SX} {b : Bool} {y : MethodName} {words words' : List Cond} {rm : Room} {argv : List Value} {w0 : va_W} {mkW : S → va_W} {post : S → Prop} {k n sz maxL : Nat} {cc : ByteArray} {own : String} (lv0 : List (Nat × Value)) (hw : words = Cond.code y cc maxL none :: words') (hy : plainName y.cls = true) (ho : y.cls = own) (hlv : lv_args 0 argv = lv0) (hlen : (lg_sl argv).length ≤ maxL)
    (body : ∀ κ : KX, Cx τ κ cc own words rm maxL → (x_t κ).name = y.name → EXq b (x_s κ) → (∀ u : S, post u → RtV τ κ cc k n mkW u) → J τ κ 0 0 w0 lv0 0 []) : McN τ b y words rm argv w0 mkW post k n sz := by
  refine Met.ofW (cc := cc) (maxL := maxL) (ret := none) hy hw ?_
  intro p e s m args below meth c s₁ B hml hv
  obtain ⟨rfl, ⟨hsz, hP, hK, hD0, hG⟩, hE⟩ := hv
  subst hsz
  subst hlv
  have hl := lv_entry argv (n := maxL) hlen
  rw [lg_entry_eq]
  have hown : s.vm.findClass own = some m.cls := by rw [← ho]; exact findClass_of_methodNamed B.named
  refine body (p, e, rm, s, m, _, below, meth, c, va_A w0 s.heap.size, _, maxL) ⟨⟨B.exec, B.bytes, hml, hown, atoms_spec (ws := words) B.pre⟩, hK, fun q h => Or.inr h, hG, rfl, rfl⟩ (name_of_methodNamed B.named B.method).1 hE ?_ s.heap [] _ hP (hD0.self (sz := s.heap.size)) va_S.rf hl
  intro u hu pc lv d H locs ls hP hD hS hl
  exact W.vret B.exec B.bytes B.returns (fun t ht hW => ⟨⟨u, rfl, hu, by rw [ht]; exact hP, va_K.moved hW.alike hK, hD⟩, hS.F ht⟩) hS.2.2 d B.notSynchronized
section JNEW
variable {τ : SX} {κ : KX} {cc : ByteArray} {own : String} {Ts : List Cond} {rm : Room} {nL k n : Nat} {ws : va_W} {lv : List (Nat × Value)} {pc : Nat} {st : List Value}
theorem j_objI {idx a : Nat} (C : Cx τ κ cc own Ts rm nL) (d : decode cc pc = .ok (.invokespecial idx, 3)) (pc' : Nat) (e : pc + 3 = pc') (h1 : Cond.methodLink own idx objectInit ∈ Ts) (h2 : Cond.instanceMethod objectInit ∈ Ts) (h3 : Cond.code objectInit ⟨#[0xb1]⟩ 1 none ∈ Ts) (hf : 1 ≤ rm.frames) (ho : (st.map fun v => v.category).sum + 12 ≤ rm.locals) (t : J τ κ k n ws lv pc' st) : J τ κ k n ws lv pc (.ref a :: st) := by
  subst e
  obtain ⟨C1, C2, C3, C4, C5, C6⟩ := C
  subst C5
  exact fun H locs ls hP hD hS hl => W.objInit C1.1 C1.2.1 C1.2.2.2.1 (C1.2.2.2.2 _ h1) (C1.2.2.2.2 _ h2) (C1.2.2.2.2 _ h3) rfl (by rw [C1.2.2.1]; exact hl.1.trans C6) rfl d hf (by show 2 * 0 + _ + _ ≤ _; omega) (t H locs ls hP hD hS hl)
theorem j_newI {z : Int32} (C : Cx τ κ cc own Ts rm nL) (d : decode cc pc = .ok (.newarray .int, 2)) (pc' : Nat) (e : pc + 2 = pc') (h1 : Cond.arrayClass .int ∈ Ts) (hz : ¬ z < 0) (N : Nat) (hN : z.toNatClampNeg = N) (hb : N * componentBytes .int ≤ 536870912) (hc : k + 1 ≤ rm.cells) (hs : n + N ≤ rm.slots) (t : ∀ q : Nat, J τ κ (k + 1) (n + N) (ws ++ [(q, .inl (τ.2.2.1 0, N, .inl (fun _ => 0)))]) lv pc' (.ref q :: st)) : J τ κ k n ws lv pc (.int z :: st) := by
  subst e
  obtain ⟨C1, C2, C3, C4, C5, C6⟩ := C
  subst C5
  intro H locs ls hP hD hS hl
  refine va_newa (atype := .int) (ty := .int) (a0 := (N, .inl (fun _ => 0))) C1.1 C1.2.1 (C1.2.2.2.2 _ h1) rfl C2 hP hD hS C3 (fun cA => rfl) hz hN hb hc hs d (fun q cA H1 hK1 hP1 hD1 hS1 => ?_)
  have e : cA = τ.2.2.1 0 := Option.some.inj ((show (x_s κ).vm.findClass _ = some cA from (hK1.2 4 (cA, .int) rfl).2).symm.trans (show (x_s κ).vm.findClass _ = some (τ.2.2.1 0) from (C2.2 0 (τ.2.2.1 0, .int) rfl).2))
  subst e
  exact t q H1 locs ls hP1 hD1 hS1 hl
theorem j_newL {z : Int32} (C : Cx τ κ cc own Ts rm nL) (d : decode cc pc = .ok (.newarray .long, 2)) (pc' : Nat) (e : pc + 2 = pc') (h1 : Cond.arrayClass .long ∈ Ts) (hz : ¬ z < 0) (N : Nat) (hN : z.toNatClampNeg = N) (hb : N * componentBytes .long ≤ 536870912) (hc : k + 1 ≤ rm.cells) (hs : n + N ≤ rm.slots) (t : ∀ q : Nat, J τ κ (k + 1) (n + N) (ws ++ [(q, .inl (τ.2.2.1 1, N, .inr (.inl (fun _ => 0))))]) lv pc' (.ref q :: st)) : J τ κ k n ws lv pc (.int z :: st) := by
  subst e
  obtain ⟨C1, C2, C3, C4, C5, C6⟩ := C
  subst C5
  intro H locs ls hP hD hS hl
  refine va_newa (atype := .long) (ty := .long) (a0 := (N, .inr (.inl (fun _ => 0)))) C1.1 C1.2.1 (C1.2.2.2.2 _ h1) rfl C2 hP hD hS C3 (fun cA => rfl) hz hN hb hc hs d (fun q cA H1 hK1 hP1 hD1 hS1 => ?_)
  have e : cA = τ.2.2.1 1 := Option.some.inj ((show (x_s κ).vm.findClass _ = some cA from (hK1.2 4 (cA, .long) rfl).2).symm.trans (show (x_s κ).vm.findClass _ = some (τ.2.2.1 1) from (C2.2 1 (τ.2.2.1 1, .long) rfl).2))
  subst e
  exact t q H1 locs ls hP1 hD1 hS1 hl
theorem j_newO {Cn : String} {T : u_T} {N index : Nat} (C : Cx τ κ cc own Ts rm nL) (d : decode cc pc = .ok (.new index, 3)) (pc' : Nat) (e : pc + 3 = pc') (hin : ∀ w ∈ u_ws Cn T N, w ∈ Ts) {ty0 : Nat → FieldType} (hty : ∀ k, k < N → parseFieldDescriptor (T k).2.2.1 = some (ty0 k)) (h1 : Cond.classLink own index Cn ∈ Ts) (h2 : Cond.instantiable Cn N ∈ Ts) (h3 : Cond.initialized Cn ∈ Ts) (ci : Nat) (hc : vwCl[ci]? = some (Cn, T, N)) (fs : List Value) (hfs : ∀ j, j < N → defaultValue (ty0 j) = vp_V fs j) (hk1 : k + 1 ≤ rm.cells) (hk2 : n + N ≤ rm.slots) (t : ∀ q : Nat, J τ κ (k + 1) (n + N) (ws ++ [(q, .inr (ci, fs))]) lv pc' (.ref q :: st)) : J τ κ k n ws lv pc st := by
  subst e
  obtain ⟨C1, C2, C3, C4, C5, C6⟩ := C
  subst C5
  exact fun H locs ls hP hD hS hl => va_new C1.1 C1.2.1 C1.2.2.2.2 hin ty0 hty C1.2.2.2.1 (C1.2.2.2.2 _ h1) (C1.2.2.2.2 _ h2) (C1.2.2.2.2 _ h3) C2 hP hD hS C3 hc hfs hk1 hk2 d (fun q H1 hP1 hD1 hS1 => t q H1 locs ls hP1 hD1 hS1 hl)
theorem j_anew {z : Int32} {Cn : String} {index : Nat} (C : Cx τ κ cc own Ts rm nL) (d : decode cc pc = .ok (.anewarray index, 3)) (pc' : Nat) (e : pc + 3 = pc') (h1 : Cond.classLink own index Cn ∈ Ts) (hao : va_AO Cn (x_s κ)) (j : Nat) (hj : (tyX τ)[j]? = some (τ.2.2.1 j, .object Cn)) (hz : ¬ z < 0) (N : Nat) (hN : z.toNatClampNeg = N) (hb : N * 4 ≤ 536870912) (hc : k + 1 ≤ rm.cells) (hs : n + N ≤ rm.slots) (t : ∀ q : Nat, J τ κ (k + 1) (n + N) (ws ++ [(q, .inl (τ.2.2.1 j, N, .inr (.inr (.inr (.inr (fun _ => none))))))]) lv pc' (.ref q :: st)) : J τ κ k n ws lv pc (.int z :: st) := by
  subst e
  obtain ⟨C1, C2, C3, C4, C5, C6⟩ := C
  subst C5
  intro H locs ls hP hD hS hl
  refine va_newq C1.1 C1.2.1 C1.2.2.2.1 (C1.2.2.2.2 _ h1) hao C2 hP hD hS C3 hz hN hb hc hs d (fun q cA H1 hK1 hP1 hD1 hS1 => ?_)
  have e : cA = τ.2.2.1 j := by
    obtain ⟨kA, comp, f1, f2, f3, f4⟩ := (hK1.2 4 (cA, .object Cn) rfl).2
    obtain ⟨kB, comp2, g1, g2, g3, g4⟩ := (C2.2 j (τ.2.2.1 j, .object Cn) hj).2
    exact Option.some.inj (f4.symm.trans g4)
  subst e
  exact t q H1 locs ls hP1 hD1 hS1 hl
theorem j_aast {a v t0 : Nat} (C : Cx τ κ cc own Ts rm nL) (d : decode cc pc = .ok (.aastore, 1)) (pc' : Nat) (e : pc + 1 = pc') (q0 qk ci : Nat) {cA : ClassId} {r : vw_C} {N : Nat} {vs : List Value} {f : Nat → Option Nat} (ha : ws[q0]? = some (a, .inl (cA, N, .inr (.inr (.inr (.inr f)))))) (ht : (tyX τ)[t0]? = some (cA, .object r.1)) (hv : ws[qk]? = some (v, .inr (ci, vs))) (hc : vwCl[ci]? = some r) {i : Int32} (hi : vp_in i N) (j : Nat) (hj : i.toNatClampNeg = j) (ws' : va_W) (hw : ws.set q0 (a, .inl (cA, N, .inr (.inr (.inr (.inr (va_up f j (some v))))))) = ws') (t : J τ κ k n ws' lv pc' st) : J τ κ k n ws lv pc (.ref v :: .int i :: .ref a :: st) := by
  subst e; subst hj; subst hw
  exact fun H locs ls hP hD hS hl => va_astq C.1.1 C.1.2.1 C.2.1 hP hD hS q0 t0 qk ci ha ht hv hc hi d (fun H1 locs1 hP1 hD1 hS1 => t H1 locs1 ls hP1 hD1 hS1 hl)
/-- the cells in another order -/
theorem j_perm (is : List Nat) (ws' : va_W) (h : is.map (fun i => ws[i]?) = ws'.map some) (hn : va_nd is = true) (t : J τ κ k n ws' lv pc st) : J τ κ k n ws lv pc st := fun H locs ls hP hD hS hl => t H locs ls (hP.sub is (jl_map h)) (hD.sub is hn h) hS hl
theorem arrV_eq {c : ClassId} {N : Nat} {f g : Nat → Value} (h : ∀ i, i < N → f i = g i) : arrV c N f = arrV c N g := by
  unfold arrV
  congr 1
  congr 1
  funext i
  exact h i.val i.isLt
/-- an array of references, written otherwise -/
theorem j_arrq {a : Nat} (q0 : Nat) {cA : ClassId} {N : Nat} {f : Nat → Option Nat} (ha : ws[q0]? = some (a, .inl (cA, N, .inr (.inr (.inr (.inr f)))))) (g : Nat → Option Nat) (hg : ∀ i, i < N → f i = g i) (ws' : va_W) (hw : ws.set q0 (a, .inl (cA, N, .inr (.inr (.inr (.inr g))))) = ws') (t : J τ κ k n ws' lv pc st) : J τ κ k n ws lv pc st := by
  subst hw
  intro H locs ls hP hD hS hl
  refine t H locs ls (hP.set hD ha ?_ (fun _ _ => rfl)) (hD.set ha) hS hl
  have h0 : H[a]? = some (vp_cell cA (N, .inr (.inr (.inr (.inr f))))) := hP q0 _ ha
  show H[a]? = some (vp_cell cA (N, .inr (.inr (.inr (.inr g)))))
  rw [h0, vp_cell_q, vp_cell_q, arrV_eq (fun i hi => by rw [hg i hi])]
theorem j_cN {S : Type} {y : MethodName} {words words' : List Cond} {rc : Room} {bytes : ByteArray} {maxL idx na mc ms : Nat} {bb : Bool} {As st0 : List Value} {w0 : va_W} {mkW : S → va_W} {post : S → Prop} {b : Nat} (C : Cx τ κ cc own Ts rm nL) (d : decode cc pc = .ok (.invokespecial idx, 3)) (pc' : Nat) (e : pc + 3 = pc') (hM : ∀ sz, McN τ bb y words rc (.ref b :: As) w0 mkW post mc ms sz) (hE : EXq bb (x_s κ)) (hG : GoodIn Ts words) (hw : words = Cond.code y bytes maxL none :: words') (hrc : rc.cells = mc) (hrs : rc.slots = ms) (hini : Cond.initialized y.cls ∈ Ts) (hlk : Cond.methodLink own idx y ∈ Ts) (hin : Cond.instanceMethod y ∈ Ts) (hy1 : y.name = "<init>") (hd : y.cls ≠ "java/lang/invoke/MethodHandle" ∧ y.cls ≠ "java/lang/invoke/VarHandle" ∧ (parseMethodDescriptor y.desc).map (fun d => d.parameters.length) = some na) (hn : As.length = na) (hR : rc.frames + 1 ≤ rm.frames ∧ 8 + (maxL + 11) + rc.locals ≤ rm.locals) (hk : k + mc ≤ rm.cells ∧ n + ms ≤ rm.slots) (hst : st0 = As.reverse ++ .ref b :: st) (hsum : (st.map fun v => v.category).sum ≤ 8) (isC isR : List Nat) (wr : va_W) (hC : isC.map (fun i => ws[i]?) = w0.map some) (hCn : va_nd isC = true) (hRr : isR.map (fun i => ws[i]?) = wr.map some) (hRn : va_nd isR = true) (hdis : ∀ i ∈ isR, i ∉ isC) (t : ∀ u : S, post u → J τ κ (k + mc) (n + ms) (wr ++ mkW u) lv pc' st) : J τ κ k n ws lv pc st0 := by
  subst e; subst hst
  obtain ⟨C1, C2, C3, C4, C5, C6⟩ := C
  subst C5
  intro H locs ls hP hD hS hl
  have hPc := hP.sub isC (jl_map hC)
  have hDc := hD.sub isC hCn hC
  have hF := va_free (wc := w0) hD hS C3 isC hC
  refine va_callv (va_runI (As := As) (rest := st) C1 (hM H.size) (cwI na C1.2.2.2.2 hG hw hrc hrs (C1.2.2.2.2 _ hini) (C1.2.2.2.2 _ hlk) (C1.2.2.2.2 _ hin) hy1 hd hR) ⟨McPE.blind, fun U hU hW => ⟨rfl, ⟨by rw [hU], by rw [hU]; exact hPc, va_K.moved hW.alike C2, hDc.weaken (fun _ _ _ _ => trivial), C4.call hS hF hU hW⟩, hE.moved hW.alike⟩⟩ rfl hn (hl.1.trans C6) rfl (lv_room hsum) d ⟨hk.1, hk.2⟩) hS (fun q _ h => hF q h) hF (fun u t1 H1 locs1 ht hvm hw hB hz1 hk1 hS1 => ?_)
  obtain ⟨hP1, hK1, hD1⟩ := hB
  rw [ht] at hP1
  obtain ⟨hP2, hD2⟩ := va_join hP hD isC isR hC hRr hRn hdis hk1 hF hP1 hD1
  exact t u hw H1 locs1 ls hP2 hD2 hS1 hl
theorem j_cNN {S : Type} {y : MethodName} {words words' : List Cond} {rc : Room} {bytes : ByteArray} {maxL idx na mc ms : Nat} {bb : Bool} {As st0 : List Value} {w0 : va_W} {mkW : S → va_W} {post : S → Prop} {b : Nat} {host : String} (C : Cx τ κ cc own Ts rm nL) (d : decode cc pc = .ok (.invokespecial idx, 3)) (pc' : Nat) (e : pc + 3 = pc') (hM : ∀ sz, McN τ bb y words rc (.ref b :: As) w0 mkW post mc ms sz) (hE : EXq bb (x_s κ)) (hG : GoodIn Ts words) (hw : words = Cond.code y bytes maxL none :: words') (hrc : rc.cells = mc) (hrs : rc.slots = ms) (hini : Cond.initialized y.cls ∈ Ts) (hlk : (own, idx, y, host) ∈ nwM) (hin : Cond.instanceMethod y ∈ Ts) (hy1 : y.name = "<init>") (hd : y.cls ≠ "java/lang/invoke/MethodHandle" ∧ y.cls ≠ "java/lang/invoke/VarHandle" ∧ (parseMethodDescriptor y.desc).map (fun d => d.parameters.length) = some na) (hn : As.length = na) (hR : rc.frames + 1 ≤ rm.frames ∧ 8 + (maxL + 11) + rc.locals ≤ rm.locals) (hk : k + mc ≤ rm.cells ∧ n + ms ≤ rm.slots) (hst : st0 = As.reverse ++ .ref b :: st) (hsum : (st.map fun v => v.category).sum ≤ 8) (isC isR : List Nat) (wr : va_W) (hC : isC.map (fun i => ws[i]?) = w0.map some) (hCn : va_nd isC = true) (hRr : isR.map (fun i => ws[i]?) = wr.map some) (hRn : va_nd isR = true) (hdis : ∀ i ∈ isR, i ∉ isC) (t : ∀ u : S, post u → J τ κ (k + mc) (n + ms) (wr ++ mkW u) lv pc' st) : J τ κ k n ws lv pc st0 := by
  subst e; subst hst
  obtain ⟨C1, C2, C3, C4, C5, C6⟩ := C
  subst C5
  intro H locs ls hP hD hS hl
  have hPc := hP.sub isC (jl_map hC)
  have hDc := hD.sub isC hCn hC
  have hF := va_free (wc := w0) hD hS C3 isC hC
  refine va_callv (va_runIN (As := As) (rest := st) C1 (hM H.size) ⟨va_cnB na C1.2.2.2.2 hG hw hrc hrs (C4.1 _ hlk) (C1.2.2.2.2 _ hini) hd hR, hy1, C1.2.2.2.2 _ hin⟩ ⟨McPE.blind, fun U hU hW => ⟨rfl, ⟨by rw [hU], by rw [hU]; exact hPc, va_K.moved hW.alike C2, hDc.weaken (fun _ _ _ _ => trivial), C4.call hS hF hU hW⟩, hE.moved hW.alike⟩⟩ rfl hn (hl.1.trans C6) rfl (lv_room hsum) d ⟨hk.1, hk.2⟩) hS (fun q _ h => hF q h) hF (fun u t1 H1 locs1 ht hvm hw hB hz1 hk1 hS1 => ?_)
  obtain ⟨hP1, hK1, hD1⟩ := hB
  rw [ht] at hP1
  obtain ⟨hP2, hD2⟩ := va_join hP hD isC isR hC hRr hRn hdis hk1 hF hP1 hD1
  exact t u hw H1 locs1 ls hP2 hD2 hS1 hl
end JNEW
