/-! MY OWN LAYER over the kit's W: 'J', a walk's state without heap and slots; contracts 'McI', 'McV', 'McL' -/
abbrev SX : Type := Launch × va_G × (Nat → ClassId) × (Nat → Nat)
abbrev KX := Program × Env × Room × State × MethodId × Array Value × List Frame × Method × Code × (Nat → Prop) × (State → Prop) × Nat
abbrev x_p (κ : KX) := κ.1
abbrev x_e (κ : KX) := κ.2.1
abbrev x_R (κ : KX) := κ.2.2.1
abbrev x_s (κ : KX) := κ.2.2.2.1
abbrev x_m (κ : KX) := κ.2.2.2.2.1
abbrev x_a (κ : KX) := κ.2.2.2.2.2.1
abbrev x_b (κ : KX) := κ.2.2.2.2.2.2.1
abbrev x_t (κ : KX) := κ.2.2.2.2.2.2.2.1
abbrev x_c (κ : KX) := κ.2.2.2.2.2.2.2.2.1
abbrev x_A (κ : KX) := κ.2.2.2.2.2.2.2.2.2.1
abbrev x_Q (κ : KX) := κ.2.2.2.2.2.2.2.2.2.2.1
abbrev x_n (κ : KX) := κ.2.2.2.2.2.2.2.2.2.2.2
abbrev tyX (τ : SX) : List (ClassId × FieldType) := [(τ.2.2.1 0, .int), (τ.2.2.1 1, .long), (τ.2.2.1 2, .object "TwoMinutes$Sheet"), (τ.2.2.1 3, .object "TwoMinutes$Shelf")]
/-- the links between nest mates -/
def nwM : List (String × Nat × MethodName × String) := [(RX5, 24, yX3_init, RX5), (RX5, 47, yX0_init, RX5), (RX5, 52, yX1_init, RX5), (RX5, 53, yX2_init, RX5), (RX3, 90, yX5_isIn, RX5), (RX4, 64, yX5_isIn, RX5), (RX0, 39, yX5_isIn, RX5)]
def nwF : List (String × Nat × String × String × String × String) := [(RX4, 37, RX5, "LAW_AT_FIRST", "[I", RX5), (RX3, 51, RX5, "LAW_LEAST", "[I", RX5), (RX3, 54, RX5, "LAW_MOST", "[I", RX5)]
/-- the static rows -/
def saT : List (String × String × List Int32) := [(RX5, "LAW_AT_FIRST", [12, 1, 6, 20]), (RX5, "LAW_LEAST", [1, 0, 0, 0]), (RX5, "LAW_MOST", [99, 9, 99, 99]), (RX5, "ABOVE", [-1, 0, 0, 1, 2, 0]), (RX0, "BODY_OF", [10, 11, 12, 13, 10, 20, 12, 13, 30, 11, 12, 31, 51, 20, 50, 13, 40, 41, 12, 31, 10, 11, 61, 60])]
/-- the String constants -/
def stT : List (Nat × String) := [(110, "neighbour"), (112, "cook"), (114, "soldier"), (116, "baker"), (118, "officer"), (120, "mother"), (122, "goal"), (124, "loud"), (126, "watch"), (128, "cough"), (70, "at"), (76, "beat"), (78, "phase")]
def stL : List Nat := [9, 4, 7, 5, 7, 6, 4, 4, 5, 5, 2, 4, 5]
def stB : List (List Int32) := [[110, 101, 105, 103, 104, 98, 111, 117, 114], [99, 111, 111, 107], [115, 111, 108, 100, 105, 101, 114], [98, 97, 107, 101, 114], [111, 102, 102, 105, 99, 101, 114], [109, 111, 116, 104, 101, 114], [103, 111, 97, 108], [108, 111, 117, 100], [119, 97, 116, 99, 104], [99, 111, 117, 103, 104], [97, 116], [98, 101, 97, 116], [112, 104, 97, 115, 101]]
/-- what holds of the tables and of the statics at every call -/
def GB (g : Nat → Nat) (A : Nat → Prop) (U : State) : Prop :=
  (∀ q ∈ nwM, va_Nw (.methodLinkNest q.1 q.2.1 q.2.2.1 q.2.2.2) U) ∧ (∀ q ∈ nwF, va_Nw (.fieldLinkNest q.1 q.2.1 q.2.2.1 q.2.2.2.1 q.2.2.2.2.1 q.2.2.2.2.2) U) ∧
  (∀ (i : Nat) (q : String × String × List Int32), saT[i]? = some q → va_Z q.1 q.2.1 "[I" (.ref (g i)) A U U.heap ∧ va_T .int (g i) q.2.2.length (fun j => .int (q.2.2.getD j 0)) A U U.heap) ∧
  va_Z "java/lang/String" "COMPACT_STRINGS" "Z" (.int 1) A U U.heap ∧ va_Zq "jdk/internal/util/Preconditions" "SIOOBE_FORMATTER" "Ljava/util/function/BiFunction;" A U U.heap ∧
  (∀ (i : Nat) (q : Nat × String), stT[i]? = some q → vk_R RX3 q.1 q.2 (g (100 + i)) U) ∧ vk_S 13 stL stB (fun i => g (100 + i)) (fun i => g (200 + i)) A U U.heap
theorem GB.call {g : Nat → Nat} {A B : Nat → Prop} {s U : State} {H : Heap} {locs : List Loc} (h : GB g A s) (hS : va_S A s.heap H locs) (hA : ∀ q, B q → A q) (hU : U.heap = H) (hW : s.WarmedH U.vm) : GB g B U := by
  subst hU
  have hk : ∀ a : Nat, a < s.heap.size → ¬ A a → U.heap[a]? = s.heap[a]? := hS.2.1
  obtain ⟨h1, h2, h3, h4, h5, h6, h7⟩ := h
  refine ⟨fun q hq => va_Nw.warmM hW (h1 q hq), fun q hq => va_Nw.warmF hW (h2 q hq), fun i q hq => ⟨(((h3 i q hq).1.moved hW.alike).kept hk).narrow hA, (((h3 i q hq).2.moved hW.alike).kept hk).narrow hA⟩, ((h4.moved hW.alike).kept hk).narrow hA, ((h5.moved hW.alike).kept hk).narrow hA, fun i q hq => vk_R.warm hW (h6 i q hq), ((h7.moved hW.alike).kept hk).narrow hA⟩
theorem GB.same {g : Nat → Nat} {A : Nat → Prop} {s U : State} (h : GB g A s) (hv : s.vm = U.vm) (hh : s.heap = U.heap) : GB g A U := by
  have ha : s.vm.Alike U.vm := hv ▸ Vm.Alike.refl s.vm
  obtain ⟨h1, h2, h3, h4, h5, h6, h7⟩ := h
  rw [hh] at h3 h4 h5 h7
  exact ⟨fun q hq => va_Nw.same rfl hv (h1 q hq), fun q hq => va_Nw.same rfl hv (h2 q hq), fun i q hq => ⟨(h3 i q hq).1.moved ha, (h3 i q hq).2.moved ha⟩, h4.moved ha, h5.moved ha, fun i q hq => vk_R.same hv.symm (h6 i q hq), h7.moved ha⟩
/-- the walk's state: cells, locals, place, stack -/
def J (τ : SX) (κ : KX) (k n : Nat) (ws : va_W) (lv : List (Nat × Value)) (pc : Nat) (st : List Value) : Prop :=
  ∀ (H : Heap) (locs : List Loc) (ls : Array Slot), va_P τ.2.1 vwCl ws H → va_D (x_A κ) ws → va_S (x_A κ) (x_s κ).heap H locs → lv_has ls (x_n κ) lv →
    W (x_p κ) τ.1 (x_e κ) (x_R κ) (x_s κ) (x_m κ) (x_a κ) (x_b κ) (x_t κ) (x_c κ) H locs k n (x_Q κ) (F0 (x_m κ) pc ls st)
def Cx (τ : SX) (κ : KX) (cc : ByteArray) (own : String) (Ts : List Cond) (rm : Room) (nL : Nat) : Prop :=
  CallFix (x_p κ) (x_m κ) (x_c κ) cc nL (x_s κ) (x_a κ) Ts own ∧ va_K τ.2.1 vwCl (tyX τ) (x_s κ) ∧ (∀ q, (x_s κ).heap.size ≤ q → x_A κ q) ∧ GB τ.2.2.2 (x_A κ) (x_s κ) ∧ x_R κ = rm ∧ x_n κ = nL
theorem jl_map {w w' : va_W} : ∀ {is : List Nat}, is.map (fun i => w[i]?) = w'.map some → is.filterMap (fun i => w[i]?) = w' := by
  intro is
  induction is generalizing w' with
  | nil => intro h; cases w' with
    | nil => rfl
    | cons a b => cases h
  | cons i is ih => intro h; cases w' with
    | nil => cases h
    | cons a b =>
      rw [List.map_cons, List.map_cons] at h
      injection h with h1 h2
      rw [List.filterMap_cons, h1, ih h2]
def pr1 {α γ : Type} (p : α) (k : α → γ) : γ := k p
theorem pr1_mk {α γ : Type} (a : α) (k : α → γ) : pr1 a k = k a := rfl
def pr2 {α0 α1 γ : Type} (p : α0 × α1) (k : α0 → α1 → γ) : γ := k p.1 p.2
theorem pr2_mk {α0 α1 γ : Type} (a0 : α0) (a1 : α1) (k : α0 → α1 → γ) : pr2 (a0, a1) k = k a0 a1 := rfl
def pr3 {α0 α1 α2 γ : Type} (p : α0 × α1 × α2) (k : α0 → α1 → α2 → γ) : γ := k p.1 p.2.1 p.2.2
theorem pr3_mk {α0 α1 α2 γ : Type} (a0 : α0) (a1 : α1) (a2 : α2) (k : α0 → α1 → α2 → γ) : pr3 (a0, a1, a2) k = k a0 a1 a2 := rfl
def pr4 {α0 α1 α2 α3 γ : Type} (p : α0 × α1 × α2 × α3) (k : α0 → α1 → α2 → α3 → γ) : γ := k p.1 p.2.1 p.2.2.1 p.2.2.2
theorem pr4_mk {α0 α1 α2 α3 γ : Type} (a0 : α0) (a1 : α1) (a2 : α2) (a3 : α3) (k : α0 → α1 → α2 → α3 → γ) : pr4 (a0, a1, a2, a3) k = k a0 a1 a2 a3 := rfl
def pr5 {α0 α1 α2 α3 α4 γ : Type} (p : α0 × α1 × α2 × α3 × α4) (k : α0 → α1 → α2 → α3 → α4 → γ) : γ := k p.1 p.2.1 p.2.2.1 p.2.2.2.1 p.2.2.2.2
theorem pr5_mk {α0 α1 α2 α3 α4 γ : Type} (a0 : α0) (a1 : α1) (a2 : α2) (a3 : α3) (a4 : α4) (k : α0 → α1 → α2 → α3 → α4 → γ) : pr5 (a0, a1, a2, a3, a4) k = k a0 a1 a2 a3 a4 := rfl
def pr6 {α0 α1 α2 α3 α4 α5 γ : Type} (p : α0 × α1 × α2 × α3 × α4 × α5) (k : α0 → α1 → α2 → α3 → α4 → α5 → γ) : γ := k p.1 p.2.1 p.2.2.1 p.2.2.2.1 p.2.2.2.2.1 p.2.2.2.2.2
theorem pr6_mk {α0 α1 α2 α3 α4 α5 γ : Type} (a0 : α0) (a1 : α1) (a2 : α2) (a3 : α3) (a4 : α4) (a5 : α5) (k : α0 → α1 → α2 → α3 → α4 → α5 → γ) : pr6 (a0, a1, a2, a3, a4, a5) k = k a0 a1 a2 a3 a4 a5 := rfl
def pr7 {α0 α1 α2 α3 α4 α5 α6 γ : Type} (p : α0 × α1 × α2 × α3 × α4 × α5 × α6) (k : α0 → α1 → α2 → α3 → α4 → α5 → α6 → γ) : γ := k p.1 p.2.1 p.2.2.1 p.2.2.2.1 p.2.2.2.2.1 p.2.2.2.2.2.1 p.2.2.2.2.2.2
theorem pr7_mk {α0 α1 α2 α3 α4 α5 α6 γ : Type} (a0 : α0) (a1 : α1) (a2 : α2) (a3 : α3) (a4 : α4) (a5 : α5) (a6 : α6) (k : α0 → α1 → α2 → α3 → α4 → α5 → α6 → γ) : pr7 (a0, a1, a2, a3, a4, a5, a6) k = k a0 a1 a2 a3 a4 a5 a6 := rfl
def pr8 {α0 α1 α2 α3 α4 α5 α6 α7 γ : Type} (p : α0 × α1 × α2 × α3 × α4 × α5 × α6 × α7) (k : α0 → α1 → α2 → α3 → α4 → α5 → α6 → α7 → γ) : γ := k p.1 p.2.1 p.2.2.1 p.2.2.2.1 p.2.2.2.2.1 p.2.2.2.2.2.1 p.2.2.2.2.2.2.1 p.2.2.2.2.2.2.2
theorem pr8_mk {α0 α1 α2 α3 α4 α5 α6 α7 γ : Type} (a0 : α0) (a1 : α1) (a2 : α2) (a3 : α3) (a4 : α4) (a5 : α5) (a6 : α6) (a7 : α7) (k : α0 → α1 → α2 → α3 → α4 → α5 → α6 → α7 → γ) : pr8 (a0, a1, a2, a3, a4, a5, a6, a7) k = k a0 a1 a2 a3 a4 a5 a6 a7 := rfl
def pr9 {α0 α1 α2 α3 α4 α5 α6 α7 α8 γ : Type} (p : α0 × α1 × α2 × α3 × α4 × α5 × α6 × α7 × α8) (k : α0 → α1 → α2 → α3 → α4 → α5 → α6 → α7 → α8 → γ) : γ := k p.1 p.2.1 p.2.2.1 p.2.2.2.1 p.2.2.2.2.1 p.2.2.2.2.2.1 p.2.2.2.2.2.2.1 p.2.2.2.2.2.2.2.1 p.2.2.2.2.2.2.2.2
theorem pr9_mk {α0 α1 α2 α3 α4 α5 α6 α7 α8 γ : Type} (a0 : α0) (a1 : α1) (a2 : α2) (a3 : α3) (a4 : α4) (a5 : α5) (a6 : α6) (a7 : α7) (a8 : α8) (k : α0 → α1 → α2 → α3 → α4 → α5 → α6 → α7 → α8 → γ) : pr9 (a0, a1, a2, a3, a4, a5, a6, a7, a8) k = k a0 a1 a2 a3 a4 a5 a6 a7 a8 := rfl
def pr10 {α0 α1 α2 α3 α4 α5 α6 α7 α8 α9 γ : Type} (p : α0 × α1 × α2 × α3 × α4 × α5 × α6 × α7 × α8 × α9) (k : α0 → α1 → α2 → α3 → α4 → α5 → α6 → α7 → α8 → α9 → γ) : γ := k p.1 p.2.1 p.2.2.1 p.2.2.2.1 p.2.2.2.2.1 p.2.2.2.2.2.1 p.2.2.2.2.2.2.1 p.2.2.2.2.2.2.2.1 p.2.2.2.2.2.2.2.2.1 p.2.2.2.2.2.2.2.2.2
theorem pr10_mk {α0 α1 α2 α3 α4 α5 α6 α7 α8 α9 γ : Type} (a0 : α0) (a1 : α1) (a2 : α2) (a3 : α3) (a4 : α4) (a5 : α5) (a6 : α6) (a7 : α7) (a8 : α8) (a9 : α9) (k : α0 → α1 → α2 → α3 → α4 → α5 → α6 → α7 → α8 → α9 → γ) : pr10 (a0, a1, a2, a3, a4, a5, a6, a7, a8, a9) k = k a0 a1 a2 a3 a4 a5 a6 a7 a8 a9 := rfl
def pr11 {α0 α1 α2 α3 α4 α5 α6 α7 α8 α9 α10 γ : Type} (p : α0 × α1 × α2 × α3 × α4 × α5 × α6 × α7 × α8 × α9 × α10) (k : α0 → α1 → α2 → α3 → α4 → α5 → α6 → α7 → α8 → α9 → α10 → γ) : γ := k p.1 p.2.1 p.2.2.1 p.2.2.2.1 p.2.2.2.2.1 p.2.2.2.2.2.1 p.2.2.2.2.2.2.1 p.2.2.2.2.2.2.2.1 p.2.2.2.2.2.2.2.2.1 p.2.2.2.2.2.2.2.2.2.1 p.2.2.2.2.2.2.2.2.2.2
theorem pr11_mk {α0 α1 α2 α3 α4 α5 α6 α7 α8 α9 α10 γ : Type} (a0 : α0) (a1 : α1) (a2 : α2) (a3 : α3) (a4 : α4) (a5 : α5) (a6 : α6) (a7 : α7) (a8 : α8) (a9 : α9) (a10 : α10) (k : α0 → α1 → α2 → α3 → α4 → α5 → α6 → α7 → α8 → α9 → α10 → γ) : pr11 (a0, a1, a2, a3, a4, a5, a6, a7, a8, a9, a10) k = k a0 a1 a2 a3 a4 a5 a6 a7 a8 a9 a10 := rfl
def pr12 {α0 α1 α2 α3 α4 α5 α6 α7 α8 α9 α10 α11 γ : Type} (p : α0 × α1 × α2 × α3 × α4 × α5 × α6 × α7 × α8 × α9 × α10 × α11) (k : α0 → α1 → α2 → α3 → α4 → α5 → α6 → α7 → α8 → α9 → α10 → α11 → γ) : γ := k p.1 p.2.1 p.2.2.1 p.2.2.2.1 p.2.2.2.2.1 p.2.2.2.2.2.1 p.2.2.2.2.2.2.1 p.2.2.2.2.2.2.2.1 p.2.2.2.2.2.2.2.2.1 p.2.2.2.2.2.2.2.2.2.1 p.2.2.2.2.2.2.2.2.2.2.1 p.2.2.2.2.2.2.2.2.2.2.2
theorem pr12_mk {α0 α1 α2 α3 α4 α5 α6 α7 α8 α9 α10 α11 γ : Type} (a0 : α0) (a1 : α1) (a2 : α2) (a3 : α3) (a4 : α4) (a5 : α5) (a6 : α6) (a7 : α7) (a8 : α8) (a9 : α9) (a10 : α10) (a11 : α11) (k : α0 → α1 → α2 → α3 → α4 → α5 → α6 → α7 → α8 → α9 → α10 → α11 → γ) : pr12 (a0, a1, a2, a3, a4, a5, a6, a7, a8, a9, a10, a11) k = k a0 a1 a2 a3 a4 a5 a6 a7 a8 a9 a10 a11 := rfl
def pr13 {α0 α1 α2 α3 α4 α5 α6 α7 α8 α9 α10 α11 α12 γ : Type} (p : α0 × α1 × α2 × α3 × α4 × α5 × α6 × α7 × α8 × α9 × α10 × α11 × α12) (k : α0 → α1 → α2 → α3 → α4 → α5 → α6 → α7 → α8 → α9 → α10 → α11 → α12 → γ) : γ := k p.1 p.2.1 p.2.2.1 p.2.2.2.1 p.2.2.2.2.1 p.2.2.2.2.2.1 p.2.2.2.2.2.2.1 p.2.2.2.2.2.2.2.1 p.2.2.2.2.2.2.2.2.1 p.2.2.2.2.2.2.2.2.2.1 p.2.2.2.2.2.2.2.2.2.2.1 p.2.2.2.2.2.2.2.2.2.2.2.1 p.2.2.2.2.2.2.2.2.2.2.2.2
theorem pr13_mk {α0 α1 α2 α3 α4 α5 α6 α7 α8 α9 α10 α11 α12 γ : Type} (a0 : α0) (a1 : α1) (a2 : α2) (a3 : α3) (a4 : α4) (a5 : α5) (a6 : α6) (a7 : α7) (a8 : α8) (a9 : α9) (a10 : α10) (a11 : α11) (a12 : α12) (k : α0 → α1 → α2 → α3 → α4 → α5 → α6 → α7 → α8 → α9 → α10 → α11 → α12 → γ) : pr13 (a0, a1, a2, a3, a4, a5, a6, a7, a8, a9, a10, a11, a12) k = k a0 a1 a2 a3 a4 a5 a6 a7 a8 a9 a10 a11 a12 := rfl
def pr14 {α0 α1 α2 α3 α4 α5 α6 α7 α8 α9 α10 α11 α12 α13 γ : Type} (p : α0 × α1 × α2 × α3 × α4 × α5 × α6 × α7 × α8 × α9 × α10 × α11 × α12 × α13) (k : α0 → α1 → α2 → α3 → α4 → α5 → α6 → α7 → α8 → α9 → α10 → α11 → α12 → α13 → γ) : γ := k p.1 p.2.1 p.2.2.1 p.2.2.2.1 p.2.2.2.2.1 p.2.2.2.2.2.1 p.2.2.2.2.2.2.1 p.2.2.2.2.2.2.2.1 p.2.2.2.2.2.2.2.2.1 p.2.2.2.2.2.2.2.2.2.1 p.2.2.2.2.2.2.2.2.2.2.1 p.2.2.2.2.2.2.2.2.2.2.2.1 p.2.2.2.2.2.2.2.2.2.2.2.2.1 p.2.2.2.2.2.2.2.2.2.2.2.2.2
theorem pr14_mk {α0 α1 α2 α3 α4 α5 α6 α7 α8 α9 α10 α11 α12 α13 γ : Type} (a0 : α0) (a1 : α1) (a2 : α2) (a3 : α3) (a4 : α4) (a5 : α5) (a6 : α6) (a7 : α7) (a8 : α8) (a9 : α9) (a10 : α10) (a11 : α11) (a12 : α12) (a13 : α13) (k : α0 → α1 → α2 → α3 → α4 → α5 → α6 → α7 → α8 → α9 → α10 → α11 → α12 → α13 → γ) : pr14 (a0, a1, a2, a3, a4, a5, a6, a7, a8, a9, a10, a11, a12, a13) k = k a0 a1 a2 a3 a4 a5 a6 a7 a8 a9 a10 a11 a12 a13 := rfl
def pr15 {α0 α1 α2 α3 α4 α5 α6 α7 α8 α9 α10 α11 α12 α13 α14 γ : Type} (p : α0 × α1 × α2 × α3 × α4 × α5 × α6 × α7 × α8 × α9 × α10 × α11 × α12 × α13 × α14) (k : α0 → α1 → α2 → α3 → α4 → α5 → α6 → α7 → α8 → α9 → α10 → α11 → α12 → α13 → α14 → γ) : γ := k p.1 p.2.1 p.2.2.1 p.2.2.2.1 p.2.2.2.2.1 p.2.2.2.2.2.1 p.2.2.2.2.2.2.1 p.2.2.2.2.2.2.2.1 p.2.2.2.2.2.2.2.2.1 p.2.2.2.2.2.2.2.2.2.1 p.2.2.2.2.2.2.2.2.2.2.1 p.2.2.2.2.2.2.2.2.2.2.2.1 p.2.2.2.2.2.2.2.2.2.2.2.2.1 p.2.2.2.2.2.2.2.2.2.2.2.2.2.1 p.2.2.2.2.2.2.2.2.2.2.2.2.2.2
theorem pr15_mk {α0 α1 α2 α3 α4 α5 α6 α7 α8 α9 α10 α11 α12 α13 α14 γ : Type} (a0 : α0) (a1 : α1) (a2 : α2) (a3 : α3) (a4 : α4) (a5 : α5) (a6 : α6) (a7 : α7) (a8 : α8) (a9 : α9) (a10 : α10) (a11 : α11) (a12 : α12) (a13 : α13) (a14 : α14) (k : α0 → α1 → α2 → α3 → α4 → α5 → α6 → α7 → α8 → α9 → α10 → α11 → α12 → α13 → α14 → γ) : pr15 (a0, a1, a2, a3, a4, a5, a6, a7, a8, a9, a10, a11, a12, a13, a14) k = k a0 a1 a2 a3 a4 a5 a6 a7 a8 a9 a10 a11 a12 a13 a14 := rfl
def pr16 {α0 α1 α2 α3 α4 α5 α6 α7 α8 α9 α10 α11 α12 α13 α14 α15 γ : Type} (p : α0 × α1 × α2 × α3 × α4 × α5 × α6 × α7 × α8 × α9 × α10 × α11 × α12 × α13 × α14 × α15) (k : α0 → α1 → α2 → α3 → α4 → α5 → α6 → α7 → α8 → α9 → α10 → α11 → α12 → α13 → α14 → α15 → γ) : γ := k p.1 p.2.1 p.2.2.1 p.2.2.2.1 p.2.2.2.2.1 p.2.2.2.2.2.1 p.2.2.2.2.2.2.1 p.2.2.2.2.2.2.2.1 p.2.2.2.2.2.2.2.2.1 p.2.2.2.2.2.2.2.2.2.1 p.2.2.2.2.2.2.2.2.2.2.1 p.2.2.2.2.2.2.2.2.2.2.2.1 p.2.2.2.2.2.2.2.2.2.2.2.2.1 p.2.2.2.2.2.2.2.2.2.2.2.2.2.1 p.2.2.2.2.2.2.2.2.2.2.2.2.2.2.1 p.2.2.2.2.2.2.2.2.2.2.2.2.2.2.2
theorem pr16_mk {α0 α1 α2 α3 α4 α5 α6 α7 α8 α9 α10 α11 α12 α13 α14 α15 γ : Type} (a0 : α0) (a1 : α1) (a2 : α2) (a3 : α3) (a4 : α4) (a5 : α5) (a6 : α6) (a7 : α7) (a8 : α8) (a9 : α9) (a10 : α10) (a11 : α11) (a12 : α12) (a13 : α13) (a14 : α14) (a15 : α15) (k : α0 → α1 → α2 → α3 → α4 → α5 → α6 → α7 → α8 → α9 → α10 → α11 → α12 → α13 → α14 → α15 → γ) : pr16 (a0, a1, a2, a3, a4, a5, a6, a7, a8, a9, a10, a11, a12, a13, a14, a15) k = k a0 a1 a2 a3 a4 a5 a6 a7 a8 a9 a10 a11 a12 a13 a14 a15 := rfl
def pr17 {α0 α1 α2 α3 α4 α5 α6 α7 α8 α9 α10 α11 α12 α13 α14 α15 α16 γ : Type} (p : α0 × α1 × α2 × α3 × α4 × α5 × α6 × α7 × α8 × α9 × α10 × α11 × α12 × α13 × α14 × α15 × α16) (k : α0 → α1 → α2 → α3 → α4 → α5 → α6 → α7 → α8 → α9 → α10 → α11 → α12 → α13 → α14 → α15 → α16 → γ) : γ := k p.1 p.2.1 p.2.2.1 p.2.2.2.1 p.2.2.2.2.1 p.2.2.2.2.2.1 p.2.2.2.2.2.2.1 p.2.2.2.2.2.2.2.1 p.2.2.2.2.2.2.2.2.1 p.2.2.2.2.2.2.2.2.2.1 p.2.2.2.2.2.2.2.2.2.2.1 p.2.2.2.2.2.2.2.2.2.2.2.1 p.2.2.2.2.2.2.2.2.2.2.2.2.1 p.2.2.2.2.2.2.2.2.2.2.2.2.2.1 p.2.2.2.2.2.2.2.2.2.2.2.2.2.2.1 p.2.2.2.2.2.2.2.2.2.2.2.2.2.2.2.1 p.2.2.2.2.2.2.2.2.2.2.2.2.2.2.2.2
theorem pr17_mk {α0 α1 α2 α3 α4 α5 α6 α7 α8 α9 α10 α11 α12 α13 α14 α15 α16 γ : Type} (a0 : α0) (a1 : α1) (a2 : α2) (a3 : α3) (a4 : α4) (a5 : α5) (a6 : α6) (a7 : α7) (a8 : α8) (a9 : α9) (a10 : α10) (a11 : α11) (a12 : α12) (a13 : α13) (a14 : α14) (a15 : α15) (a16 : α16) (k : α0 → α1 → α2 → α3 → α4 → α5 → α6 → α7 → α8 → α9 → α10 → α11 → α12 → α13 → α14 → α15 → α16 → γ) : pr17 (a0, a1, a2, a3, a4, a5, a6, a7, a8, a9, a10, a11, a12, a13, a14, a15, a16) k = k a0 a1 a2 a3 a4 a5 a6 a7 a8 a9 a10 a11 a12 a13 a14 a15 a16 := rfl
def pr18 {α0 α1 α2 α3 α4 α5 α6 α7 α8 α9 α10 α11 α12 α13 α14 α15 α16 α17 γ : Type} (p : α0 × α1 × α2 × α3 × α4 × α5 × α6 × α7 × α8 × α9 × α10 × α11 × α12 × α13 × α14 × α15 × α16 × α17) (k : α0 → α1 → α2 → α3 → α4 → α5 → α6 → α7 → α8 → α9 → α10 → α11 → α12 → α13 → α14 → α15 → α16 → α17 → γ) : γ := k p.1 p.2.1 p.2.2.1 p.2.2.2.1 p.2.2.2.2.1 p.2.2.2.2.2.1 p.2.2.2.2.2.2.1 p.2.2.2.2.2.2.2.1 p.2.2.2.2.2.2.2.2.1 p.2.2.2.2.2.2.2.2.2.1 p.2.2.2.2.2.2.2.2.2.2.1 p.2.2.2.2.2.2.2.2.2.2.2.1 p.2.2.2.2.2.2.2.2.2.2.2.2.1 p.2.2.2.2.2.2.2.2.2.2.2.2.2.1 p.2.2.2.2.2.2.2.2.2.2.2.2.2.2.1 p.2.2.2.2.2.2.2.2.2.2.2.2.2.2.2.1 p.2.2.2.2.2.2.2.2.2.2.2.2.2.2.2.2.1 p.2.2.2.2.2.2.2.2.2.2.2.2.2.2.2.2.2
theorem pr18_mk {α0 α1 α2 α3 α4 α5 α6 α7 α8 α9 α10 α11 α12 α13 α14 α15 α16 α17 γ : Type} (a0 : α0) (a1 : α1) (a2 : α2) (a3 : α3) (a4 : α4) (a5 : α5) (a6 : α6) (a7 : α7) (a8 : α8) (a9 : α9) (a10 : α10) (a11 : α11) (a12 : α12) (a13 : α13) (a14 : α14) (a15 : α15) (a16 : α16) (a17 : α17) (k : α0 → α1 → α2 → α3 → α4 → α5 → α6 → α7 → α8 → α9 → α10 → α11 → α12 → α13 → α14 → α15 → α16 → α17 → γ) : pr18 (a0, a1, a2, a3, a4, a5, a6, a7, a8, a9, a10, a11, a12, a13, a14, a15, a16, a17) k = k a0 a1 a2 a3 a4 a5 a6 a7 a8 a9 a10 a11 a12 a13 a14 a15 a16 a17 := rfl
def sm {α β γ : Type} (o : α ⊕ β) (f : α → γ) (g : β → γ) : γ := match o with
  | .inl a => f a
  | .inr b => g b
theorem sm_inl {α β γ : Type} (a : α) (f : α → γ) (g : β → γ) : sm (.inl a) f g = f a := rfl
theorem sm_inr {α β γ : Type} (b : β) (f : α → γ) (g : β → γ) : sm (.inr b) f g = g b := rfl
section JROWS
variable {τ : SX} {κ : KX} {cc : ByteArray} {own : String} {Ts : List Cond} {rm : Room} {nL k n : Nat} {ws : va_W} {lv : List (Nat × Value)} {pc : Nat} {st : List Value}
theorem j_iconst {i : Int} {v : Int32} (C : Cx τ κ cc own Ts rm nL) (d : decode cc pc = .ok (.iconst i, 1)) (pc' : Nat) (e : pc + 1 = pc') (hv : Int32.ofInt i = v) (t : J τ κ k n ws lv pc' (.int v :: st)) : J τ κ k n ws lv pc (st) := by
  subst e
  exact fun H locs ls hP hD hS hl => lv_iconst C.1.1 C.1.2.1 d hv (t H locs ls hP hD hS hl)
theorem j_bipush {i : Int} {v : Int32} (C : Cx τ κ cc own Ts rm nL) (d : decode cc pc = .ok (.bipush i, 2)) (pc' : Nat) (e : pc + 2 = pc') (hv : (Int8.ofInt i).toInt32 = v) (t : J τ κ k n ws lv pc' (.int v :: st)) : J τ κ k n ws lv pc (st) := by
  subst e
  exact fun H locs ls hP hD hS hl => lv_bipush C.1.1 C.1.2.1 d hv (t H locs ls hP hD hS hl)
theorem j_sipush {i : Int} {v : Int32} (C : Cx τ κ cc own Ts rm nL) (d : decode cc pc = .ok (.sipush i, 3)) (pc' : Nat) (e : pc + 3 = pc') (hv : (Int16.ofInt i).toInt32 = v) (t : J τ κ k n ws lv pc' (.int v :: st)) : J τ κ k n ws lv pc (st) := by
  subst e
  exact fun H locs ls hP hD hS hl => lv_sipush C.1.1 C.1.2.1 d hv (t H locs ls hP hD hS hl)
theorem j_lconst {i : Fin 2} {v : Int64} (C : Cx τ κ cc own Ts rm nL) (d : decode cc pc = .ok (.lconst i, 1)) (pc' : Nat) (e : pc + 1 = pc') (hv : Int64.ofNat (i : Nat) = v) (t : J τ κ k n ws lv pc' (.long v :: st)) : J τ κ k n ws lv pc (st) := by
  subst e
  exact fun H locs ls hP hD hS hl => lv_lconst C.1.1 C.1.2.1 d hv (t H locs ls hP hD hS hl)
theorem j_iload_n {f : Fin 4} {i : Nat} {x : Int32} (C : Cx τ κ cc own Ts rm nL) (d : decode cc pc = .ok (.iload_n f, 1)) (pc' : Nat) (e : pc + 1 = pc') (hi : (f : Nat) = i) (j : Nat) (hj : lv[j]? = some (i, .int x)) (t : J τ κ k n ws lv pc' (.int x :: st)) : J τ κ k n ws lv pc (st) := by
  subst e
  exact fun H locs ls hP hD hS hl => lv_iload_n C.1.1 C.1.2.1 d hi (lv_at hl j hj) (t H locs ls hP hD hS hl)
theorem j_iload {i : Nat} {x : Int32} (C : Cx τ κ cc own Ts rm nL) (d : decode cc pc = .ok (.iload i, 2)) (pc' : Nat) (e : pc + 2 = pc') (j : Nat) (hj : lv[j]? = some (i, .int x)) (t : J τ κ k n ws lv pc' (.int x :: st)) : J τ κ k n ws lv pc (st) := by
  subst e
  exact fun H locs ls hP hD hS hl => lv_iload C.1.1 C.1.2.1 d (lv_at hl j hj) (t H locs ls hP hD hS hl)
theorem j_lload_n {f : Fin 4} {i : Nat} {x : Int64} (C : Cx τ κ cc own Ts rm nL) (d : decode cc pc = .ok (.lload_n f, 1)) (pc' : Nat) (e : pc + 1 = pc') (hi : (f : Nat) = i) (j : Nat) (hj : lv[j]? = some (i, .long x)) (t : J τ κ k n ws lv pc' (.long x :: st)) : J τ κ k n ws lv pc (st) := by
  subst e
  exact fun H locs ls hP hD hS hl => lv_lload_n C.1.1 C.1.2.1 d hi (lv_at hl j hj) (t H locs ls hP hD hS hl)
theorem j_lload {i : Nat} {x : Int64} (C : Cx τ κ cc own Ts rm nL) (d : decode cc pc = .ok (.lload i, 2)) (pc' : Nat) (e : pc + 2 = pc') (j : Nat) (hj : lv[j]? = some (i, .long x)) (t : J τ κ k n ws lv pc' (.long x :: st)) : J τ κ k n ws lv pc (st) := by
  subst e
  exact fun H locs ls hP hD hS hl => lv_lload C.1.1 C.1.2.1 d (lv_at hl j hj) (t H locs ls hP hD hS hl)
theorem j_aload_n {f : Fin 4} {i : Nat} {x : Nat} (C : Cx τ κ cc own Ts rm nL) (d : decode cc pc = .ok (.aload_n f, 1)) (pc' : Nat) (e : pc + 1 = pc') (hi : (f : Nat) = i) (j : Nat) (hj : lv[j]? = some (i, .ref x)) (t : J τ κ k n ws lv pc' (.ref x :: st)) : J τ κ k n ws lv pc (st) := by
  subst e
  exact fun H locs ls hP hD hS hl => lv_aload_n C.1.1 C.1.2.1 d hi (lv_at hl j hj) (t H locs ls hP hD hS hl)
theorem j_aload {i : Nat} {x : Nat} (C : Cx τ κ cc own Ts rm nL) (d : decode cc pc = .ok (.aload i, 2)) (pc' : Nat) (e : pc + 2 = pc') (j : Nat) (hj : lv[j]? = some (i, .ref x)) (t : J τ κ k n ws lv pc' (.ref x :: st)) : J τ κ k n ws lv pc (st) := by
  subst e
  exact fun H locs ls hP hD hS hl => lv_aload C.1.1 C.1.2.1 d (lv_at hl j hj) (t H locs ls hP hD hS hl)
theorem j_istore_n {f : Fin 4} {i : Nat} {x : Int32} (C : Cx τ κ cc own Ts rm nL) (d : decode cc pc = .ok (.istore_n f, 1)) (pc' : Nat) (e : pc + 1 = pc') (hi : (f : Nat) = i) (hn : i < nL) (lv' : List (Nat × Value)) (hl' : (i, Value.int x) :: lv.filter (fun q => !(q.1 == i) && !(q.1 + 1 == i && q.2.category == 2)) = lv') (t : J τ κ k n ws lv' pc' st) : J τ κ k n ws lv pc (Value.int x :: st) := by
  subst e
  exact fun H locs ls hP hD hS hl => lv_istore_n C.1.1 C.1.2.1 d hi hl (by rw [C.2.2.2.2.2]; exact hn) hl' (fun ls' h => t H locs ls' hP hD hS h)
theorem j_istore {i : Nat} {x : Int32} (C : Cx τ κ cc own Ts rm nL) (d : decode cc pc = .ok (.istore i, 2)) (pc' : Nat) (e : pc + 2 = pc') (hn : i < nL) (lv' : List (Nat × Value)) (hl' : (i, Value.int x) :: lv.filter (fun q => !(q.1 == i) && !(q.1 + 1 == i && q.2.category == 2)) = lv') (t : J τ κ k n ws lv' pc' st) : J τ κ k n ws lv pc (Value.int x :: st) := by
  subst e
  exact fun H locs ls hP hD hS hl => lv_istore C.1.1 C.1.2.1 d hl (by rw [C.2.2.2.2.2]; exact hn) hl' (fun ls' h => t H locs ls' hP hD hS h)
theorem j_astore_n {f : Fin 4} {i : Nat} {x : Nat} (C : Cx τ κ cc own Ts rm nL) (d : decode cc pc = .ok (.astore_n f, 1)) (pc' : Nat) (e : pc + 1 = pc') (hi : (f : Nat) = i) (hn : i < nL) (lv' : List (Nat × Value)) (hl' : (i, Value.ref x) :: lv.filter (fun q => !(q.1 == i) && !(q.1 + 1 == i && q.2.category == 2)) = lv') (t : J τ κ k n ws lv' pc' st) : J τ κ k n ws lv pc (Value.ref x :: st) := by
  subst e
  exact fun H locs ls hP hD hS hl => lv_astore_n C.1.1 C.1.2.1 d hi hl (by rw [C.2.2.2.2.2]; exact hn) hl' (fun ls' h => t H locs ls' hP hD hS h)
theorem j_astore {i : Nat} {x : Nat} (C : Cx τ κ cc own Ts rm nL) (d : decode cc pc = .ok (.astore i, 2)) (pc' : Nat) (e : pc + 2 = pc') (hn : i < nL) (lv' : List (Nat × Value)) (hl' : (i, Value.ref x) :: lv.filter (fun q => !(q.1 == i) && !(q.1 + 1 == i && q.2.category == 2)) = lv') (t : J τ κ k n ws lv' pc' st) : J τ κ k n ws lv pc (Value.ref x :: st) := by
  subst e
  exact fun H locs ls hP hD hS hl => lv_astore C.1.1 C.1.2.1 d hl (by rw [C.2.2.2.2.2]; exact hn) hl' (fun ls' h => t H locs ls' hP hD hS h)
theorem j_lstore_n {f : Fin 4} {i : Nat} {x : Int64} (C : Cx τ κ cc own Ts rm nL) (d : decode cc pc = .ok (.lstore_n f, 1)) (pc' : Nat) (e : pc + 1 = pc') (hi : (f : Nat) = i) (hn : i + 1 < nL) (lv' : List (Nat × Value)) (hl' : (i, Value.long x) :: lv.filter (fun q => !(q.1 == i) && (!(q.1 == i + 1) && !(q.1 + 1 == i && q.2.category == 2))) = lv') (t : J τ κ k n ws lv' pc' st) : J τ κ k n ws lv pc (Value.long x :: st) := by
  subst e
  exact fun H locs ls hP hD hS hl => lv_lstore_n C.1.1 C.1.2.1 d hi hl (by rw [C.2.2.2.2.2]; exact hn) hl' (fun ls' h => t H locs ls' hP hD hS h)
theorem j_lstore {i : Nat} {x : Int64} (C : Cx τ κ cc own Ts rm nL) (d : decode cc pc = .ok (.lstore i, 2)) (pc' : Nat) (e : pc + 2 = pc') (hn : i + 1 < nL) (lv' : List (Nat × Value)) (hl' : (i, Value.long x) :: lv.filter (fun q => !(q.1 == i) && (!(q.1 == i + 1) && !(q.1 + 1 == i && q.2.category == 2))) = lv') (t : J τ κ k n ws lv' pc' st) : J τ κ k n ws lv pc (Value.long x :: st) := by
  subst e
  exact fun H locs ls hP hD hS hl => lv_lstore C.1.1 C.1.2.1 d hl (by rw [C.2.2.2.2.2]; exact hn) hl' (fun ls' h => t H locs ls' hP hD hS h)
theorem j_iinc {i : Nat} {z : Int} {x v : Int32} (C : Cx τ κ cc own Ts rm nL) (d : decode cc pc = .ok (.iinc i z, 3)) (pc' : Nat) (e : pc + 3 = pc') (j : Nat) (hj : lv[j]? = some (i, .int x)) (hv : x + Int32.ofInt z = v) (hn : i < nL) (lv' : List (Nat × Value)) (hl' : (i, Value.int v) :: lv.filter (fun q => !(q.1 == i) && !(q.1 + 1 == i && q.2.category == 2)) = lv') (t : J τ κ k n ws lv' pc' st) : J τ κ k n ws lv pc st := by
  subst e
  exact fun H locs ls hP hD hS hl => lv_iinc C.1.1 C.1.2.1 d hl hj hv (by rw [C.2.2.2.2.2]; exact hn) hl' (fun ls' h => t H locs ls' hP hD hS h)
theorem j_iadd {x y : Int32} (C : Cx τ κ cc own Ts rm nL) (d : decode cc pc = .ok (.iadd, 1)) (pc' : Nat) (e : pc + 1 = pc')  (t : J τ κ k n ws lv pc' (.int (x + y) :: st)) : J τ κ k n ws lv pc (.int y :: .int x :: st) := by
  subst e
  exact fun H locs ls hP hD hS hl => lv_iadd C.1.1 C.1.2.1 d  (t H locs ls hP hD hS hl)
theorem j_isub {x y : Int32} (C : Cx τ κ cc own Ts rm nL) (d : decode cc pc = .ok (.isub, 1)) (pc' : Nat) (e : pc + 1 = pc')  (t : J τ κ k n ws lv pc' (.int (x - y) :: st)) : J τ κ k n ws lv pc (.int y :: .int x :: st) := by
  subst e
  exact fun H locs ls hP hD hS hl => lv_isub C.1.1 C.1.2.1 d  (t H locs ls hP hD hS hl)
theorem j_imul {x y : Int32} (C : Cx τ κ cc own Ts rm nL) (d : decode cc pc = .ok (.imul, 1)) (pc' : Nat) (e : pc + 1 = pc')  (t : J τ κ k n ws lv pc' (.int (x * y) :: st)) : J τ κ k n ws lv pc (.int y :: .int x :: st) := by
  subst e
  exact fun H locs ls hP hD hS hl => lv_imul C.1.1 C.1.2.1 d  (t H locs ls hP hD hS hl)
theorem j_iand {x y : Int32} (C : Cx τ κ cc own Ts rm nL) (d : decode cc pc = .ok (.iand, 1)) (pc' : Nat) (e : pc + 1 = pc')  (t : J τ κ k n ws lv pc' (.int (x &&& y) :: st)) : J τ κ k n ws lv pc (.int y :: .int x :: st) := by
  subst e
  exact fun H locs ls hP hD hS hl => lv_iand C.1.1 C.1.2.1 d  (t H locs ls hP hD hS hl)
theorem j_ior {x y : Int32} (C : Cx τ κ cc own Ts rm nL) (d : decode cc pc = .ok (.ior, 1)) (pc' : Nat) (e : pc + 1 = pc')  (t : J τ κ k n ws lv pc' (.int (x ||| y) :: st)) : J τ κ k n ws lv pc (.int y :: .int x :: st) := by
  subst e
  exact fun H locs ls hP hD hS hl => lv_ior C.1.1 C.1.2.1 d  (t H locs ls hP hD hS hl)
theorem j_ixor {x y : Int32} (C : Cx τ κ cc own Ts rm nL) (d : decode cc pc = .ok (.ixor, 1)) (pc' : Nat) (e : pc + 1 = pc')  (t : J τ κ k n ws lv pc' (.int (x ^^^ y) :: st)) : J τ κ k n ws lv pc (.int y :: .int x :: st) := by
  subst e
  exact fun H locs ls hP hD hS hl => lv_ixor C.1.1 C.1.2.1 d  (t H locs ls hP hD hS hl)
theorem j_ishl {x y : Int32} (C : Cx τ κ cc own Ts rm nL) (d : decode cc pc = .ok (.ishl, 1)) (pc' : Nat) (e : pc + 1 = pc')  (t : J τ κ k n ws lv pc' (.int (x <<< (y &&& 31)) :: st)) : J τ κ k n ws lv pc (.int y :: .int x :: st) := by
  subst e
  exact fun H locs ls hP hD hS hl => lv_ishl C.1.1 C.1.2.1 d  (t H locs ls hP hD hS hl)
theorem j_ishr {x y : Int32} (C : Cx τ κ cc own Ts rm nL) (d : decode cc pc = .ok (.ishr, 1)) (pc' : Nat) (e : pc + 1 = pc')  (t : J τ κ k n ws lv pc' (.int (x >>> (y &&& 31)) :: st)) : J τ κ k n ws lv pc (.int y :: .int x :: st) := by
  subst e
  exact fun H locs ls hP hD hS hl => lv_ishr C.1.1 C.1.2.1 d  (t H locs ls hP hD hS hl)
theorem j_ladd {x y : Int64} (C : Cx τ κ cc own Ts rm nL) (d : decode cc pc = .ok (.ladd, 1)) (pc' : Nat) (e : pc + 1 = pc')  (t : J τ κ k n ws lv pc' (.long (x + y) :: st)) : J τ κ k n ws lv pc (.long y :: .long x :: st) := by
  subst e
  exact fun H locs ls hP hD hS hl => lv_ladd C.1.1 C.1.2.1 d  (t H locs ls hP hD hS hl)
theorem j_lsub {x y : Int64} (C : Cx τ κ cc own Ts rm nL) (d : decode cc pc = .ok (.lsub, 1)) (pc' : Nat) (e : pc + 1 = pc')  (t : J τ κ k n ws lv pc' (.long (x - y) :: st)) : J τ κ k n ws lv pc (.long y :: .long x :: st) := by
  subst e
  exact fun H locs ls hP hD hS hl => lv_lsub C.1.1 C.1.2.1 d  (t H locs ls hP hD hS hl)
theorem j_lmul {x y : Int64} (C : Cx τ κ cc own Ts rm nL) (d : decode cc pc = .ok (.lmul, 1)) (pc' : Nat) (e : pc + 1 = pc')  (t : J τ κ k n ws lv pc' (.long (x * y) :: st)) : J τ κ k n ws lv pc (.long y :: .long x :: st) := by
  subst e
  exact fun H locs ls hP hD hS hl => lv_lmul C.1.1 C.1.2.1 d  (t H locs ls hP hD hS hl)
theorem j_land {x y : Int64} (C : Cx τ κ cc own Ts rm nL) (d : decode cc pc = .ok (.land, 1)) (pc' : Nat) (e : pc + 1 = pc')  (t : J τ κ k n ws lv pc' (.long (x &&& y) :: st)) : J τ κ k n ws lv pc (.long y :: .long x :: st) := by
  subst e
  exact fun H locs ls hP hD hS hl => lv_land C.1.1 C.1.2.1 d  (t H locs ls hP hD hS hl)
theorem j_lor {x y : Int64} (C : Cx τ κ cc own Ts rm nL) (d : decode cc pc = .ok (.lor, 1)) (pc' : Nat) (e : pc + 1 = pc')  (t : J τ κ k n ws lv pc' (.long (x ||| y) :: st)) : J τ κ k n ws lv pc (.long y :: .long x :: st) := by
  subst e
  exact fun H locs ls hP hD hS hl => lv_lor C.1.1 C.1.2.1 d  (t H locs ls hP hD hS hl)
theorem j_idiv {x y : Int32} (C : Cx τ κ cc own Ts rm nL) (d : decode cc pc = .ok (.idiv, 1)) (pc' : Nat) (e : pc + 1 = pc') (h : ¬ y = 0) (t : J τ κ k n ws lv pc' (.int (x / y) :: st)) : J τ κ k n ws lv pc (.int y :: .int x :: st) := by
  subst e
  exact fun H locs ls hP hD hS hl => lv_idiv C.1.1 C.1.2.1 d h (t H locs ls hP hD hS hl)
theorem j_irem {x y : Int32} (C : Cx τ κ cc own Ts rm nL) (d : decode cc pc = .ok (.irem, 1)) (pc' : Nat) (e : pc + 1 = pc') (h : ¬ y = 0) (t : J τ κ k n ws lv pc' (.int (x - x / y * y) :: st)) : J τ κ k n ws lv pc (.int y :: .int x :: st) := by
  subst e
  exact fun H locs ls hP hD hS hl => lv_irem C.1.1 C.1.2.1 d h (t H locs ls hP hD hS hl)
theorem j_ldiv {x y : Int64} (C : Cx τ κ cc own Ts rm nL) (d : decode cc pc = .ok (.ldiv, 1)) (pc' : Nat) (e : pc + 1 = pc') (h : ¬ y = 0) (t : J τ κ k n ws lv pc' (.long (x / y) :: st)) : J τ κ k n ws lv pc (.long y :: .long x :: st) := by
  subst e
  exact fun H locs ls hP hD hS hl => lv_ldiv C.1.1 C.1.2.1 d h (t H locs ls hP hD hS hl)
theorem j_lrem {x y : Int64} (C : Cx τ κ cc own Ts rm nL) (d : decode cc pc = .ok (.lrem, 1)) (pc' : Nat) (e : pc + 1 = pc') (h : ¬ y = 0) (t : J τ κ k n ws lv pc' (.long (x - x / y * y) :: st)) : J τ κ k n ws lv pc (.long y :: .long x :: st) := by
  subst e
  exact fun H locs ls hP hD hS hl => lv_lrem C.1.1 C.1.2.1 d h (t H locs ls hP hD hS hl)
theorem j_ineg {x : Int32} (C : Cx τ κ cc own Ts rm nL) (d : decode cc pc = .ok (.ineg, 1)) (pc' : Nat) (e : pc + 1 = pc')  (t : J τ κ k n ws lv pc' (.int (-x) :: st)) : J τ κ k n ws lv pc (.int x :: st) := by
  subst e
  exact fun H locs ls hP hD hS hl => lv_ineg C.1.1 C.1.2.1 d  (t H locs ls hP hD hS hl)
theorem j_iushr {x y : Int32} (C : Cx τ κ cc own Ts rm nL) (d : decode cc pc = .ok (.iushr, 1)) (pc' : Nat) (e : pc + 1 = pc')  (t : J τ κ k n ws lv pc' (.int ((x.toUInt32 >>> (y.toUInt32 &&& Int32.toUInt32 31)).toInt32) :: st)) : J τ κ k n ws lv pc (.int y :: .int x :: st) := by
  subst e
  exact fun H locs ls hP hD hS hl => lv_iushr C.1.1 C.1.2.1 d rfl (t H locs ls hP hD hS hl)
theorem j_lushr {x : Int64} {y : Int32} (C : Cx τ κ cc own Ts rm nL) (d : decode cc pc = .ok (.lushr, 1)) (pc' : Nat) (e : pc + 1 = pc')  (t : J τ κ k n ws lv pc' (.long ((x.toUInt64 >>> (y.toInt64.toUInt64 &&& Int64.toUInt64 63)).toInt64) :: st)) : J τ κ k n ws lv pc (.int y :: .long x :: st) := by
  subst e
  exact fun H locs ls hP hD hS hl => lv_lushr C.1.1 C.1.2.1 d rfl (t H locs ls hP hD hS hl)
theorem j_lshl {x : Int64} {y : Int32} (C : Cx τ κ cc own Ts rm nL) (d : decode cc pc = .ok (.lshl, 1)) (pc' : Nat) (e : pc + 1 = pc')  (t : J τ κ k n ws lv pc' (.long (x <<< (y.toInt64 &&& 63)) :: st)) : J τ κ k n ws lv pc (.int y :: .long x :: st) := by
  subst e
  exact fun H locs ls hP hD hS hl => lv_lshl C.1.1 C.1.2.1 d rfl (t H locs ls hP hD hS hl)
theorem j_lshr {x : Int64} {y : Int32} (C : Cx τ κ cc own Ts rm nL) (d : decode cc pc = .ok (.lshr, 1)) (pc' : Nat) (e : pc + 1 = pc')  (t : J τ κ k n ws lv pc' (.long (x >>> (y.toInt64 &&& 63)) :: st)) : J τ κ k n ws lv pc (.int y :: .long x :: st) := by
  subst e
  exact fun H locs ls hP hD hS hl => lv_lshr C.1.1 C.1.2.1 d rfl (t H locs ls hP hD hS hl)
theorem j_i2l {x : Int32} (C : Cx τ κ cc own Ts rm nL) (d : decode cc pc = .ok (.i2l, 1)) (pc' : Nat) (e : pc + 1 = pc')  (t : J τ κ k n ws lv pc' (.long x.toInt64 :: st)) : J τ κ k n ws lv pc (.int x :: st) := by
  subst e
  exact fun H locs ls hP hD hS hl => lv_i2l C.1.1 C.1.2.1 d rfl (t H locs ls hP hD hS hl)
theorem j_l2i {x : Int64} (C : Cx τ κ cc own Ts rm nL) (d : decode cc pc = .ok (.l2i, 1)) (pc' : Nat) (e : pc + 1 = pc')  (t : J τ κ k n ws lv pc' (.int x.toInt32 :: st)) : J τ κ k n ws lv pc (.long x :: st) := by
  subst e
  exact fun H locs ls hP hD hS hl => lv_l2i C.1.1 C.1.2.1 d rfl (t H locs ls hP hD hS hl)
theorem j_i2b {x : Int32} (C : Cx τ κ cc own Ts rm nL) (d : decode cc pc = .ok (.i2b, 1)) (pc' : Nat) (e : pc + 1 = pc')  (t : J τ κ k n ws lv pc' (.int x.toInt8.toInt32 :: st)) : J τ κ k n ws lv pc (.int x :: st) := by
  subst e
  exact fun H locs ls hP hD hS hl => lv_i2b C.1.1 C.1.2.1 d rfl (t H locs ls hP hD hS hl)
theorem j_i2s {x : Int32} (C : Cx τ κ cc own Ts rm nL) (d : decode cc pc = .ok (.i2s, 1)) (pc' : Nat) (e : pc + 1 = pc')  (t : J τ κ k n ws lv pc' (.int x.toInt16.toInt32 :: st)) : J τ κ k n ws lv pc (.int x :: st) := by
  subst e
  exact fun H locs ls hP hD hS hl => lv_i2s C.1.1 C.1.2.1 d rfl (t H locs ls hP hD hS hl)
theorem j_i2c {x : Int32} (C : Cx τ κ cc own Ts rm nL) (d : decode cc pc = .ok (.i2c, 1)) (pc' : Nat) (e : pc + 1 = pc')  (t : J τ κ k n ws lv pc' (.int (x.toUInt32 % 65536).toInt32 :: st)) : J τ κ k n ws lv pc (.int x :: st) := by
  subst e
  exact fun H locs ls hP hD hS hl => lv_i2c C.1.1 C.1.2.1 d rfl (t H locs ls hP hD hS hl)
theorem j_lcmp {x y : Int64} (C : Cx τ κ cc own Ts rm nL) (d : decode cc pc = .ok (.lcmp, 1)) (pc' : Nat) (e : pc + 1 = pc')  (t : J τ κ k n ws lv pc' (.int (lg_cmp x y) :: st)) : J τ κ k n ws lv pc (.long y :: .long x :: st) := by
  subst e
  exact fun H locs ls hP hD hS hl => W.lcmp C.1.1 C.1.2.1 d  (t H locs ls hP hD hS hl)
theorem j_dup {v : Value} (C : Cx τ κ cc own Ts rm nL) (d : decode cc pc = .ok (.dup, 1)) (pc' : Nat) (e : pc + 1 = pc') (hv : v.category = 1) (t : J τ κ k n ws lv pc' (v :: v :: st)) : J τ κ k n ws lv pc (v :: st) := by
  subst e
  exact fun H locs ls hP hD hS hl => lv_dup C.1.1 C.1.2.1 d hv (t H locs ls hP hD hS hl)
theorem j_pop {v : Value} (C : Cx τ κ cc own Ts rm nL) (d : decode cc pc = .ok (.pop, 1)) (pc' : Nat) (e : pc + 1 = pc') (hv : v.category = 1) (t : J τ κ k n ws lv pc' (st)) : J τ κ k n ws lv pc (v :: st) := by
  subst e
  exact fun H locs ls hP hD hS hl => lv_pop C.1.1 C.1.2.1 d hv (t H locs ls hP hD hS hl)
theorem j_dup2 {v w : Value} (C : Cx τ κ cc own Ts rm nL) (d : decode cc pc = .ok (.dup2, 1)) (pc' : Nat) (e : pc + 1 = pc') (hv : v.category = 1) (hw : w.category = 1) (t : J τ κ k n ws lv pc' (v :: w :: v :: w :: st)) : J τ κ k n ws lv pc (v :: w :: st) := by
  subst e
  exact fun H locs ls hP hD hS hl => lv_dup2_11 C.1.1 C.1.2.1 d hv hw (t H locs ls hP hD hS hl)
theorem j_goto {off : Int} (C : Cx τ κ cc own Ts rm nL) (d : decode cc pc = .ok (.goto off, 3)) (tgt : Nat) (h : (pc : Int) + off = (tgt : Int)) (t : J τ κ k n ws lv tgt st) : J τ κ k n ws lv pc st := fun H locs ls hP hD hS hl => lv_goto C.1.1 C.1.2.1 d h (t H locs ls hP hD hS hl)
theorem j_if_eq {x : Int32} {off : Int} (C : Cx τ κ cc own Ts rm nL) (d : decode cc pc = .ok (.ifCond .eq off, 3)) (tgt : Nat) (h : (pc : Int) + off = (tgt : Int)) (pc' : Nat) (e : pc + 3 = pc') (kt : (x = 0) → J τ κ k n ws lv tgt st) (kf : ¬ (x = 0) → J τ κ k n ws lv pc' st) : J τ κ k n ws lv pc (.int x :: st) := by
  subst e
  exact fun H locs ls hP hD hS hl => lv_if_eq C.1.1 C.1.2.1 d h (fun c => kt c H locs ls hP hD hS hl) (fun c => kf c H locs ls hP hD hS hl)
theorem j_if_ne {x : Int32} {off : Int} (C : Cx τ κ cc own Ts rm nL) (d : decode cc pc = .ok (.ifCond .ne off, 3)) (tgt : Nat) (h : (pc : Int) + off = (tgt : Int)) (pc' : Nat) (e : pc + 3 = pc') (kt : ¬ (x = 0) → J τ κ k n ws lv tgt st) (kf : (x = 0) → J τ κ k n ws lv pc' st) : J τ κ k n ws lv pc (.int x :: st) := by
  subst e
  exact fun H locs ls hP hD hS hl => lv_if_ne C.1.1 C.1.2.1 d h (fun c => kt c H locs ls hP hD hS hl) (fun c => kf c H locs ls hP hD hS hl)
theorem j_if_lt {x : Int32} {off : Int} (C : Cx τ κ cc own Ts rm nL) (d : decode cc pc = .ok (.ifCond .lt off, 3)) (tgt : Nat) (h : (pc : Int) + off = (tgt : Int)) (pc' : Nat) (e : pc + 3 = pc') (kt : (x < 0) → J τ κ k n ws lv tgt st) (kf : ¬ (x < 0) → J τ κ k n ws lv pc' st) : J τ κ k n ws lv pc (.int x :: st) := by
  subst e
  exact fun H locs ls hP hD hS hl => lv_if_lt C.1.1 C.1.2.1 d h (fun c => kt c H locs ls hP hD hS hl) (fun c => kf c H locs ls hP hD hS hl)
theorem j_if_ge {x : Int32} {off : Int} (C : Cx τ κ cc own Ts rm nL) (d : decode cc pc = .ok (.ifCond .ge off, 3)) (tgt : Nat) (h : (pc : Int) + off = (tgt : Int)) (pc' : Nat) (e : pc + 3 = pc') (kt : (0 ≤ x) → J τ κ k n ws lv tgt st) (kf : ¬ (0 ≤ x) → J τ κ k n ws lv pc' st) : J τ κ k n ws lv pc (.int x :: st) := by
  subst e
  exact fun H locs ls hP hD hS hl => lv_if_ge C.1.1 C.1.2.1 d h (fun c => kt c H locs ls hP hD hS hl) (fun c => kf c H locs ls hP hD hS hl)
theorem j_if_gt {x : Int32} {off : Int} (C : Cx τ κ cc own Ts rm nL) (d : decode cc pc = .ok (.ifCond .gt off, 3)) (tgt : Nat) (h : (pc : Int) + off = (tgt : Int)) (pc' : Nat) (e : pc + 3 = pc') (kt : (0 < x) → J τ κ k n ws lv tgt st) (kf : ¬ (0 < x) → J τ κ k n ws lv pc' st) : J τ κ k n ws lv pc (.int x :: st) := by
  subst e
  exact fun H locs ls hP hD hS hl => lv_if_gt C.1.1 C.1.2.1 d h (fun c => kt c H locs ls hP hD hS hl) (fun c => kf c H locs ls hP hD hS hl)
theorem j_if_le {x : Int32} {off : Int} (C : Cx τ κ cc own Ts rm nL) (d : decode cc pc = .ok (.ifCond .le off, 3)) (tgt : Nat) (h : (pc : Int) + off = (tgt : Int)) (pc' : Nat) (e : pc + 3 = pc') (kt : (x ≤ 0) → J τ κ k n ws lv tgt st) (kf : ¬ (x ≤ 0) → J τ κ k n ws lv pc' st) : J τ κ k n ws lv pc (.int x :: st) := by
  subst e
  exact fun H locs ls hP hD hS hl => lv_if_le C.1.1 C.1.2.1 d h (fun c => kt c H locs ls hP hD hS hl) (fun c => kf c H locs ls hP hD hS hl)
theorem j_icmp_eq {x y : Int32} {off : Int} (C : Cx τ κ cc own Ts rm nL) (d : decode cc pc = .ok (.if_icmp .eq off, 3)) (tgt : Nat) (h : (pc : Int) + off = (tgt : Int)) (pc' : Nat) (e : pc + 3 = pc') (kt : (x = y) → J τ κ k n ws lv tgt st) (kf : ¬ (x = y) → J τ κ k n ws lv pc' st) : J τ κ k n ws lv pc (.int y :: .int x :: st) := by
  subst e
  exact fun H locs ls hP hD hS hl => lv_icmp_eq C.1.1 C.1.2.1 d h (fun c => kt c H locs ls hP hD hS hl) (fun c => kf c H locs ls hP hD hS hl)
theorem j_icmp_ne {x y : Int32} {off : Int} (C : Cx τ κ cc own Ts rm nL) (d : decode cc pc = .ok (.if_icmp .ne off, 3)) (tgt : Nat) (h : (pc : Int) + off = (tgt : Int)) (pc' : Nat) (e : pc + 3 = pc') (kt : ¬ (x = y) → J τ κ k n ws lv tgt st) (kf : (x = y) → J τ κ k n ws lv pc' st) : J τ κ k n ws lv pc (.int y :: .int x :: st) := by
  subst e
  exact fun H locs ls hP hD hS hl => lv_icmp_ne C.1.1 C.1.2.1 d h (fun c => kt c H locs ls hP hD hS hl) (fun c => kf c H locs ls hP hD hS hl)
theorem j_icmp_lt {x y : Int32} {off : Int} (C : Cx τ κ cc own Ts rm nL) (d : decode cc pc = .ok (.if_icmp .lt off, 3)) (tgt : Nat) (h : (pc : Int) + off = (tgt : Int)) (pc' : Nat) (e : pc + 3 = pc') (kt : (x < y) → J τ κ k n ws lv tgt st) (kf : ¬ (x < y) → J τ κ k n ws lv pc' st) : J τ κ k n ws lv pc (.int y :: .int x :: st) := by
  subst e
  exact fun H locs ls hP hD hS hl => lv_icmp_lt C.1.1 C.1.2.1 d h (fun c => kt c H locs ls hP hD hS hl) (fun c => kf c H locs ls hP hD hS hl)
theorem j_icmp_ge {x y : Int32} {off : Int} (C : Cx τ κ cc own Ts rm nL) (d : decode cc pc = .ok (.if_icmp .ge off, 3)) (tgt : Nat) (h : (pc : Int) + off = (tgt : Int)) (pc' : Nat) (e : pc + 3 = pc') (kt : (y ≤ x) → J τ κ k n ws lv tgt st) (kf : ¬ (y ≤ x) → J τ κ k n ws lv pc' st) : J τ κ k n ws lv pc (.int y :: .int x :: st) := by
  subst e
  exact fun H locs ls hP hD hS hl => lv_icmp_ge C.1.1 C.1.2.1 d h (fun c => kt c H locs ls hP hD hS hl) (fun c => kf c H locs ls hP hD hS hl)
theorem j_icmp_gt {x y : Int32} {off : Int} (C : Cx τ κ cc own Ts rm nL) (d : decode cc pc = .ok (.if_icmp .gt off, 3)) (tgt : Nat) (h : (pc : Int) + off = (tgt : Int)) (pc' : Nat) (e : pc + 3 = pc') (kt : (y < x) → J τ κ k n ws lv tgt st) (kf : ¬ (y < x) → J τ κ k n ws lv pc' st) : J τ κ k n ws lv pc (.int y :: .int x :: st) := by
  subst e
  exact fun H locs ls hP hD hS hl => lv_icmp_gt C.1.1 C.1.2.1 d h (fun c => kt c H locs ls hP hD hS hl) (fun c => kf c H locs ls hP hD hS hl)
theorem j_icmp_le {x y : Int32} {off : Int} (C : Cx τ κ cc own Ts rm nL) (d : decode cc pc = .ok (.if_icmp .le off, 3)) (tgt : Nat) (h : (pc : Int) + off = (tgt : Int)) (pc' : Nat) (e : pc + 3 = pc') (kt : (x ≤ y) → J τ κ k n ws lv tgt st) (kf : ¬ (x ≤ y) → J τ κ k n ws lv pc' st) : J τ κ k n ws lv pc (.int y :: .int x :: st) := by
  subst e
  exact fun H locs ls hP hD hS hl => lv_icmp_le C.1.1 C.1.2.1 d h (fun c => kt c H locs ls hP hD hS hl) (fun c => kf c H locs ls hP hD hS hl)
theorem j_ldc {index : Nat} {v : Int32} (C : Cx τ κ cc own Ts rm nL) (d : decode cc pc = .ok (.ldc index, 2)) (pc' : Nat) (e : pc + 2 = pc') (hc : Cond.constant own index v ∈ Ts) (t : J τ κ k n ws lv pc' (.int v :: st)) : J τ κ k n ws lv pc (st) := by
  subst e
  exact fun H locs ls hP hD hS hl => lv_ldc C.1.1 C.1.2.1 C.1.2.2.2.1 (C.1.2.2.2.2 _ hc) d (t H locs ls hP hD hS hl)
theorem j_ldcw {index : Nat} {v : Int32} (C : Cx τ κ cc own Ts rm nL) (d : decode cc pc = .ok (.ldc_w index, 3)) (pc' : Nat) (e : pc + 3 = pc') (hc : Cond.constant own index v ∈ Ts) (t : J τ κ k n ws lv pc' (.int v :: st)) : J τ κ k n ws lv pc (st) := by
  subst e
  exact fun H locs ls hP hD hS hl => lv_ldcw C.1.1 C.1.2.1 C.1.2.2.2.1 (C.1.2.2.2.2 _ hc) d (t H locs ls hP hD hS hl)
theorem j_ldc2 {index : Nat} {v : Int64} (C : Cx τ κ cc own Ts rm nL) (d : decode cc pc = .ok (.ldc2_w index, 3)) (pc' : Nat) (e : pc + 3 = pc') (hc : Cond.constantLong own index v ∈ Ts) (t : J τ κ k n ws lv pc' (.long v :: st)) : J τ κ k n ws lv pc (st) := by
  subst e
  exact fun H locs ls hP hD hS hl => lv_ldc2 C.1.1 C.1.2.1 C.1.2.2.2.1 (C.1.2.2.2.2 _ hc) d (t H locs ls hP hD hS hl)
theorem j_vi {x v : Int32} (h : x = v) (t : J τ κ k n ws lv pc (.int v :: st)) : J τ κ k n ws lv pc (.int x :: st) := by rw [h]; exact t
theorem j_nmi {x : Int32} (t : ∀ y : Int32, y = x → J τ κ k n ws lv pc (.int y :: st)) : J τ κ k n ws lv pc (.int x :: st) := t x rfl
theorem j_nml {x : Int64} (t : ∀ y : Int64, y = x → J τ κ k n ws lv pc (.long y :: st)) : J τ κ k n ws lv pc (.long x :: st) := t x rfl
/-- fewer locals, in another order -/
theorem j_lv (ks : List Nat) (lv' : List (Nat × Value)) (h : lv_pick lv ks = lv') (t : J τ κ k n ws lv' pc st) : J τ κ k n ws lv pc st := fun H locs ls hP hD hS hl => t H locs ls hP hD hS (lv_sub hl ks h)
theorem j_get {a : Nat} {ref Cn : String} {T : u_T} {N ci index : Nat} (C : Cx τ κ cc own Ts rm nL) (d : decode cc pc = .ok (.getfield index, 3)) (pc' : Nat) (e : pc + 3 = pc') (hin : ∀ w ∈ u_ws Cn T N, w ∈ Ts) (q0 : Nat) {fs : List Value} (he : ws[q0]? = some (a, .inr (ci, fs))) (hc : vwCl[ci]? = some (Cn, T, N)) (f : Nat) (hk : f < N) (hr : (T f).1 = ref) (hl0 : Cond.fieldLink own index ref (T f).2.1 (T f).2.2.1 ∈ Ts) {v : Value} (hv : fs[f]? = some v) (t : J τ κ k n ws lv pc' (v :: st)) : J τ κ k n ws lv pc (.ref a :: st) := by
  subst e
  subst hr
  exact fun H locs ls hP hD hS hl => va_get C.1.1 C.1.2.1 C.1.2.2.2.2 hin C.1.2.2.2.1 C.2.1 hP q0 he hc f hk (C.1.2.2.2.2 _ hl0) (fun _ h => h) hv d (t H locs ls hP hD hS hl)
theorem j_put {a : Nat} {ref Cn : String} {T : u_T} {N ci index : Nat} (C : Cx τ κ cc own Ts rm nL) (d : decode cc pc = .ok (.putfield index, 3)) (pc' : Nat) (e : pc + 3 = pc') (hin : ∀ w ∈ u_ws Cn T N, w ∈ Ts) {ty0 : Nat → FieldType} (hty : ∀ k, k < N → parseFieldDescriptor (T k).2.2.1 = some (ty0 k)) (hnm : ∀ a, a < N → ∀ b, b < N → a ≠ b → (T a).2.1 ≠ (T b).2.1) (q0 : Nat) {fs : List Value} (he : ws[q0]? = some (a, .inr (ci, fs))) (hc : vwCl[ci]? = some (Cn, T, N)) (f : Nat) (hk : f < N) (hr : (T f).1 = ref) (hl0 : Cond.fieldLink own index ref (T f).2.1 (T f).2.2.1 ∈ Ts) (hfin : (T f).2.2.2 = false) {v : Value} (hn : narrow (ty0 f) v = v) (hfit : fits (ty0 f) v = true) (hl : f < fs.length) (ws' : va_W) (hw : ws.set q0 (a, .inr (ci, fs.set f v)) = ws') (t : J τ κ k n ws' lv pc' st) : J τ κ k n ws lv pc (v :: .ref a :: st) := by
  subst e
  subst hr
  subst hw
  exact fun H locs ls hP hD hS hlv => va_put C.1.1 C.1.2.1 C.1.2.2.2.2 hin ty0 hty hnm C.1.2.2.2.1 C.2.1 hP hD hS q0 he hc f hk (C.1.2.2.2.2 _ hl0) (fun _ h => h) hfin (hty f hk) hn hfit hl d (fun H locs hP hD hS => t H locs ls hP hD hS hlv)
theorem j_putF {a : Nat} {Cn : String} {T : u_T} {N ci index : Nat} (C : Cx τ κ cc own Ts rm nL) (d : decode cc pc = .ok (.putfield index, 3)) (pc' : Nat) (e : pc + 3 = pc') (hin : ∀ w ∈ u_ws Cn T N, w ∈ Ts) {ty0 : Nat → FieldType} (hty : ∀ k, k < N → parseFieldDescriptor (T k).2.2.1 = some (ty0 k)) (hnm : ∀ a, a < N → ∀ b, b < N → a ≠ b → (T a).2.1 ≠ (T b).2.1) (hi : (x_t κ).name = "<init>") (q0 : Nat) {fs : List Value} (he : ws[q0]? = some (a, .inr (ci, fs))) (hc : vwCl[ci]? = some (Cn, T, N)) (f : Nat) (hk : f < N) (hr : (T f).1 = own) (hl0 : Cond.fieldLink own index own (T f).2.1 (T f).2.2.1 ∈ Ts) (hfin : (T f).2.2.2 = true) {v : Value} (hn : narrow (ty0 f) v = v) (hfit : fits (ty0 f) v = true) (hl : f < fs.length) (ws' : va_W) (hw : ws.set q0 (a, .inr (ci, fs.set f v)) = ws') (t : J τ κ k n ws' lv pc' st) : J τ κ k n ws lv pc (v :: .ref a :: st) := by
  subst e
  subst hr
  subst hw
  exact fun H locs ls hP hD hS hlv => va_putF C.1.1 C.1.2.1 C.1.2.2.2.2 hin ty0 hty hnm C.1.2.2.2.1 C.2.1 hP hD hS q0 he hc f hk (C.1.2.2.2.2 _ hl0) (fun _ h => h) hfin hi rfl (hty f hk) hn hfit hl d (fun H locs hP hD hS => t H locs ls hP hD hS hlv)
theorem j_iald {a : Nat} (C : Cx τ κ cc own Ts rm nL) (d : decode cc pc = .ok (.iaload, 1)) (pc' : Nat) (e : pc + 1 = pc') (q0 : Nat) {N : Nat} {f : Nat → Int32} (ha : ws[q0]? = some (a, .inl (τ.2.2.1 0, N, .inl f))) {i : Int32} (hi : vp_in i N) (j : Nat) (hj : i.toNatClampNeg = j) (t : J τ κ k n ws lv pc' (.int (f j) :: st)) : J τ κ k n ws lv pc (.int i :: .ref a :: st) := by
  subst e; subst hj
  exact fun H locs ls hP hD hS hl => va_iald C.1.1 C.1.2.1 C.2.1 hP q0 0 ha rfl hi d (t H locs ls hP hD hS hl)
theorem j_ialdv {a : Nat} (C : Cx τ κ cc own Ts rm nL) (d : decode cc pc = .ok (.iaload, 1)) (pc' : Nat) (e : pc + 1 = pc') (q0 : Nat) {N : Nat} {f : Nat → Int32} (ha : ws[q0]? = some (a, .inl (τ.2.2.1 0, N, .inl f))) {i : Int32} (hi : vp_in i N) (j : Nat) (hj : i.toNatClampNeg = j) (v : Int32) (hv : f j = v) (t : J τ κ k n ws lv pc' (.int v :: st)) : J τ κ k n ws lv pc (.int i :: .ref a :: st) := by
  subst hv
  exact j_iald C d pc' e q0 ha hi j hj t
theorem j_lald {a : Nat} (C : Cx τ κ cc own Ts rm nL) (d : decode cc pc = .ok (.laload, 1)) (pc' : Nat) (e : pc + 1 = pc') (q0 : Nat) {N : Nat} {f : Nat → Int64} (ha : ws[q0]? = some (a, .inl (τ.2.2.1 1, N, .inr (.inl f)))) {i : Int32} (hi : vp_in i N) (j : Nat) (hj : i.toNatClampNeg = j) (t : J τ κ k n ws lv pc' (.long (f j) :: st)) : J τ κ k n ws lv pc (.int i :: .ref a :: st) := by
  subst e; subst hj
  exact fun H locs ls hP hD hS hl => va_lald C.1.1 C.1.2.1 C.2.1 hP q0 1 ha rfl hi d (t H locs ls hP hD hS hl)
theorem j_iast {a : Nat} (C : Cx τ κ cc own Ts rm nL) (d : decode cc pc = .ok (.iastore, 1)) (pc' : Nat) (e : pc + 1 = pc') (q0 : Nat) {N : Nat} {f : Nat → Int32} (ha : ws[q0]? = some (a, .inl (τ.2.2.1 0, N, .inl f))) {i x : Int32} (hi : vp_in i N) (j : Nat) (hj : i.toNatClampNeg = j) (ws' : va_W) (hw : ws.set q0 (a, .inl (τ.2.2.1 0, N, .inl (upd f j x))) = ws') (t : J τ κ k n ws' lv pc' st) : J τ κ k n ws lv pc (.int x :: .int i :: .ref a :: st) := by
  subst e; subst hj
  subst hw
  exact fun H locs ls hP hD hS hl => va_iast C.1.1 C.1.2.1 C.2.1 hP hD hS q0 0 ha rfl hi d (fun H locs hP hD hS => t H locs ls hP hD hS hl)
theorem j_last {a : Nat} (C : Cx τ κ cc own Ts rm nL) (d : decode cc pc = .ok (.lastore, 1)) (pc' : Nat) (e : pc + 1 = pc') (q0 : Nat) {N : Nat} {f : Nat → Int64} (ha : ws[q0]? = some (a, .inl (τ.2.2.1 1, N, .inr (.inl f)))) {i : Int32} {x : Int64} (hi : vp_in i N) (j : Nat) (hj : i.toNatClampNeg = j) (ws' : va_W) (hw : ws.set q0 (a, .inl (τ.2.2.1 1, N, .inr (.inl (vp_updL f j x)))) = ws') (t : J τ κ k n ws' lv pc' st) : J τ κ k n ws lv pc (.long x :: .int i :: .ref a :: st) := by
  subst e; subst hj
  subst hw
  exact fun H locs ls hP hD hS hl => va_last C.1.1 C.1.2.1 C.2.1 hP hD hS q0 1 ha rfl hi d (fun H locs hP hD hS => t H locs ls hP hD hS hl)
theorem j_aald {a t0 : Nat} {Cn : String} (C : Cx τ κ cc own Ts rm nL) (d : decode cc pc = .ok (.aaload, 1)) (pc' : Nat) (e : pc + 1 = pc') (q0 : Nat) {cA : ClassId} {N : Nat} {f : Nat → Option Nat} (ha : ws[q0]? = some (a, .inl (cA, N, .inr (.inr (.inr (.inr f)))))) (ht : (tyX τ)[t0]? = some (cA, .object Cn)) {i : Int32} (hi : vp_in i N) {b : Nat} (hb : f i.toNatClampNeg = some b) (t : J τ κ k n ws lv pc' (.ref b :: st)) : J τ κ k n ws lv pc (.int i :: .ref a :: st) := by
  subst e
  exact fun H locs ls hP hD hS hl => va_aldq C.1.1 C.1.2.1 C.2.1 hP q0 t0 ha ht hi d (by rw [hb]; exact t H locs ls hP hD hS hl)
/-- a static row of numbers, by its place in saT -/
theorem j_gets {ref nm ds : String} {index : Nat} (C : Cx τ κ cc own Ts rm nL) (d : decode cc pc = .ok (.getstatic index, 3)) (pc' : Nat) (e : pc + 3 = pc') (i : Nat) {q : String × String × List Int32} (hq : saT[i]? = some q) (h1 : q.1 = ref) (h2 : q.2.1 = nm) (h3 : "[I" = ds) (hl0 : Cond.fieldLink own index ref nm ds ∈ Ts) (t : J τ κ k n ws lv pc' (.ref (τ.2.2.2 i) :: st)) : J τ κ k n ws lv pc st := by
  subst e; subst h1; subst h2; subst h3
  exact fun H locs ls hP hD hS hl => va_gets C.1.1 C.1.2.1 (C.2.2.2.1.2.2.1 i q hq).1 hS C.1.2.2.2.1 (C.1.2.2.2.2 _ hl0) (fun _ h => h) d (t H locs ls hP hD hS hl)
theorem j_getsN {ref nm ds host : String} {index : Nat} (C : Cx τ κ cc own Ts rm nL) (d : decode cc pc = .ok (.getstatic index, 3)) (pc' : Nat) (e : pc + 3 = pc') (i : Nat) {q : String × String × List Int32} (hq : saT[i]? = some q) (h1 : q.1 = ref) (h2 : q.2.1 = nm) (h3 : "[I" = ds) (hl0 : (own, index, ref, nm, ds, host) ∈ nwF) (t : J τ κ k n ws lv pc' (.ref (τ.2.2.2 i) :: st)) : J τ κ k n ws lv pc st := by
  subst e; subst h1; subst h2; subst h3
  exact fun H locs ls hP hD hS hl => va_getsN C.1.1 C.1.2.1 (C.2.2.2.1.2.2.1 i q hq).1 hS C.1.2.2.2.1 (va_Nw.use rfl (C.2.2.2.1.2.1 _ hl0)) (fun _ h => h) d (t H locs ls hP hD hS hl)
def saG (j i : Nat) : Int32 := ((saT[j]?).getD ("", "", [])).2.2.getD i 0
theorem j_sald (C : Cx τ κ cc own Ts rm nL) (d : decode cc pc = .ok (.iaload, 1)) (pc' : Nat) (e : pc + 1 = pc') (j : Nat) {q : String × String × List Int32} (hq : saT[j]? = some q) {i : Int32} (hi : vp_in i q.2.2.length) (m : Nat) (hm : i.toNatClampNeg = m) (t : J τ κ k n ws lv pc' (.int (saG j m) :: st)) : J τ κ k n ws lv pc (.int i :: .ref (τ.2.2.2 j) :: st) := by
  subst e; subst hm
  have e : saG j i.toNatClampNeg = q.2.2.getD i.toNatClampNeg 0 := by simp only [saG, hq]; rfl
  rw [e] at t
  exact fun H locs ls hP hD hS hl => va_ti C.1.1 C.1.2.1 (C.2.2.2.1.2.2.1 j q hq).2 hS hi rfl d (t H locs ls hP hD hS hl)
theorem j_slen (C : Cx τ κ cc own Ts rm nL) (d : decode cc pc = .ok (.arraylength, 1)) (pc' : Nat) (e : pc + 1 = pc') (j : Nat) {q : String × String × List Int32} (hq : saT[j]? = some q) {v : Int32} (hv : Int32.ofNat q.2.2.length = v) (t : J τ κ k n ws lv pc' (.int v :: st)) : J τ κ k n ws lv pc (.ref (τ.2.2.2 j) :: st) := by
  subst e
  exact fun H locs ls hP hD hS hl => va_tlen C.1.1 C.1.2.1 (C.2.2.2.1.2.2.1 j q hq).2 hS hv d (t H locs ls hP hD hS hl)
theorem j_tabOut {dflt lo hi : Int} {offs : Array Int} {len : Nat} {x : Int32} (C : Cx τ κ cc own Ts rm nL) (d : decode cc pc = .ok (.tableswitch dflt lo hi offs, len)) (h : x.toInt < lo ∨ hi < x.toInt) (tgt : Nat) (ht : (pc : Int) + dflt = (tgt : Int)) (t : J τ κ k n ws lv tgt st) : J τ κ k n ws lv pc (.int x :: st) := fun H locs ls hP hD hS hl => lv_tableOut C.1.1 C.1.2.1 d h ht (t H locs ls hP hD hS hl)
theorem j_tabIn {dflt lo hi : Int} {offs : Array Int} {len : Nat} {x : Int32} {off : Int} (C : Cx τ κ cc own Ts rm nL) (d : decode cc pc = .ok (.tableswitch dflt lo hi offs, len)) (h1 : ¬ x.toInt < lo) (h2 : ¬ hi < x.toInt) (ho : offs[(x.toInt - lo).toNat]? = some off) (tgt : Nat) (ht : (pc : Int) + off = (tgt : Int)) (t : J τ κ k n ws lv tgt st) : J τ κ k n ws lv pc (.int x :: st) := fun H locs ls hP hD hS hl => lv_tableIn C.1.1 C.1.2.1 d h1 h2 ho ht (t H locs ls hP hD hS hl)
theorem j_lookup {dflt : Int} {ps : Array (Int × Int)} {len : Nat} {x : Int32} {off : Int} (C : Cx τ κ cc own Ts rm nL) (d : decode cc pc = .ok (.lookupswitch dflt ps, len)) (hp : (ps.toList.zip (ps.toList.drop 1)).all (fun (a, next) => a.1 < next.1) = true) (ho : Op.lookupswitch.offset ps.toList dflt x.toInt = off) (tgt : Nat) (ht : (pc : Int) + off = (tgt : Int)) (t : J τ κ k n ws lv tgt st) : J τ κ k n ws lv pc (.int x :: st) := fun H locs ls hP hD hS hl => lv_lookup C.1.1 C.1.2.1 d hp ho ht (t H locs ls hP hD hS hl)
theorem j_mmax {x y : Int32} {index : Nat} (C : Cx τ κ cc own Ts rm nL) (d : decode cc pc = .ok (.invokestatic index, 3)) (pc' : Nat) (e : pc + 3 = pc') (h1 : Cond.methodLink own index Lib.Math.max.name ∈ Ts) (h2 : Cond.static Lib.Math.max.name ∈ Ts) (h3 : Cond.initialized "java/lang/Math" ∈ Ts) (h4 : Cond.code Lib.Math.max.name Lib.Math.max.code 2 (some .int) ∈ Ts) (hf : 1 ≤ rm.frames) (ho : (st.map fun v => v.category).sum + 13 ≤ rm.locals) (hk : k ≤ rm.cells) (hs : n ≤ rm.slots) (t : J τ κ k n ws lv pc' (.int (if x < y then y else x) :: st)) : J τ κ k n ws lv pc (.int y :: .int x :: st) := by
  subst e
  obtain ⟨C1, C2, C3, C4, C5, C6⟩ := C
  subst C5
  exact fun H locs ls hP hD hS hl => va_mmax C1.1 C1.2.1 (by rw [C1.2.2.1, hl.1, C6]) C1.2.2.2.1 (C1.2.2.2.2 _ h1) (C1.2.2.2.2 _ h2) (C1.2.2.2.2 _ h3) (C1.2.2.2.2 _ h4) hf ho hk hs d (t H locs ls hP hD hS hl)
theorem j_mmin {x y : Int32} {index : Nat} (C : Cx τ κ cc own Ts rm nL) (d : decode cc pc = .ok (.invokestatic index, 3)) (pc' : Nat) (e : pc + 3 = pc') (h1 : Cond.methodLink own index Lib.Math.min.name ∈ Ts) (h2 : Cond.static Lib.Math.min.name ∈ Ts) (h3 : Cond.initialized "java/lang/Math" ∈ Ts) (h4 : Cond.code Lib.Math.min.name Lib.Math.min.code 2 (some .int) ∈ Ts) (hf : 1 ≤ rm.frames) (ho : (st.map fun v => v.category).sum + 13 ≤ rm.locals) (hk : k ≤ rm.cells) (hs : n ≤ rm.slots) (t : J τ κ k n ws lv pc' (.int (if y < x then y else x) :: st)) : J τ κ k n ws lv pc (.int y :: .int x :: st) := by
  subst e
  obtain ⟨C1, C2, C3, C4, C5, C6⟩ := C
  subst C5
  exact fun H locs ls hP hD hS hl => va_mmin C1.1 C1.2.1 (by rw [C1.2.2.1, hl.1, C6]) C1.2.2.2.1 (C1.2.2.2.2 _ h1) (C1.2.2.2.2 _ h2) (C1.2.2.2.2 _ h3) (C1.2.2.2.2 _ h4) hf ho hk hs d (t H locs ls hP hD hS hl)
theorem j_mabs {x : Int32} {index : Nat} (C : Cx τ κ cc own Ts rm nL) (d : decode cc pc = .ok (.invokestatic index, 3)) (pc' : Nat) (e : pc + 3 = pc') (h1 : Cond.methodLink own index Lib.Math.abs.name ∈ Ts) (h2 : Cond.static Lib.Math.abs.name ∈ Ts) (h3 : Cond.initialized "java/lang/Math" ∈ Ts) (h4 : Cond.code Lib.Math.abs.name Lib.Math.abs.code 1 (some .int) ∈ Ts) (hf : 1 ≤ rm.frames) (ho : (st.map fun v => v.category).sum + 13 ≤ rm.locals) (hk : k ≤ rm.cells) (hs : n ≤ rm.slots) (t : J τ κ k n ws lv pc' (.int (if 0 ≤ x then x else 0 - x) :: st)) : J τ κ k n ws lv pc (.int x :: st) := by
  subst e
  obtain ⟨C1, C2, C3, C4, C5, C6⟩ := C
  subst C5
  exact fun H locs ls hP hD hS hl => va_mabs C1.1 C1.2.1 (by rw [C1.2.2.1, hl.1, C6]) C1.2.2.2.1 (C1.2.2.2.2 _ h1) (C1.2.2.2.2 _ h2) (C1.2.2.2.2 _ h3) (C1.2.2.2.2 _ h4) hf ho hk hs d (t H locs ls hP hD hS hl)
theorem j_copy {index a0 a : Nat} (C : Cx τ κ cc own Ts rm nL) (d : decode cc pc = .ok (.invokestatic index, 3)) (pc' : Nat) (e : pc + 3 = pc') (h1 : Cond.methodLink own index arraycopyName ∈ Ts) (h2 : Cond.native arraycopyName ∈ Ts) (h3 : Cond.static arraycopyName ∈ Ts) (h4 : Cond.initialized "java/lang/System" ∈ Ts) (q0 q1 : Nat) {n0 n1 : Nat} {f g : Nat → Int32} (ha0 : ws[q0]? = some (a0, .inl (τ.2.2.1 0, n0, .inl f))) (ha1 : ws[q1]? = some (a, .inl (τ.2.2.1 0, n1, .inl g))) {z : Int32} (hz : ¬ z < 0) (hz0 : z.toNatClampNeg ≤ n0) (hz1 : z.toNatClampNeg ≤ n1) (hf : 1 ≤ rm.frames) (ho : (st.map fun v => v.category).sum + (nativeFrameWords "java/lang/System" "arraycopy" 5 + 11) ≤ rm.locals) (m : Nat) (hm : z.toNatClampNeg = m) (ws' : va_W) (hw : ws.set q1 (a, .inl (τ.2.2.1 0, n1, .inl (va_cpy f g 0 0 m))) = ws') (t : J τ κ k n ws' lv pc' st) : J τ κ k n ws lv pc (.int z :: .int 0 :: .ref a :: .int 0 :: .ref a0 :: st) := by
  subst e
  subst hm; subst hw
  obtain ⟨C1, C2, C3, C4, C5, C6⟩ := C
  subst C5
  exact fun H locs ls hP hD hS hl => va_copyi C1.1 C1.2.1 (by rw [C1.2.2.1, hl.1, C6]) C1.2.2.2.1 (C1.2.2.2.2 _ h1) (C1.2.2.2.2 _ h2) (C1.2.2.2.2 _ h3) (C1.2.2.2.2 _ h4) C2 hP hD hS q0 q1 0 0 ha0 ha1 rfl rfl rfl (by decide) (by decide) hz (by show 0 + _ ≤ _; omega) (by show 0 + _ ≤ _; omega) (fun _ _ => rfl) hf ho d (fun H locs hP hD hS => t H locs ls hP hD hS hl)
theorem j_copyS {index a : Nat} (C : Cx τ κ cc own Ts rm nL) (d : decode cc pc = .ok (.invokestatic index, 3)) (pc' : Nat) (e : pc + 3 = pc') (g1 : Cond.methodLink own index arraycopyName ∈ Ts) (g2 : Cond.native arraycopyName ∈ Ts) (g3 : Cond.static arraycopyName ∈ Ts) (g4 : Cond.initialized "java/lang/System" ∈ Ts) (j : Nat) {q : String × String × List Int32} (hq : saT[j]? = some q) (q1 : Nat) {n1 : Nat} {g : Nat → Int32} (ha1 : ws[q1]? = some (a, .inl (τ.2.2.1 0, n1, .inl g))) {z : Int32} (hz : ¬ z < 0) (hz0 : z.toNatClampNeg ≤ q.2.2.length) (hz1 : z.toNatClampNeg ≤ n1) (hf : 1 ≤ rm.frames) (ho : (st.map fun v => v.category).sum + (nativeFrameWords "java/lang/System" "arraycopy" 5 + 11) ≤ rm.locals) (m : Nat) (hm : z.toNatClampNeg = m) (ws' : va_W) (hw : ws.set q1 (a, .inl (τ.2.2.1 0, n1, .inl (va_cpy (saG j) g 0 0 m))) = ws') (t : J τ κ k n ws' lv pc' st) : J τ κ k n ws lv pc (.int z :: .int 0 :: .ref a :: .int 0 :: .ref (τ.2.2.2 j) :: st) := by
  subst e
  subst hm; subst hw
  obtain ⟨C1, C2, C3, C4, C5, C6⟩ := C
  subst C5
  intro H locs ls hP hD hS hl T hT X
  have hz2 : z.toInt = (z.toNatClampNeg : Int) := by
    have hz0 : (0 : Int) ≤ z.toInt := by simpa using Int32.le_iff_toInt_le.mp (Int32.not_lt.mp hz)
    show z.toInt = ((z.toInt.toNat : Nat) : Int)
    omega
  have eG : ∀ i, saG j i = q.2.2.getD i 0 := fun i => by simp only [saG, hq]; rfl
  obtain ⟨scr, hs1, hs2, hs3, hs4, -, hs5, hs7⟩ := (C4.2.2.1 j q hq).2
  have hs5' : ∀ i : Nat, i < q.2.2.length → scr.slots[i]? = some (.int (saG j i)) := fun i hi => by rw [hs5 i hi, eG]
  have hc0 : H[τ.2.2.2 j]? = some scr := by rw [hS.2.1 _ (Array.getElem?_eq_some_iff.mp hs1).1 hs7]; exact hs1
  have hc1 : H[a]? = some (vp_cell (τ.2.2.1 0) (n1, .inl g)) := hP q1 _ ha1
  obtain ⟨hs6, k0, hk0, cm0, hkk0⟩ := hs2
  obtain ⟨-, k1, hk1, cm1, hkk1⟩ := (C2.2 0 (τ.2.2.1 0, .int) rfl).1 n1 (fun j => .int (g j))
  obtain ⟨vm', X', step⟩ := X.arraycopy C1.1 C1.2.2.2.1 (C1.2.2.2.2 _ g1) (C1.2.2.2.2 _ g2) (C1.2.2.2.2 _ g3) (C1.2.2.2.2 _ g4) (src := τ.2.2.2 j) (dst := a) (cs := scr) (cd := vp_cell (τ.2.2.1 0) (n1, .inl g)) (srcPos := 0) (destPos := 0) (n := z) (by rw [hT]; exact hc0) (by rw [hT]; exact hc1)
    hs6 (fun _ h => by cases h) hs3 (fun h => by cases h) hk0 hk1 hkk0 hkk1 (by simp [refKind]) (by decide) (by decide) hz
    (by rw [hz2]; show ¬ (0 : Int) + _ > _; omega)
    (by rw [hz2]; show ¬ (0 : Int) + _ > ((arrV (τ.2.2.1 0) n1 (fun j => .int (g j))).slots.size : Int); rw [arrV_size]; omega)
    (fun vm₁ _ i hi => by
      have e : scr.slots.getD ((0 : Int32).toNatClampNeg + i) .null = .int (saG j i) := by
        show scr.slots.getD (0 + i) .null = _
        rw [Nat.zero_add, Array.getD_eq_getD_getElem?, hs5' _ (by omega)]
        rfl
      refine ⟨?_, ?_⟩
      · rw [e]
        rfl
      · rw [e]
        exact trivial)
    (g := F0 (x_m κ) pc ls (.int z :: .int 0 :: .ref a :: .int 0 :: .ref (τ.2.2.2 j) :: st)) rfl (by rw [C1.2.2.1, hl.1, C6]) (rest := st) rfl (by rw [C1.2.1]; exact d) hf (by show 2 * 0 + _ + _ ≤ _; omega)
  have e1 : copied scr (vp_cell (τ.2.2.1 0) (n1, .inl g)) 0 0 z = vp_cell (τ.2.2.1 0) (n1, .inl (va_cpy (saG j) g 0 0 z.toNatClampNeg)) := va_copiedX (fun z => .int z) scr (τ.2.2.1 0) (saG j) g hs5' (by show 0 + _ ≤ _; omega)
  rw [e1] at X' step
  have hlt : a < H.size := (Array.getElem?_eq_some_iff.mp hc1).1
  have hheap : ((T.setVm vm').setCell a (vp_cell (τ.2.2.1 0) (n1, .inl (va_cpy (saG j) g 0 0 z.toNatClampNeg)))).heap = H.setIfInBounds a (vp_cell (τ.2.2.1 0) (n1, .inl (va_cpy (saG j) g 0 0 z.toNatClampNeg))) := by rw [← hT]; rfl
  have oq : ∀ q : Nat, q ≠ a → (H.setIfInBounds a (vp_cell (τ.2.2.1 0) (n1, .inl (va_cpy (saG j) g 0 0 z.toNatClampNeg))))[q]? = H[q]? := fun q hq => by simp [Array.getElem?_setIfInBounds, Ne.symm hq]
  obtain ⟨t, a1, b1⟩ := t _ _ ls (hP.set hD ha1 (show (H.setIfInBounds a _)[a]? = some _ by simp [Array.getElem?_setIfInBounds, hlt]) oq) (hD.set ha1) ⟨by simp; exact hS.1, fun q g1 g2 => by
      rw [oq q (fun e => g2 (by rw [e]; exact hD.2 q1 _ ha1))]
      exact hS.2.1 q g1 g2, fun q hq => by
      rcases List.mem_append.mp hq with h | h
      · exact hS.2.2 q h
      · obtain ⟨z, -, hz⟩ := List.mem_map.mp h
        rw [← hz]
        exact hD.2 q1 _ ha1⟩ hl _ hheap X'
  exact ⟨t, step t a1, b1⟩
end JROWS
/-- the end: an int or a boolean; a long; nothing -/
def Rt {S : Type} (τ : SX) (κ : KX) (cc : ByteArray) (ty : FieldType) (mkW : S → va_W) (X : Int32 × S) : Prop := narrow ty (.int X.1) = .int X.1 → ∀ (pc : Nat) (lv : List (Nat × Value)), decode cc pc = .ok (.ireturn, 1) → J τ κ 0 0 (mkW X.2) lv pc [.int X.1]
def RtL {S : Type} (τ : SX) (κ : KX) (cc : ByteArray) (mkW : S → va_W) (X : Int64 × S) : Prop := ∀ (pc : Nat) (lv : List (Nat × Value)), decode cc pc = .ok (.lreturn, 1) → J τ κ 0 0 (mkW X.2) lv pc [.long X.1]
def RtV {S : Type} (τ : SX) (κ : KX) (cc : ByteArray) (k n : Nat) (mkW : S → va_W) (X : S) : Prop := ∀ (pc : Nat) (lv : List (Nat × Value)), decode cc pc = .ok (.return_, 1) → J τ κ k n (mkW X) lv pc []
theorem Rt.ret {S : Type} {τ : SX} {κ : KX} {cc : ByteArray} {ty : FieldType} {mkW : S → va_W} {r : Int32} {u : S} (h : Rt τ κ cc ty mkW (r, u)) (hn : narrow ty (.int r) = .int r) {pc : Nat} {lv : List (Nat × Value)} (d : decode cc pc = .ok (.ireturn, 1)) : J τ κ 0 0 (mkW u) lv pc [.int r] := h hn pc lv d
theorem RtL.ret {S : Type} {τ : SX} {κ : KX} {cc : ByteArray} {mkW : S → va_W} {r : Int64} {u : S} (h : RtL τ κ cc mkW (r, u)) {pc : Nat} {lv : List (Nat × Value)} (d : decode cc pc = .ok (.lreturn, 1)) : J τ κ 0 0 (mkW u) lv pc [.long r] := h pc lv d
/-- a contract's start and end -/
def McP (τ : SX) (argv : List Value) (w0 : va_W) (sz : Nat) : Array Value → State → Prop := va_Pc argv (fun U => U.heap.size = sz ∧ va_P τ.2.1 vwCl w0 U.heap ∧ va_K τ.2.1 vwCl (tyX τ) U ∧ va_D (fun _ => True) w0 ∧ GB τ.2.2.2 (va_A w0 sz) U)
def McB {S : Type} (τ : SX) (w0 : va_W) (mkW : S → va_W) (sz : Nat) : S → State → Prop := fun u t => va_P τ.2.1 vwCl (mkW u) t.heap ∧ va_K τ.2.1 vwCl (tyX τ) t ∧ va_D (va_A w0 sz) (mkW u)
def McI {S : Type} (τ : SX) (y : MethodName) (words : List Cond) (rm : Room) (ty : FieldType) (argv : List Value) (w0 : va_W) (mkW : S → va_W) (X : Int32 × S) (sz : Nat) : Prop :=
  Met τ.1 y words rm (McP τ argv w0 sz) (va_Qi (fun r u => X = (r, u) ∧ narrow ty (.int r) = .int r) (McB τ w0 mkW sz) (va_A w0 sz)) 0 0 (va_A w0 sz)
def McL {S : Type} (τ : SX) (y : MethodName) (words : List Cond) (rm : Room) (argv : List Value) (w0 : va_W) (mkW : S → va_W) (X : Int64 × S) (sz : Nat) : Prop :=
  Met τ.1 y words rm (McP τ argv w0 sz) (va_Ql (fun r u => X = (r, u)) (McB τ w0 mkW sz) (va_A w0 sz)) 0 0 (va_A w0 sz)
def McV {S : Type} (τ : SX) (y : MethodName) (words : List Cond) (rm : Room) (argv : List Value) (w0 : va_W) (mkW : S → va_W) (X : S) (k n sz : Nat) : Prop :=
  Met τ.1 y words rm (McP τ argv w0 sz) (va_Qv (fun u => X = u) (McB τ w0 mkW sz) (va_A w0 sz)) k n (va_A w0 sz)
theorem McP.blind {τ : SX} {argv : List Value} {w0 : va_W} {sz : Nat} : FrameBlind (McP τ argv w0 sz) := fun a U g mk q => by
  obtain ⟨q0, q1, qP, qK, qD, qG⟩ := q
  exact ⟨q0, q1, qP, va_K.moved (u := U) (U := U.calling g mk a) (Vm.Alike.refl U.vm) qK, qD, qG.same rfl rfl⟩
theorem mc_I {S : Type} {τ : SX} {y : MethodName} {words words' : List Cond} {rm : Room} {ty : FieldType} {argv : List Value} {w0 : va_W} {mkW : S → va_W} {X : Int32 × S} {sz maxL : Nat} {cc : ByteArray} {own : String} (lv0 : List (Nat × Value)) (hw : words = Cond.code y cc maxL (some ty) :: words') (hy : plainName y.cls = true) (ho : y.cls = own) (hlv : lv_args 0 argv = lv0) (hlen : (lg_sl argv).length ≤ maxL)
    (body : ∀ κ : KX, Cx τ κ cc own words rm maxL → Rt τ κ cc ty mkW X → J τ κ 0 0 w0 lv0 0 []) : McI τ y words rm ty argv w0 mkW X sz := by
  refine Met.ofW (cc := cc) (maxL := maxL) (ret := some ty) hy hw ?_
  intro p e s m args below meth c s₁ B hml hv
  obtain ⟨rfl, hsz, hP, hK, hD0, hG⟩ := hv
  subst hsz
  subst hlv
  have hl := lv_entry argv (n := maxL) hlen
  rw [lg_entry_eq]
  have hown : s.vm.findClass own = some m.cls := by rw [← ho]; exact findClass_of_methodNamed B.named
  refine body (p, e, rm, s, m, _, below, meth, c, va_A w0 s.heap.size, _, maxL) ⟨⟨B.exec, B.bytes, hml, hown, atoms_spec (ws := words) B.pre⟩, hK, fun q h => Or.inr h, hG, rfl, rfl⟩ ?_ s.heap [] _ hP (hD0.self (sz := s.heap.size)) va_S.rf hl
  intro hn pc lv d H locs ls hP hD hS hl
  exact W.zret B.exec B.bytes B.returns hn (fun t ht hW => ⟨⟨X.1, X.2, rfl, ⟨rfl, hn⟩, by rw [ht]; exact hP, va_K.moved hW.alike hK, hD⟩, hS.F ht⟩) hS.2.2 d B.notSynchronized
theorem mc_L {S : Type} {τ : SX} {y : MethodName} {words words' : List Cond} {rm : Room} {argv : List Value} {w0 : va_W} {mkW : S → va_W} {X : Int64 × S} {sz maxL : Nat} {cc : ByteArray} {own : String} (lv0 : List (Nat × Value)) (hw : words = Cond.code y cc maxL (some .long) :: words') (hy : plainName y.cls = true) (ho : y.cls = own) (hlv : lv_args 0 argv = lv0) (hlen : (lg_sl argv).length ≤ maxL)
    (body : ∀ κ : KX, Cx τ κ cc own words rm maxL → RtL τ κ cc mkW X → J τ κ 0 0 w0 lv0 0 []) : McL τ y words rm argv w0 mkW X sz := by
  refine Met.ofW (cc := cc) (maxL := maxL) (ret := some .long) hy hw ?_
  intro p e s m args below meth c s₁ B hml hv
  obtain ⟨rfl, hsz, hP, hK, hD0, hG⟩ := hv
  subst hsz
  subst hlv
  have hl := lv_entry argv (n := maxL) hlen
  rw [lg_entry_eq]
  have hown : s.vm.findClass own = some m.cls := by rw [← ho]; exact findClass_of_methodNamed B.named
  refine body (p, e, rm, s, m, _, below, meth, c, va_A w0 s.heap.size, _, maxL) ⟨⟨B.exec, B.bytes, hml, hown, atoms_spec (ws := words) B.pre⟩, hK, fun q h => Or.inr h, hG, rfl, rfl⟩ ?_ s.heap [] _ hP (hD0.self (sz := s.heap.size)) va_S.rf hl
  intro pc lv d H locs ls hP hD hS hl
  exact W.lret B.exec B.bytes B.returns (fun t ht hW => ⟨⟨X.1, X.2, rfl, rfl, by rw [ht]; exact hP, va_K.moved hW.alike hK, hD⟩, hS.F ht⟩) hS.2.2 d B.notSynchronized
theorem mc_V {S : Type} {τ : SX} {y : MethodName} {words words' : List Cond} {rm : Room} {argv : List Value} {w0 : va_W} {mkW : S → va_W} {X : S} {k n sz maxL : Nat} {cc : ByteArray} {own : String} (lv0 : List (Nat × Value)) (hw : words = Cond.code y cc maxL none :: words') (hy : plainName y.cls = true) (ho : y.cls = own) (hlv : lv_args 0 argv = lv0) (hlen : (lg_sl argv).length ≤ maxL)
    (body : ∀ κ : KX, Cx τ κ cc own words rm maxL → (x_t κ).name = y.name → RtV τ κ cc k n mkW X → J τ κ 0 0 w0 lv0 0 []) : McV τ y words rm argv w0 mkW X k n sz := by
  refine Met.ofW (cc := cc) (maxL := maxL) (ret := none) hy hw ?_
  intro p e s m args below meth c s₁ B hml hv
  obtain ⟨rfl, hsz, hP, hK, hD0, hG⟩ := hv
  subst hsz
  subst hlv
  have hl := lv_entry argv (n := maxL) hlen
  rw [lg_entry_eq]
  have hown : s.vm.findClass own = some m.cls := by rw [← ho]; exact findClass_of_methodNamed B.named
  refine body (p, e, rm, s, m, _, below, meth, c, va_A w0 s.heap.size, _, maxL) ⟨⟨B.exec, B.bytes, hml, hown, atoms_spec (ws := words) B.pre⟩, hK, fun q h => Or.inr h, hG, rfl, rfl⟩ (name_of_methodNamed B.named B.method).1 ?_ s.heap [] _ hP (hD0.self (sz := s.heap.size)) va_S.rf hl
  intro pc lv d H locs ls hP hD hS hl
  exact W.vret B.exec B.bytes B.returns (fun t ht hW => ⟨⟨X, rfl, rfl, by rw [ht]; exact hP, va_K.moved hW.alike hK, hD⟩, hS.F ht⟩) hS.2.2 d B.notSynchronized
theorem i32_add1 {i : Int32} (h : i.toInt < 2147483647) : (i + 1).toInt = i.toInt + 1 := by
  have h0 := Int32.le_toInt i
  rw [Int32.toInt_add, show (1 : Int32).toInt = 1 from rfl]
  exact Int.bmod_eq_of_le (by omega) (by omega)
theorem i32_addE {a b : Int32} (h1 : -2147483648 ≤ a.toInt + b.toInt) (h2 : a.toInt + b.toInt < 2147483648) : (a + b).toInt = a.toInt + b.toInt := by
  rw [Int32.toInt_add]
  exact Int.bmod_eq_of_le (by omega) (by omega)
theorem i32_mulE {a b : Int32} (h1 : -2147483648 ≤ a.toInt * b.toInt) (h2 : a.toInt * b.toInt < 2147483648) : (a * b).toInt = a.toInt * b.toInt := by
  rw [Int32.toInt_mul]
  exact Int.bmod_eq_of_le (by omega) (by omega)
theorem i32_subE {a b : Int32} (h1 : -2147483648 ≤ a.toInt - b.toInt) (h2 : a.toInt - b.toInt < 2147483648) : (a - b).toInt = a.toInt - b.toInt := by
  rw [Int32.toInt_sub]
  exact Int.bmod_eq_of_le (by omega) (by omega)
theorem i32_le {a b : Int32} : a ≤ b ↔ a.toInt ≤ b.toInt := Int32.le_iff_toInt_le
theorem i32_lt {a b : Int32} : a < b ↔ a.toInt < b.toInt := Int32.lt_iff_toInt_lt
theorem i32_eq {a b : Int32} : a = b ↔ a.toInt = b.toInt := Int32.toInt_inj.symm
theorem vpI {i : Int32} {n : Nat} (h0 : 0 ≤ i.toInt) (h : i.toInt < n) : vp_in i n := vp_in_iff.mpr ⟨h0, h⟩
theorem cnt_step {i b : Int32} {B : Int} (h0 : 0 ≤ i.toInt) (hb : b.toInt ≤ B) (hB : B < 2147483647) (c : ¬ b ≤ i) : 0 ≤ (i + 1).toInt ∧ (i + 1).toInt ≤ B ∧ (B - (i + 1).toInt).toNat < (B - i.toInt).toNat ∧ i.toInt < B := by
  rw [i32_le] at c
  rw [i32_add1 (by omega)]
  omega
theorem cnt_stepL {i b : Int32} {B : Int} (h0 : 0 ≤ i.toInt) (hb : b.toInt < B) (hB : B < 2147483647) (c : ¬ b < i) : 0 ≤ (i + 1).toInt ∧ (i + 1).toInt ≤ B ∧ (B - (i + 1).toInt).toNat < (B - i.toInt).toNat ∧ i.toInt < B := by
  rw [i32_lt] at c
  rw [i32_add1 (by omega)]
  omega
theorem i32_dec {i : Int32} (h : -2147483648 < i.toInt) : (i + (-1)).toInt = i.toInt - 1 := by
  have h1 := Int32.toInt_lt i
  exact i32_addE (a := i) (b := -1) (by rw [show (-1 : Int32).toInt = -1 from rfl]; omega) (by rw [show (-1 : Int32).toInt = -1 from rfl]; omega)
theorem dn_step {i : Int32} (c : ¬ i ≤ 0) : 0 ≤ (i + (-1)).toInt ∧ (i + (-1)).toInt = i.toInt - 1 ∧ 0 < i.toInt := by
  rw [i32_le, show (0 : Int32).toInt = 0 from rfl] at c
  rw [i32_dec (by omega)]
  omega
theorem dn_step0 {i : Int32} (c : ¬ i < 0) : -1 ≤ (i + (-1)).toInt ∧ (i + (-1)).toInt = i.toInt - 1 ∧ 0 ≤ i.toInt := by
  rw [i32_lt, show (0 : Int32).toInt = 0 from rfl] at c
  rw [i32_dec (by omega)]
  omega
theorem lc_ne {x : Int64} (h : ¬ lg_cmp x 0 = 0) : ¬ x = 0 := fun e => h (by rw [e]; rfl)
theorem shl_le {c : Int32} (h0 : 0 ≤ c.toInt) (h : c.toInt ≤ 8) : ((1 : Int32) <<< (c &&& 31)).toInt ≤ 256 := by
  have e : c = 0 ∨ c = 1 ∨ c = 2 ∨ c = 3 ∨ c = 4 ∨ c = 5 ∨ c = 6 ∨ c = 7 ∨ c = 8 := by
    simp only [i32_eq, show (0 : Int32).toInt = 0 from rfl, show (1 : Int32).toInt = 1 from rfl, show (2 : Int32).toInt = 2 from rfl, show (3 : Int32).toInt = 3 from rfl, show (4 : Int32).toInt = 4 from rfl, show (5 : Int32).toInt = 5 from rfl, show (6 : Int32).toInt = 6 from rfl, show (7 : Int32).toInt = 7 from rfl, show (8 : Int32).toInt = 8 from rfl]
    omega
  rcases e with rfl | rfl | rfl | rfl | rfl | rfl | rfl | rfl | rfl <;> decide
theorem ix3 {i : Int32} {j : Int32} (h0 : 0 ≤ i.toInt) (h : i.toInt < 10) (hj : 0 ≤ j.toInt ∧ j.toInt ≤ 2) : vp_in (i * 3 + j) 30 := by
  have m1 : (i * 3).toInt = i.toInt * 3 := i32_mulE (a := i) (b := 3) (by rw [show (3 : Int32).toInt = 3 from rfl]; omega) (by rw [show (3 : Int32).toInt = 3 from rfl]; omega)
  have m2 : (i * 3 + j).toInt = (i * 3).toInt + j.toInt := i32_addE (a := i * 3) (b := j) (by omega) (by omega)
  exact vpI (by omega) (by omega)
theorem ix30 {i : Int32} (h0 : 0 ≤ i.toInt) (h : i.toInt < 10) : vp_in (i * 3) 30 := by
  have m1 : (i * 3).toInt = i.toInt * 3 := i32_mulE (a := i) (b := 3) (by rw [show (3 : Int32).toInt = 3 from rfl]; omega) (by rw [show (3 : Int32).toInt = 3 from rfl]; omega)
  exact vpI (by omega) (by omega)
theorem nz_nle {x : Int32} (h : ¬ x ≤ 0) : ¬ x = 0 := fun e => h (by rw [e]; decide)
theorem nz_lt {x : Int32} (h : 0 < x) : ¬ x = 0 := fun e => absurd (show (0 : Int32) < 0 by rw [e] at h; exact h) (by decide)
def upS (f : Nat → Nat → Int64) (k : Nat) (r : Nat → Int64) : Nat → Nat → Int64 := fun j => if j = k then r else f j
theorem four_of {n : Int32} (h : vp_in n 4) : n = 0 ∨ n = 1 ∨ n = 2 ∨ n = 3 := by
  rw [vp_in_iff] at h
  simp only [i32_eq]
  have e0 : (0 : Int32).toInt = 0 := rfl
  have e1 : (1 : Int32).toInt = 1 := rfl
  have e2 : (2 : Int32).toInt = 2 := rfl
  have e3 : (3 : Int32).toInt = 3 := rfl
  omega

section JCALLS
variable {τ : SX} {κ : KX} {cc : ByteArray} {own : String} {Ts : List Cond} {rm : Room} {nL k n : Nat} {ws : va_W} {lv : List (Nat × Value)} {pc : Nat} {st : List Value}
theorem j_cv0I {S : Type} {y : MethodName} {words words' : List Cond} {rc : Room} {bytes : ByteArray} {maxL idx na : Nat} {As : List Value} {st0 : List Value} {w0 : va_W} {mkW : S → va_W} {ty : FieldType} {X : Int32 × S} {b : Nat} (C : Cx τ κ cc own Ts rm nL) (d : decode cc pc = .ok (.invokevirtual idx, 3)) (pc' : Nat) (e : pc + 3 = pc') (hM : ∀ sz, McI τ y words rc ty (.ref b :: As) w0 mkW X sz) {Cn : String} (hG : GoodIn Ts (wsV own idx Cn y words)) (hw : words = Cond.code y bytes maxL (some ty) :: words') (hrc : rc.cells = 0) (hrs : rc.slots = 0) (hd : y.cls = Cn ∧ y.cls ≠ "java/lang/invoke/MethodHandle" ∧ y.cls ≠ "java/lang/invoke/VarHandle" ∧ (parseMethodDescriptor y.desc).map (fun d => d.parameters.length) = some na) (hn : As.length = na) (hR : rc.frames + 1 ≤ rm.frames ∧ 8 + (maxL + 11) + rc.locals ≤ rm.locals) (hk : k ≤ rm.cells ∧ n ≤ rm.slots) (hst : st0 = As.reverse ++ .ref b :: st) (hsum : (st.map fun v => v.category).sum ≤ 8) (hws : ws = w0) (ci q0 : Nat) {T : u_T} {N : Nat} {fs : List Value} (hc : vwCl[ci]? = some (Cn, T, N)) (he : w0[q0]? = some (b, .inr (ci, fs))) (t : ∀ (r : Int32) (u : S), X = (r, u) → narrow ty (.int r) = .int r → J τ κ k n (mkW u) lv pc' (.int r :: st)) : J τ κ k n ws lv pc st0 := by
  subst e; subst hst; subst hws
  obtain ⟨C1, C2, C3, C4, C5, C6⟩ := C
  subst C5
  intro H locs ls hP hD hS hl
  have hF : ∀ q, va_A ws H.size q → x_A κ q := fun q h => by
    rcases h with ⟨k, e, h⟩ | h
    · exact hD.2 k _ h
    · exact C3 q (Nat.le_trans hS.1 h)
  refine va_calli (va_runV (As := As) (rest := st) C1 (hM H.size) (cwV na C1.2.2.2.2 hG hw hrc hrs hd hR) ⟨McP.blind, va_recv C2 hP hc he, fun U hU hW => ⟨rfl, by rw [hU], by rw [hU]; exact hP, va_K.moved hW.alike C2, hD.weaken (fun _ _ _ _ => trivial), C4.call hS hF hU hW⟩⟩ rfl hn (hl.1.trans C6) rfl (lv_room hsum) d ⟨hk.1, hk.2⟩) hS (fun q _ h => hF q h) hF (fun r u t1 H1 locs1 ht hvm hw hB hz1 hk1 hS1 => ?_)
  obtain ⟨hP1, hK1, hD1⟩ := hB
  rw [ht] at hP1
  exact t r u hw.1 hw.2 H1 locs1 ls hP1 (hD1.weaken (fun _ q _ h => hF q.1 h)) hS1 hl
theorem j_cvI {S : Type} {y : MethodName} {words words' : List Cond} {rc : Room} {bytes : ByteArray} {maxL idx na : Nat} {As : List Value} {st0 : List Value} {w0 : va_W} {mkW : S → va_W} {ty : FieldType} {X : Int32 × S} {b : Nat} (C : Cx τ κ cc own Ts rm nL) (d : decode cc pc = .ok (.invokevirtual idx, 3)) (pc' : Nat) (e : pc + 3 = pc') (hM : ∀ sz, McI τ y words rc ty (.ref b :: As) w0 mkW X sz) {Cn : String} (hG : GoodIn Ts (wsV own idx Cn y words)) (hw : words = Cond.code y bytes maxL (some ty) :: words') (hrc : rc.cells = 0) (hrs : rc.slots = 0) (hd : y.cls = Cn ∧ y.cls ≠ "java/lang/invoke/MethodHandle" ∧ y.cls ≠ "java/lang/invoke/VarHandle" ∧ (parseMethodDescriptor y.desc).map (fun d => d.parameters.length) = some na) (hn : As.length = na) (hR : rc.frames + 1 ≤ rm.frames ∧ 8 + (maxL + 11) + rc.locals ≤ rm.locals) (hk : k ≤ rm.cells ∧ n ≤ rm.slots) (hst : st0 = As.reverse ++ .ref b :: st) (hsum : (st.map fun v => v.category).sum ≤ 8) (isC isR isP : List Nat) (wr : va_W) (hC : isC.map (fun i => ws[i]?) = w0.map some) (hCn : va_nd isC = true) (hRr : isR.map (fun i => ws[i]?) = wr.map some) (hRn : va_nd isR = true) (hdis : ∀ i ∈ isR, i ∉ isC) (ci q0 : Nat) {T : u_T} {N : Nat} {fs : List Value} (hc : vwCl[ci]? = some (Cn, T, N)) (he : w0[q0]? = some (b, .inr (ci, fs))) (ws' : S → va_W) (hp : ∀ u, isP.map (fun i => (wr ++ mkW u)[i]?) = (ws' u).map some) (hpn : va_nd isP = true) (t : ∀ (r : Int32) (u : S), X = (r, u) → narrow ty (.int r) = .int r → J τ κ k n (ws' u) lv pc' (.int r :: st)) : J τ κ k n ws lv pc st0 := by
  subst e; subst hst
  obtain ⟨C1, C2, C3, C4, C5, C6⟩ := C
  subst C5
  intro H locs ls hP hD hS hl
  have hPc := hP.sub isC (jl_map hC)
  have hDc := hD.sub isC hCn hC
  have hF := va_free (wc := w0) hD hS C3 isC hC
  refine va_calli (va_runV (As := As) (rest := st) C1 (hM H.size) (cwV na C1.2.2.2.2 hG hw hrc hrs hd hR) ⟨McP.blind, va_recv C2 hPc hc he, fun U hU hW => ⟨rfl, by rw [hU], by rw [hU]; exact hPc, va_K.moved hW.alike C2, hDc.weaken (fun _ _ _ _ => trivial), C4.call hS hF hU hW⟩⟩ rfl hn (hl.1.trans C6) rfl (lv_room hsum) d ⟨hk.1, hk.2⟩) hS (fun q _ h => hF q h) hF (fun r u t1 H1 locs1 ht hvm hw hB hz1 hk1 hS1 => ?_)
  obtain ⟨hP1, hK1, hD1⟩ := hB
  rw [ht] at hP1
  obtain ⟨hP2, hD2⟩ := va_join hP hD isC isR hC hRr hRn hdis hk1 hF hP1 hD1
  exact t r u hw.1 hw.2 H1 locs1 ls (hP2.sub isP (jl_map (hp u))) (hD2.sub isP hpn (hp u)) hS1 hl
theorem j_cs0I {S : Type} {y : MethodName} {words words' : List Cond} {rc : Room} {bytes : ByteArray} {maxL idx na : Nat} {As : List Value} {st0 : List Value} {w0 : va_W} {mkW : S → va_W} {ty : FieldType} {X : Int32 × S} (C : Cx τ κ cc own Ts rm nL) (d : decode cc pc = .ok (.invokestatic idx, 3)) (pc' : Nat) (e : pc + 3 = pc') (hM : ∀ sz, McI τ y words rc ty As w0 mkW X sz) (hw0 : w0 = []) (hG : GoodIn Ts words) (hw : words = Cond.code y bytes maxL (some ty) :: words') (hrc : rc.cells = 0) (hrs : rc.slots = 0) (hini : Cond.initialized y.cls ∈ Ts) (hlk : Cond.methodLink own idx y ∈ Ts) (hsta : Cond.static y ∈ Ts) (hd : y.cls ≠ "java/lang/invoke/MethodHandle" ∧ y.cls ≠ "java/lang/invoke/VarHandle" ∧ (parseMethodDescriptor y.desc).map (fun d => d.parameters.length) = some na) (hn : As.length = na) (hR : rc.frames + 1 ≤ rm.frames ∧ 8 + (maxL + 11) + rc.locals ≤ rm.locals) (hk : k ≤ rm.cells ∧ n ≤ rm.slots) (hst : st0 = As.reverse ++ st) (hsum : (st.map fun v => v.category).sum ≤ 8) (t : ∀ (r : Int32) (u : S), X = (r, u) → narrow ty (.int r) = .int r → J τ κ k n ws lv pc' (.int r :: st)) : J τ κ k n ws lv pc st0 := by
  subst e; subst hst; subst hw0
  obtain ⟨C1, C2, C3, C4, C5, C6⟩ := C
  subst C5
  intro H locs ls hP hD hS hl
  have hF : ∀ q, va_A [] H.size q → x_A κ q := fun q h => by
    rcases h with ⟨k, e, h⟩ | h
    · simp at h
    · exact C3 q (Nat.le_trans hS.1 h)
  refine va_calli (va_runS (As := As) (rest := st) C1 (hM H.size) ⟨callB_of na C1.2.2.2.2 hG hw hrc hrs (C1.2.2.2.2 _ hini) (C1.2.2.2.2 _ hlk) hd hR, C1.2.2.2.2 _ hsta⟩ ⟨McP.blind, fun U hU hW => ⟨rfl, by rw [hU], fun k q h => by simp at h, va_K.moved hW.alike C2, ⟨fun i j p q h => by simp at h, fun k q h => by simp at h⟩, C4.call hS hF hU hW⟩⟩ rfl hn (hl.1.trans C6) rfl (lv_room hsum) d ⟨hk.1, hk.2⟩) hS (fun q _ h => hF q h) hF (fun r u t1 H1 locs1 ht hvm hw hB hz1 hk1 hS1 => ?_)
  exact t r u hw.1 hw.2 H1 locs1 ls (fun k q h => (hP k q h).kept (hk1 q.1 (hP k q h).lt (fun h2 => by
    rcases h2 with ⟨k2, e2, h2⟩ | h2
    · simp at h2
    · exact absurd (hP k q h).lt (Nat.not_lt.mpr h2)))) hD hS1 hl
theorem j_cv0L {S : Type} {y : MethodName} {words words' : List Cond} {rc : Room} {bytes : ByteArray} {maxL idx na : Nat} {As : List Value} {st0 : List Value} {w0 : va_W} {mkW : S → va_W} {X : Int64 × S} {b : Nat} (C : Cx τ κ cc own Ts rm nL) (d : decode cc pc = .ok (.invokevirtual idx, 3)) (pc' : Nat) (e : pc + 3 = pc') (hM : ∀ sz, McL τ y words rc (.ref b :: As) w0 mkW X sz) {Cn : String} (hG : GoodIn Ts (wsV own idx Cn y words)) (hw : words = Cond.code y bytes maxL (some .long) :: words') (hrc : rc.cells = 0) (hrs : rc.slots = 0) (hd : y.cls = Cn ∧ y.cls ≠ "java/lang/invoke/MethodHandle" ∧ y.cls ≠ "java/lang/invoke/VarHandle" ∧ (parseMethodDescriptor y.desc).map (fun d => d.parameters.length) = some na) (hn : As.length = na) (hR : rc.frames + 1 ≤ rm.frames ∧ 8 + (maxL + 11) + rc.locals ≤ rm.locals) (hk : k ≤ rm.cells ∧ n ≤ rm.slots) (hst : st0 = As.reverse ++ .ref b :: st) (hsum : (st.map fun v => v.category).sum ≤ 8) (hws : ws = w0) (ci q0 : Nat) {T : u_T} {N : Nat} {fs : List Value} (hc : vwCl[ci]? = some (Cn, T, N)) (he : w0[q0]? = some (b, .inr (ci, fs))) (t : ∀ (r : Int64) (u : S), X = (r, u) → J τ κ k n (mkW u) lv pc' (.long r :: st)) : J τ κ k n ws lv pc st0 := by
  subst e; subst hst; subst hws
  obtain ⟨C1, C2, C3, C4, C5, C6⟩ := C
  subst C5
  intro H locs ls hP hD hS hl
  have hF : ∀ q, va_A ws H.size q → x_A κ q := fun q h => by
    rcases h with ⟨k, e, h⟩ | h
    · exact hD.2 k _ h
    · exact C3 q (Nat.le_trans hS.1 h)
  refine va_calll (va_runV (As := As) (rest := st) C1 (hM H.size) (cwV na C1.2.2.2.2 hG hw hrc hrs hd hR) ⟨McP.blind, va_recv C2 hP hc he, fun U hU hW => ⟨rfl, by rw [hU], by rw [hU]; exact hP, va_K.moved hW.alike C2, hD.weaken (fun _ _ _ _ => trivial), C4.call hS hF hU hW⟩⟩ rfl hn (hl.1.trans C6) rfl (lv_room hsum) d ⟨hk.1, hk.2⟩) hS (fun q _ h => hF q h) hF (fun r u t1 H1 locs1 ht hvm hw hB hz1 hk1 hS1 => ?_)
  obtain ⟨hP1, hK1, hD1⟩ := hB
  rw [ht] at hP1
  exact t r u hw H1 locs1 ls hP1 (hD1.weaken (fun _ q _ h => hF q.1 h)) hS1 hl
theorem j_cvL {S : Type} {y : MethodName} {words words' : List Cond} {rc : Room} {bytes : ByteArray} {maxL idx na : Nat} {As : List Value} {st0 : List Value} {w0 : va_W} {mkW : S → va_W} {X : Int64 × S} {b : Nat} (C : Cx τ κ cc own Ts rm nL) (d : decode cc pc = .ok (.invokevirtual idx, 3)) (pc' : Nat) (e : pc + 3 = pc') (hM : ∀ sz, McL τ y words rc (.ref b :: As) w0 mkW X sz) {Cn : String} (hG : GoodIn Ts (wsV own idx Cn y words)) (hw : words = Cond.code y bytes maxL (some .long) :: words') (hrc : rc.cells = 0) (hrs : rc.slots = 0) (hd : y.cls = Cn ∧ y.cls ≠ "java/lang/invoke/MethodHandle" ∧ y.cls ≠ "java/lang/invoke/VarHandle" ∧ (parseMethodDescriptor y.desc).map (fun d => d.parameters.length) = some na) (hn : As.length = na) (hR : rc.frames + 1 ≤ rm.frames ∧ 8 + (maxL + 11) + rc.locals ≤ rm.locals) (hk : k ≤ rm.cells ∧ n ≤ rm.slots) (hst : st0 = As.reverse ++ .ref b :: st) (hsum : (st.map fun v => v.category).sum ≤ 8) (isC isR isP : List Nat) (wr : va_W) (hC : isC.map (fun i => ws[i]?) = w0.map some) (hCn : va_nd isC = true) (hRr : isR.map (fun i => ws[i]?) = wr.map some) (hRn : va_nd isR = true) (hdis : ∀ i ∈ isR, i ∉ isC) (ci q0 : Nat) {T : u_T} {N : Nat} {fs : List Value} (hc : vwCl[ci]? = some (Cn, T, N)) (he : w0[q0]? = some (b, .inr (ci, fs))) (ws' : S → va_W) (hp : ∀ u, isP.map (fun i => (wr ++ mkW u)[i]?) = (ws' u).map some) (hpn : va_nd isP = true) (t : ∀ (r : Int64) (u : S), X = (r, u) → J τ κ k n (ws' u) lv pc' (.long r :: st)) : J τ κ k n ws lv pc st0 := by
  subst e; subst hst
  obtain ⟨C1, C2, C3, C4, C5, C6⟩ := C
  subst C5
  intro H locs ls hP hD hS hl
  have hPc := hP.sub isC (jl_map hC)
  have hDc := hD.sub isC hCn hC
  have hF := va_free (wc := w0) hD hS C3 isC hC
  refine va_calll (va_runV (As := As) (rest := st) C1 (hM H.size) (cwV na C1.2.2.2.2 hG hw hrc hrs hd hR) ⟨McP.blind, va_recv C2 hPc hc he, fun U hU hW => ⟨rfl, by rw [hU], by rw [hU]; exact hPc, va_K.moved hW.alike C2, hDc.weaken (fun _ _ _ _ => trivial), C4.call hS hF hU hW⟩⟩ rfl hn (hl.1.trans C6) rfl (lv_room hsum) d ⟨hk.1, hk.2⟩) hS (fun q _ h => hF q h) hF (fun r u t1 H1 locs1 ht hvm hw hB hz1 hk1 hS1 => ?_)
  obtain ⟨hP1, hK1, hD1⟩ := hB
  rw [ht] at hP1
  obtain ⟨hP2, hD2⟩ := va_join hP hD isC isR hC hRr hRn hdis hk1 hF hP1 hD1
  exact t r u hw H1 locs1 ls (hP2.sub isP (jl_map (hp u))) (hD2.sub isP hpn (hp u)) hS1 hl
theorem j_cs0L {S : Type} {y : MethodName} {words words' : List Cond} {rc : Room} {bytes : ByteArray} {maxL idx na : Nat} {As : List Value} {st0 : List Value} {w0 : va_W} {mkW : S → va_W} {X : Int64 × S} (C : Cx τ κ cc own Ts rm nL) (d : decode cc pc = .ok (.invokestatic idx, 3)) (pc' : Nat) (e : pc + 3 = pc') (hM : ∀ sz, McL τ y words rc As w0 mkW X sz) (hw0 : w0 = []) (hG : GoodIn Ts words) (hw : words = Cond.code y bytes maxL (some .long) :: words') (hrc : rc.cells = 0) (hrs : rc.slots = 0) (hini : Cond.initialized y.cls ∈ Ts) (hlk : Cond.methodLink own idx y ∈ Ts) (hsta : Cond.static y ∈ Ts) (hd : y.cls ≠ "java/lang/invoke/MethodHandle" ∧ y.cls ≠ "java/lang/invoke/VarHandle" ∧ (parseMethodDescriptor y.desc).map (fun d => d.parameters.length) = some na) (hn : As.length = na) (hR : rc.frames + 1 ≤ rm.frames ∧ 8 + (maxL + 11) + rc.locals ≤ rm.locals) (hk : k ≤ rm.cells ∧ n ≤ rm.slots) (hst : st0 = As.reverse ++ st) (hsum : (st.map fun v => v.category).sum ≤ 8) (t : ∀ (r : Int64) (u : S), X = (r, u) → J τ κ k n ws lv pc' (.long r :: st)) : J τ κ k n ws lv pc st0 := by
  subst e; subst hst; subst hw0
  obtain ⟨C1, C2, C3, C4, C5, C6⟩ := C
  subst C5
  intro H locs ls hP hD hS hl
  have hF : ∀ q, va_A [] H.size q → x_A κ q := fun q h => by
    rcases h with ⟨k, e, h⟩ | h
    · simp at h
    · exact C3 q (Nat.le_trans hS.1 h)
  refine va_calll (va_runS (As := As) (rest := st) C1 (hM H.size) ⟨callB_of na C1.2.2.2.2 hG hw hrc hrs (C1.2.2.2.2 _ hini) (C1.2.2.2.2 _ hlk) hd hR, C1.2.2.2.2 _ hsta⟩ ⟨McP.blind, fun U hU hW => ⟨rfl, by rw [hU], fun k q h => by simp at h, va_K.moved hW.alike C2, ⟨fun i j p q h => by simp at h, fun k q h => by simp at h⟩, C4.call hS hF hU hW⟩⟩ rfl hn (hl.1.trans C6) rfl (lv_room hsum) d ⟨hk.1, hk.2⟩) hS (fun q _ h => hF q h) hF (fun r u t1 H1 locs1 ht hvm hw hB hz1 hk1 hS1 => ?_)
  exact t r u hw H1 locs1 ls (fun k q h => (hP k q h).kept (hk1 q.1 (hP k q h).lt (fun h2 => by
    rcases h2 with ⟨k2, e2, h2⟩ | h2
    · simp at h2
    · exact absurd (hP k q h).lt (Nat.not_lt.mpr h2)))) hD hS1 hl
theorem j_cv0V {S : Type} {y : MethodName} {words words' : List Cond} {rc : Room} {bytes : ByteArray} {maxL idx na : Nat} {As : List Value} {st0 : List Value} {w0 : va_W} {mkW : S → va_W} {X : S} {b : Nat} (C : Cx τ κ cc own Ts rm nL) (d : decode cc pc = .ok (.invokevirtual idx, 3)) (pc' : Nat) (e : pc + 3 = pc') (hM : ∀ sz, McV τ y words rc (.ref b :: As) w0 mkW X 0 0 sz) {Cn : String} (hG : GoodIn Ts (wsV own idx Cn y words)) (hw : words = Cond.code y bytes maxL none :: words') (hrc : rc.cells = 0) (hrs : rc.slots = 0) (hd : y.cls = Cn ∧ y.cls ≠ "java/lang/invoke/MethodHandle" ∧ y.cls ≠ "java/lang/invoke/VarHandle" ∧ (parseMethodDescriptor y.desc).map (fun d => d.parameters.length) = some na) (hn : As.length = na) (hR : rc.frames + 1 ≤ rm.frames ∧ 8 + (maxL + 11) + rc.locals ≤ rm.locals) (hk : k ≤ rm.cells ∧ n ≤ rm.slots) (hst : st0 = As.reverse ++ .ref b :: st) (hsum : (st.map fun v => v.category).sum ≤ 8) (hws : ws = w0) (ci q0 : Nat) {T : u_T} {N : Nat} {fs : List Value} (hc : vwCl[ci]? = some (Cn, T, N)) (he : w0[q0]? = some (b, .inr (ci, fs))) (t : ∀ (u : S), X = u → J τ κ k n (mkW u) lv pc' (st)) : J τ κ k n ws lv pc st0 := by
  subst e; subst hst; subst hws
  obtain ⟨C1, C2, C3, C4, C5, C6⟩ := C
  subst C5
  intro H locs ls hP hD hS hl
  have hF : ∀ q, va_A ws H.size q → x_A κ q := fun q h => by
    rcases h with ⟨k, e, h⟩ | h
    · exact hD.2 k _ h
    · exact C3 q (Nat.le_trans hS.1 h)
  refine va_callv (va_runV (As := As) (rest := st) C1 (hM H.size) (cwV na C1.2.2.2.2 hG hw hrc hrs hd hR) ⟨McP.blind, va_recv C2 hP hc he, fun U hU hW => ⟨rfl, by rw [hU], by rw [hU]; exact hP, va_K.moved hW.alike C2, hD.weaken (fun _ _ _ _ => trivial), C4.call hS hF hU hW⟩⟩ rfl hn (hl.1.trans C6) rfl (lv_room hsum) d ⟨hk.1, hk.2⟩) hS (fun q _ h => hF q h) hF (fun u t1 H1 locs1 ht hvm hw hB hz1 hk1 hS1 => ?_)
  obtain ⟨hP1, hK1, hD1⟩ := hB
  rw [ht] at hP1
  exact t u hw H1 locs1 ls hP1 (hD1.weaken (fun _ q _ h => hF q.1 h)) hS1 hl
theorem j_cvV {S : Type} {y : MethodName} {words words' : List Cond} {rc : Room} {bytes : ByteArray} {maxL idx na : Nat} {As : List Value} {st0 : List Value} {w0 : va_W} {mkW : S → va_W} {X : S} {b : Nat} (C : Cx τ κ cc own Ts rm nL) (d : decode cc pc = .ok (.invokevirtual idx, 3)) (pc' : Nat) (e : pc + 3 = pc') (hM : ∀ sz, McV τ y words rc (.ref b :: As) w0 mkW X 0 0 sz) {Cn : String} (hG : GoodIn Ts (wsV own idx Cn y words)) (hw : words = Cond.code y bytes maxL none :: words') (hrc : rc.cells = 0) (hrs : rc.slots = 0) (hd : y.cls = Cn ∧ y.cls ≠ "java/lang/invoke/MethodHandle" ∧ y.cls ≠ "java/lang/invoke/VarHandle" ∧ (parseMethodDescriptor y.desc).map (fun d => d.parameters.length) = some na) (hn : As.length = na) (hR : rc.frames + 1 ≤ rm.frames ∧ 8 + (maxL + 11) + rc.locals ≤ rm.locals) (hk : k ≤ rm.cells ∧ n ≤ rm.slots) (hst : st0 = As.reverse ++ .ref b :: st) (hsum : (st.map fun v => v.category).sum ≤ 8) (isC isR isP : List Nat) (wr : va_W) (hC : isC.map (fun i => ws[i]?) = w0.map some) (hCn : va_nd isC = true) (hRr : isR.map (fun i => ws[i]?) = wr.map some) (hRn : va_nd isR = true) (hdis : ∀ i ∈ isR, i ∉ isC) (ci q0 : Nat) {T : u_T} {N : Nat} {fs : List Value} (hc : vwCl[ci]? = some (Cn, T, N)) (he : w0[q0]? = some (b, .inr (ci, fs))) (ws' : S → va_W) (hp : ∀ u, isP.map (fun i => (wr ++ mkW u)[i]?) = (ws' u).map some) (hpn : va_nd isP = true) (t : ∀ (u : S), X = u → J τ κ k n (ws' u) lv pc' (st)) : J τ κ k n ws lv pc st0 := by
  subst e; subst hst
  obtain ⟨C1, C2, C3, C4, C5, C6⟩ := C
  subst C5
  intro H locs ls hP hD hS hl
  have hPc := hP.sub isC (jl_map hC)
  have hDc := hD.sub isC hCn hC
  have hF := va_free (wc := w0) hD hS C3 isC hC
  refine va_callv (va_runV (As := As) (rest := st) C1 (hM H.size) (cwV na C1.2.2.2.2 hG hw hrc hrs hd hR) ⟨McP.blind, va_recv C2 hPc hc he, fun U hU hW => ⟨rfl, by rw [hU], by rw [hU]; exact hPc, va_K.moved hW.alike C2, hDc.weaken (fun _ _ _ _ => trivial), C4.call hS hF hU hW⟩⟩ rfl hn (hl.1.trans C6) rfl (lv_room hsum) d ⟨hk.1, hk.2⟩) hS (fun q _ h => hF q h) hF (fun u t1 H1 locs1 ht hvm hw hB hz1 hk1 hS1 => ?_)
  obtain ⟨hP1, hK1, hD1⟩ := hB
  rw [ht] at hP1
  obtain ⟨hP2, hD2⟩ := va_join hP hD isC isR hC hRr hRn hdis hk1 hF hP1 hD1
  exact t u hw H1 locs1 ls (hP2.sub isP (jl_map (hp u))) (hD2.sub isP hpn (hp u)) hS1 hl
theorem j_cs0V {S : Type} {y : MethodName} {words words' : List Cond} {rc : Room} {bytes : ByteArray} {maxL idx na : Nat} {As : List Value} {st0 : List Value} {w0 : va_W} {mkW : S → va_W} {X : S} (C : Cx τ κ cc own Ts rm nL) (d : decode cc pc = .ok (.invokestatic idx, 3)) (pc' : Nat) (e : pc + 3 = pc') (hM : ∀ sz, McV τ y words rc As w0 mkW X 0 0 sz) (hw0 : w0 = []) (hG : GoodIn Ts words) (hw : words = Cond.code y bytes maxL none :: words') (hrc : rc.cells = 0) (hrs : rc.slots = 0) (hini : Cond.initialized y.cls ∈ Ts) (hlk : Cond.methodLink own idx y ∈ Ts) (hsta : Cond.static y ∈ Ts) (hd : y.cls ≠ "java/lang/invoke/MethodHandle" ∧ y.cls ≠ "java/lang/invoke/VarHandle" ∧ (parseMethodDescriptor y.desc).map (fun d => d.parameters.length) = some na) (hn : As.length = na) (hR : rc.frames + 1 ≤ rm.frames ∧ 8 + (maxL + 11) + rc.locals ≤ rm.locals) (hk : k ≤ rm.cells ∧ n ≤ rm.slots) (hst : st0 = As.reverse ++ st) (hsum : (st.map fun v => v.category).sum ≤ 8) (t : ∀ (u : S), X = u → J τ κ k n ws lv pc' (st)) : J τ κ k n ws lv pc st0 := by
  subst e; subst hst; subst hw0
  obtain ⟨C1, C2, C3, C4, C5, C6⟩ := C
  subst C5
  intro H locs ls hP hD hS hl
  have hF : ∀ q, va_A [] H.size q → x_A κ q := fun q h => by
    rcases h with ⟨k, e, h⟩ | h
    · simp at h
    · exact C3 q (Nat.le_trans hS.1 h)
  refine va_callv (va_runS (As := As) (rest := st) C1 (hM H.size) ⟨callB_of na C1.2.2.2.2 hG hw hrc hrs (C1.2.2.2.2 _ hini) (C1.2.2.2.2 _ hlk) hd hR, C1.2.2.2.2 _ hsta⟩ ⟨McP.blind, fun U hU hW => ⟨rfl, by rw [hU], fun k q h => by simp at h, va_K.moved hW.alike C2, ⟨fun i j p q h => by simp at h, fun k q h => by simp at h⟩, C4.call hS hF hU hW⟩⟩ rfl hn (hl.1.trans C6) rfl (lv_room hsum) d ⟨hk.1, hk.2⟩) hS (fun q _ h => hF q h) hF (fun u t1 H1 locs1 ht hvm hw hB hz1 hk1 hS1 => ?_)
  exact t u hw H1 locs1 ls (fun k q h => (hP k q h).kept (hk1 q.1 (hP k q h).lt (fun h2 => by
    rcases h2 with ⟨k2, e2, h2⟩ | h2
    · simp at h2
    · exact absurd (hP k q h).lt (Nat.not_lt.mpr h2)))) hD hS1 hl
theorem j_csWI {S : Type} {y : MethodName} {words words' : List Cond} {rc : Room} {bytes : ByteArray} {maxL idx na : Nat} {As : List Value} {st0 : List Value} {w0 : va_W} {mkW : S → va_W} {ty : FieldType} {X : Int32 × S} (C : Cx τ κ cc own Ts rm nL) (d : decode cc pc = .ok (.invokestatic idx, 3)) (pc' : Nat) (e : pc + 3 = pc') (hM : ∀ sz, McI τ y words rc ty As w0 mkW X sz) (hG : GoodIn Ts words) (hw : words = Cond.code y bytes maxL (some ty) :: words') (hrc : rc.cells = 0) (hrs : rc.slots = 0) (hini : Cond.initialized y.cls ∈ Ts) (hlk : Cond.methodLink own idx y ∈ Ts) (hsta : Cond.static y ∈ Ts) (hd : y.cls ≠ "java/lang/invoke/MethodHandle" ∧ y.cls ≠ "java/lang/invoke/VarHandle" ∧ (parseMethodDescriptor y.desc).map (fun d => d.parameters.length) = some na) (hn : As.length = na) (hR : rc.frames + 1 ≤ rm.frames ∧ 8 + (maxL + 11) + rc.locals ≤ rm.locals) (hk : k ≤ rm.cells ∧ n ≤ rm.slots) (hst : st0 = As.reverse ++ st) (hsum : (st.map fun v => v.category).sum ≤ 8) (hws : ws = w0) (t : ∀ (r : Int32) (u : S), X = (r, u) → narrow ty (.int r) = .int r → J τ κ k n (mkW u) lv pc' (.int r :: st)) : J τ κ k n ws lv pc st0 := by
  subst e; subst hst; subst hws
  obtain ⟨C1, C2, C3, C4, C5, C6⟩ := C
  subst C5
  intro H locs ls hP hD hS hl
  have hF : ∀ q, va_A ws H.size q → x_A κ q := fun q h => by
    rcases h with ⟨k, e, h⟩ | h
    · exact hD.2 k _ h
    · exact C3 q (Nat.le_trans hS.1 h)
  refine va_calli (va_runS (As := As) (rest := st) C1 (hM H.size) ⟨callB_of na C1.2.2.2.2 hG hw hrc hrs (C1.2.2.2.2 _ hini) (C1.2.2.2.2 _ hlk) hd hR, C1.2.2.2.2 _ hsta⟩ ⟨McP.blind, fun U hU hW => ⟨rfl, by rw [hU], by rw [hU]; exact hP, va_K.moved hW.alike C2, hD.weaken (fun _ _ _ _ => trivial), C4.call hS hF hU hW⟩⟩ rfl hn (hl.1.trans C6) rfl (lv_room hsum) d ⟨hk.1, hk.2⟩) hS (fun q _ h => hF q h) hF (fun r u t1 H1 locs1 ht hvm hw hB hz1 hk1 hS1 => ?_)
  obtain ⟨hP1, hK1, hD1⟩ := hB
  rw [ht] at hP1
  exact t r u hw.1 hw.2 H1 locs1 ls hP1 (hD1.weaken (fun _ q _ h => hF q.1 h)) hS1 hl
theorem j_csWL {S : Type} {y : MethodName} {words words' : List Cond} {rc : Room} {bytes : ByteArray} {maxL idx na : Nat} {As : List Value} {st0 : List Value} {w0 : va_W} {mkW : S → va_W} {X : Int64 × S} (C : Cx τ κ cc own Ts rm nL) (d : decode cc pc = .ok (.invokestatic idx, 3)) (pc' : Nat) (e : pc + 3 = pc') (hM : ∀ sz, McL τ y words rc As w0 mkW X sz) (hG : GoodIn Ts words) (hw : words = Cond.code y bytes maxL (some .long) :: words') (hrc : rc.cells = 0) (hrs : rc.slots = 0) (hini : Cond.initialized y.cls ∈ Ts) (hlk : Cond.methodLink own idx y ∈ Ts) (hsta : Cond.static y ∈ Ts) (hd : y.cls ≠ "java/lang/invoke/MethodHandle" ∧ y.cls ≠ "java/lang/invoke/VarHandle" ∧ (parseMethodDescriptor y.desc).map (fun d => d.parameters.length) = some na) (hn : As.length = na) (hR : rc.frames + 1 ≤ rm.frames ∧ 8 + (maxL + 11) + rc.locals ≤ rm.locals) (hk : k ≤ rm.cells ∧ n ≤ rm.slots) (hst : st0 = As.reverse ++ st) (hsum : (st.map fun v => v.category).sum ≤ 8) (hws : ws = w0) (t : ∀ (r : Int64) (u : S), X = (r, u) → J τ κ k n (mkW u) lv pc' (.long r :: st)) : J τ κ k n ws lv pc st0 := by
  subst e; subst hst; subst hws
  obtain ⟨C1, C2, C3, C4, C5, C6⟩ := C
  subst C5
  intro H locs ls hP hD hS hl
  have hF : ∀ q, va_A ws H.size q → x_A κ q := fun q h => by
    rcases h with ⟨k, e, h⟩ | h
    · exact hD.2 k _ h
    · exact C3 q (Nat.le_trans hS.1 h)
  refine va_calll (va_runS (As := As) (rest := st) C1 (hM H.size) ⟨callB_of na C1.2.2.2.2 hG hw hrc hrs (C1.2.2.2.2 _ hini) (C1.2.2.2.2 _ hlk) hd hR, C1.2.2.2.2 _ hsta⟩ ⟨McP.blind, fun U hU hW => ⟨rfl, by rw [hU], by rw [hU]; exact hP, va_K.moved hW.alike C2, hD.weaken (fun _ _ _ _ => trivial), C4.call hS hF hU hW⟩⟩ rfl hn (hl.1.trans C6) rfl (lv_room hsum) d ⟨hk.1, hk.2⟩) hS (fun q _ h => hF q h) hF (fun r u t1 H1 locs1 ht hvm hw hB hz1 hk1 hS1 => ?_)
  obtain ⟨hP1, hK1, hD1⟩ := hB
  rw [ht] at hP1
  exact t r u hw H1 locs1 ls hP1 (hD1.weaken (fun _ q _ h => hF q.1 h)) hS1 hl
theorem j_csWV {S : Type} {y : MethodName} {words words' : List Cond} {rc : Room} {bytes : ByteArray} {maxL idx na : Nat} {As : List Value} {st0 : List Value} {w0 : va_W} {mkW : S → va_W} {X : S} (C : Cx τ κ cc own Ts rm nL) (d : decode cc pc = .ok (.invokestatic idx, 3)) (pc' : Nat) (e : pc + 3 = pc') (hM : ∀ sz, McV τ y words rc As w0 mkW X 0 0 sz) (hG : GoodIn Ts words) (hw : words = Cond.code y bytes maxL none :: words') (hrc : rc.cells = 0) (hrs : rc.slots = 0) (hini : Cond.initialized y.cls ∈ Ts) (hlk : Cond.methodLink own idx y ∈ Ts) (hsta : Cond.static y ∈ Ts) (hd : y.cls ≠ "java/lang/invoke/MethodHandle" ∧ y.cls ≠ "java/lang/invoke/VarHandle" ∧ (parseMethodDescriptor y.desc).map (fun d => d.parameters.length) = some na) (hn : As.length = na) (hR : rc.frames + 1 ≤ rm.frames ∧ 8 + (maxL + 11) + rc.locals ≤ rm.locals) (hk : k ≤ rm.cells ∧ n ≤ rm.slots) (hst : st0 = As.reverse ++ st) (hsum : (st.map fun v => v.category).sum ≤ 8) (hws : ws = w0) (t : ∀ (u : S), X = u → J τ κ k n (mkW u) lv pc' (st)) : J τ κ k n ws lv pc st0 := by
  subst e; subst hst; subst hws
  obtain ⟨C1, C2, C3, C4, C5, C6⟩ := C
  subst C5
  intro H locs ls hP hD hS hl
  have hF : ∀ q, va_A ws H.size q → x_A κ q := fun q h => by
    rcases h with ⟨k, e, h⟩ | h
    · exact hD.2 k _ h
    · exact C3 q (Nat.le_trans hS.1 h)
  refine va_callv (va_runS (As := As) (rest := st) C1 (hM H.size) ⟨callB_of na C1.2.2.2.2 hG hw hrc hrs (C1.2.2.2.2 _ hini) (C1.2.2.2.2 _ hlk) hd hR, C1.2.2.2.2 _ hsta⟩ ⟨McP.blind, fun U hU hW => ⟨rfl, by rw [hU], by rw [hU]; exact hP, va_K.moved hW.alike C2, hD.weaken (fun _ _ _ _ => trivial), C4.call hS hF hU hW⟩⟩ rfl hn (hl.1.trans C6) rfl (lv_room hsum) d ⟨hk.1, hk.2⟩) hS (fun q _ h => hF q h) hF (fun u t1 H1 locs1 ht hvm hw hB hz1 hk1 hS1 => ?_)
  obtain ⟨hP1, hK1, hD1⟩ := hB
  rw [ht] at hP1
  exact t u hw H1 locs1 ls hP1 (hD1.weaken (fun _ q _ h => hF q.1 h)) hS1 hl
theorem j_csN {S : Type} {y : MethodName} {words words' : List Cond} {rc : Room} {bytes : ByteArray} {maxL idx na : Nat} {As : List Value} {st0 : List Value} {w0 : va_W} {mkW : S → va_W} {ty : FieldType} {X : Int32 × S} {host : String} (C : Cx τ κ cc own Ts rm nL) (d : decode cc pc = .ok (.invokestatic idx, 3)) (pc' : Nat) (e : pc + 3 = pc') (hM : ∀ sz, McI τ y words rc ty As w0 mkW X sz) (hw0 : w0 = []) (hG : GoodIn Ts words) (hw : words = Cond.code y bytes maxL (some ty) :: words') (hrc : rc.cells = 0) (hrs : rc.slots = 0) (hini : Cond.initialized y.cls ∈ Ts) (hlk : (own, idx, y, host) ∈ nwM) (hsta : Cond.static y ∈ Ts) (hd : y.cls ≠ "java/lang/invoke/MethodHandle" ∧ y.cls ≠ "java/lang/invoke/VarHandle" ∧ (parseMethodDescriptor y.desc).map (fun d => d.parameters.length) = some na) (hn : As.length = na) (hR : rc.frames + 1 ≤ rm.frames ∧ 8 + (maxL + 11) + rc.locals ≤ rm.locals) (hk : k ≤ rm.cells ∧ n ≤ rm.slots) (hst : st0 = As.reverse ++ st) (hsum : (st.map fun v => v.category).sum ≤ 8) (t : ∀ (r : Int32) (u : S), X = (r, u) → narrow ty (.int r) = .int r → J τ κ k n ws lv pc' (.int r :: st)) : J τ κ k n ws lv pc st0 := by
  subst e; subst hst; subst hw0
  obtain ⟨C1, C2, C3, C4, C5, C6⟩ := C
  subst C5
  intro H locs ls hP hD hS hl
  have hF : ∀ q, va_A [] H.size q → x_A κ q := fun q h => by
    rcases h with ⟨k, e, h⟩ | h
    · simp at h
    · exact C3 q (Nat.le_trans hS.1 h)
  refine va_calli (va_runSN (As := As) (rest := st) C1 (hM H.size) ⟨va_cnB na C1.2.2.2.2 hG hw hrc hrs (C4.1 _ hlk) (C1.2.2.2.2 _ hini) hd hR, C1.2.2.2.2 _ hsta, trivial⟩ ⟨McP.blind, fun U hU hW => ⟨rfl, by rw [hU], fun k q h => by simp at h, va_K.moved hW.alike C2, ⟨fun i j p q h => by simp at h, fun k q h => by simp at h⟩, C4.call hS hF hU hW⟩⟩ rfl hn (hl.1.trans C6) rfl (lv_room hsum) d ⟨hk.1, hk.2⟩) hS (fun q _ h => hF q h) hF (fun r u t1 H1 locs1 ht hvm hw hB hz1 hk1 hS1 => ?_)
  exact t r u hw.1 hw.2 H1 locs1 ls (fun k q h => (hP k q h).kept (hk1 q.1 (hP k q h).lt (fun h2 => by
    rcases h2 with ⟨k2, e2, h2⟩ | h2
    · simp at h2
    · exact absurd (hP k q h).lt (Nat.not_lt.mpr h2)))) hD hS1 hl
end JCALLS
