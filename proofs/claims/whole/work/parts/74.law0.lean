/-! the law: its script, what holds between the class and the model -/
def SB (κ : KX) (sb L : Nat) (xs : Nat → Int32) : Prop := va_X sb L xs (x_s κ) (x_s κ).heap ∧ sb < (x_s κ).heap.size ∧ ¬ x_A κ sb
section JLAW
variable {τ : SX} {κ : KX} {cc : ByteArray} {own : String} {Ts : List Cond} {rm : Room} {nL k n : Nat} {ws : va_W} {lv : List (Nat × Value)} {pc : Nat} {st : List Value}
theorem j_sld {sb L : Nat} {xs : Nat → Int32} {i v : Int32} (C : Cx τ κ cc own Ts rm nL) (X : SB κ sb L xs) (d : decode cc pc = .ok (.iaload, 1)) (pc' : Nat) (e : pc + 1 = pc') (hin : vp_in i L) (hv : xs i.toNatClampNeg = v) (t : J τ κ k n ws lv pc' (.int v :: st)) : J τ κ k n ws lv pc (.int i :: .ref sb :: st) := by
  subst e
  subst hv
  exact fun H locs ls hP hD hS hl => va_sld C.1.1 C.1.2.1 X.1 X.2.1 X.2.2 hS hin d (t H locs ls hP hD hS hl)
theorem j_scrl {sb L : Nat} {xs : Nat → Int32} (C : Cx τ κ cc own Ts rm nL) (X : SB κ sb L xs) (d : decode cc pc = .ok (.arraylength, 1)) (pc' : Nat) (e : pc + 1 = pc') (t : J τ κ k n ws lv pc' (.int (Int32.ofNat L) :: st)) : J τ κ k n ws lv pc (.ref sb :: st) := by
  subst e
  exact fun H locs ls hP hD hS hl => va_slen C.1.1 C.1.2.1 X.1 X.2.1 X.2.2 hS d (t H locs ls hP hD hS hl)
end JLAW
theorem sl_in {i k : Int32} {L : Nat} (hi : 0 ≤ i.toInt ∧ i.toInt + 5 ≤ L ∧ L ≤ 2560) (k0 : 0 ≤ k.toInt) (k4 : k.toInt ≤ 4) : vp_in (i + k) L := by
  have e : (i + k).toInt = i.toInt + k.toInt := i32_addE (by omega) (by omega)
  exact vpI (by omega) (by omega)
theorem cmp_self {x y : Int64} (h : x = y) : lg_cmp x y = 0 := by
  subst h
  simp [lg_cmp]
theorem rt_kinds {lw kd bt ph cn no s : Nat → Int32} {ct sc rn lg dn zz : Int32} (h : RT lw kd bt ph cn no ct sc rn lg dn zz s) : ∀ k : Nat, (k : Int) < ct.toInt → kd k = 0 ∨ kd k = 1 ∨ kd k = 2 ∨ kd k = 3 ∨ kd k = 4 ∨ kd k = 5 := fun k hk => by
  have hp := (h.2.2.2.2.2.2 k hk).2.1
  simp only [i32_eq, show (0 : Int32).toInt = 0 from rfl, show (1 : Int32).toInt = 1 from rfl, show (2 : Int32).toInt = 2 from rfl, show (3 : Int32).toInt = 3 from rfl, show (4 : Int32).toInt = 4 from rfl, show (5 : Int32).toInt = 5 from rfl]
  omega
theorem rt_cg {lw kd bt ph cn no s : Nat → Int32} {ct sc rn lg dn zz : Int32} (h : RT lw kd bt ph cn no ct sc rn lg dn zz s) : 0 ≤ (s 9).toInt ∧ (s 9).toInt ≤ 99 := by
  rw [h.2.1.2.2.2]
  exact h.2.2.2.2.2.1
abbrev LWs (τ : SX) (a b : Nat → Nat) (rws : Nat → Int32) (isv rc : Int32) (nlw nkd nbt nph ncn nno : Nat → Int32) (nct nsc nrn nlg ndn nzz : Int32) (tlw tkd tbt tph tcn tno : Nat → Int32) (tct tsc trn tlg tdn tzz : Int32) (slw skd sbt sph scn sno : Nat → Int32) (sct ssc srn slg sdn szz : Int32) (bs : Nat → Int32) (tz so fr tt ft : Int32) (bo : Nat → Int32) (bg ak an aa ip : Int32) (sit : Nat → Nat → Int64) (ssr ssi shw shn shs shz ss mhd mas mbf mtp : Nat → Int32) (mtk mfr mtt mvl miw : Int32) (mld mrw mso msz mnu mhw mhh mhm mbo : Nat → Int32) (mak man maa mip : Int32) : va_W := ((wX τ a rws isv rc) ++ (wT τ (fun j => a (10 + j)) nlw nkd nbt nph ncn nno nct nsc nrn nlg ndn nzz) ++ (wT τ (fun j => a (20 + j)) tlw tkd tbt tph tcn tno tct tsc trn tlg tdn tzz) ++ (wT τ (fun j => a (30 + j)) slw skd sbt sph scn sno sct ssc srn slg sdn szz) ++ (wP τ (fun j => a (40 + j)) bs tz so fr tt ft) ++ (wA τ (fun j => a (50 + j)) bo bg ak an aa ip) ++ (wSS τ a sit ssr ssi) ++ (wHH τ a shw shn shs shz) ++ (wM τ b ss mhd mas mbf isv mtp tz mtk mfr mtt mvl miw mld mrw rc mso msz mnu mhw mhh mhm mbo bg mak man maa mip))
def INV (rws : Nat → Int32) (isv rc : Int32) (nlw nkd nbt nph ncn nno : Nat → Int32) (nct nsc nrn nlg ndn nzz : Int32) (slw skd sbt sph scn sno : Nat → Int32) (sct ssc srn slg sdn szz : Int32) (bs : Nat → Int32) (tz : Int32) (bo : Nat → Int32) (bg : Int32) (sit : Nat → Nat → Int64) (ssr ssi shw shn shs shz ss mhd mtp mrw mso msz mnu mhw mhh mhm mbo : Nat → Int32) : Prop := RT nlw nkd nbt nph ncn nno nct nsc nrn nlg ndn nzz ss ∧ (¬ isv = 0 → RT slw skd sbt sph scn sno sct ssc srn slg sdn szz mhd) ∧ ((0 ≤ rc.toInt ∧ rc.toInt ≤ 10) ∧ ∀ k : Nat, (k : Int) < 3 * rc.toInt → rws k = mrw k) ∧ RTp bs mtp tz ∧ RB2 bo mbo bg ∧ RS sit ssr ssi mso msz mnu ∧ RH shw shn shs shz mhw mhh mhm
abbrev LVs (sb : Nat) (a b : Nat → Nat) (i : Int32) : List (Nat × Value) := [(0, .ref sb), (1, .ref (a 0)), (2, .ref (b 0)), (3, .int i)]
def NX (τ : SX) (κ : KX) (a b : Nat → Nat) (sb : Nat) (i : Int32) : Prop := ∀ (rws : Nat → Int32) (isv rc : Int32) (nlw nkd nbt nph ncn nno : Nat → Int32) (nct nsc nrn nlg ndn nzz : Int32) (tlw tkd tbt tph tcn tno : Nat → Int32) (tct tsc trn tlg tdn tzz : Int32) (slw skd sbt sph scn sno : Nat → Int32) (sct ssc srn slg sdn szz : Int32) (bs : Nat → Int32) (tz so fr tt ft : Int32) (bo : Nat → Int32) (bg ak an aa ip : Int32) (sit : Nat → Nat → Int64) (ssr ssi shw shn shs shz ss mhd mas mbf mtp : Nat → Int32) (mtk mfr mtt mvl miw : Int32) (mld mrw mso msz mnu mhw mhh mhm mbo : Nat → Int32) (mak man maa mip : Int32), INV rws isv rc nlw nkd nbt nph ncn nno nct nsc nrn nlg ndn nzz slw skd sbt sph scn sno sct ssc srn slg sdn szz bs tz bo bg sit ssr ssi shw shn shs shz ss mhd mtp mrw mso msz mnu mhw mhh mhm mbo → J τ κ 56 1325 (LWs τ a b rws isv rc nlw nkd nbt nph ncn nno nct nsc nrn nlg ndn nzz tlw tkd tbt tph tcn tno tct tsc trn tlg tdn tzz slw skd sbt sph scn sno sct ssc srn slg sdn szz bs tz so fr tt ft bo bg ak an aa ip sit ssr ssi shw shn shs shz ss mhd mas mbf mtp mtk mfr mtt mvl miw mld mrw mso msz mnu mhw mhh mhm mbo mak man maa mip) (LVs sb a b i) 1645 []
theorem rows_z {rws mrw : Nat → Int32} {rc rc' : Int32} (h : rc' = rc ∨ rc' = 0) (hrc : 0 ≤ rc.toInt ∧ rc.toInt ≤ 10) (hrw : ∀ k : Nat, (k : Int) < 3 * rc.toInt → rws k = mrw k) : (0 ≤ rc'.toInt ∧ rc'.toInt ≤ 10) ∧ ∀ k : Nat, (k : Int) < 3 * rc'.toInt → rws k = mrw k := by
  rcases h with rfl | rfl
  · exact ⟨hrc, hrw⟩
  · exact ⟨⟨by decide, by decide⟩, fun k hk => by rw [z0I] at hk; omega⟩
theorem kL_law_13 : Cond.constantLong RL 13 4294967295 ∈ wsL_law := by decide +kernel
