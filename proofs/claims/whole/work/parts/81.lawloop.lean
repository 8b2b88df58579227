/-! the law's loop and its start -/
theorem and63 (v : Int32) : 0 ≤ (v &&& 63).toInt ∧ (v &&& 63).toInt ≤ 63 := by
  have h : (v &&& 63).toBitVec.toNat ≤ 63 := by
    rw [Int32.toBitVec_and, BitVec.toNat_and]
    exact Nat.and_le_right
  have e : (v &&& 63).toInt = ((v &&& 63).toBitVec.toNat : Int) := by
    show (v &&& 63).toBitVec.toInt = _
    exact BitVec.toInt_eq_toNat_of_lt (by omega)
  omega
theorem nL_5 {L : Nat} (hL : L ≤ 2560) : (Int32.ofNat L - 5).toInt = (L : Int) - 5 := by
  have e : (Int32.ofNat L).toInt = (L : Int) := Int32.toInt_ofNat_of_lt (by omega)
  rw [i32_subE (by rw [e, show (5 : Int32).toInt = 5 from rfl]; omega) (by rw [e, show (5 : Int32).toInt = 5 from rfl]; omega), e]
  rfl
set_option maxHeartbeats 8000000 in
set_option maxRecDepth 100000 in
theorem law_switch {τ : SX} {κ : KX} {a b : Nat → Nat} {sb L : Nat} {xs : Nat → Int32} {i x : Int32} (C : Cx τ κ cL_law RL wsL_law room_1 4) (X : SB κ sb L xs) (hi : 0 ≤ i.toInt ∧ i.toInt + 5 ≤ L ∧ L ≤ 2560) (hx : 0 ≤ x.toInt) (nx : NX τ κ a b sb i) (rws : Nat → Int32) (isv rc : Int32) (nlw nkd nbt nph ncn nno : Nat → Int32) (nct nsc nrn nlg ndn nzz : Int32) (tlw tkd tbt tph tcn tno : Nat → Int32) (tct tsc trn tlg tdn tzz : Int32) (slw skd sbt sph scn sno : Nat → Int32) (sct ssc srn slg sdn szz : Int32) (bs : Nat → Int32) (tz so fr tt ft : Int32) (bo : Nat → Int32) (bg ak an aa ip : Int32) (sit : Nat → Nat → Int64) (ssr ssi shw shn shs shz ss mhd mas mbf mtp : Nat → Int32) (mtk mfr mtt mvl miw : Int32) (mld mrw mso msz mnu mhw mhh mhm mbo : Nat → Int32) (mak man maa mip : Int32) (hI : INV rws isv rc nlw nkd nbt nph ncn nno nct nsc nrn nlg ndn nzz slw skd sbt sph scn sno sct ssc srn slg sdn szz bs tz bo bg sit ssr ssi shw shn shs shz ss mhd mtp mrw mso msz mnu mhw mhh mhm mbo) : J τ κ 56 1325 (LWs τ a b rws isv rc nlw nkd nbt nph ncn nno nct nsc nrn nlg ndn nzz tlw tkd tbt tph tcn tno tct tsc trn tlg tdn tzz slw skd sbt sph scn sno sct ssc srn slg sdn szz bs tz so fr tt ft bo bg ak an aa ip sit ssr ssi shw shn shs shz ss mhd mas mbf mtp mtk mfr mtt mvl miw mld mrw mso msz mnu mhw mhh mhm mbo mak man maa mip) (LVs sb a b i) 32 [.int x] := by
  by_cases c : (44 : Int) < x.toInt
  · refine j_tabOut C dL_law_32 (.inr c) 1645 rfl ?_
    exact nx _ _ _ _ _ _ _ _ _ _ _ _ _ _ _ _ _ _ _ _ _ _ _ _ _ _ _ _ _ _ _ _ _ _ _ _ _ _ _ _ _ _ _ _ _ _ _ _ _ _ _ _ _ _ _ _ _ _ _ _ _ _ _ _ _ _ _ _ _ _ _ _ _ _ _ _ _ _ _ _ _ hI
  · obtain ⟨n, e, _⟩ := ofI (x := x) (B := 45) hx (by omega)
    subst e
    match n with
    | ⟨0, _⟩ =>
      show J τ κ 56 1325 _ (LVs sb a b i) 32 [.int 0]
      refine j_tabIn C dL_law_32 (by decide) (by decide) (by rfl) 228 rfl ?_
      exact Lw_feed C X hi rfl rfl rfl rfl nx _ _ _ _ _ _ _ _ _ _ _ _ _ _ _ _ _ _ _ _ _ _ _ _ _ _ _ _ _ _ _ _ _ _ _ _ _ _ _ _ _ _ _ _ _ _ _ _ _ _ _ _ _ _ _ _ _ _ _ _ _ _ _ _ _ _ _ _ _ _ _ _ _ _ _ _ _ _ _ _ _ hI
    | ⟨1, _⟩ =>
      show J τ κ 56 1325 _ (LVs sb a b i) 32 [.int 1]
      refine j_tabIn C dL_law_32 (by decide) (by decide) (by rfl) 291 rfl ?_
      exact Lw_town C X hi rfl rfl rfl rfl nx _ _ _ _ _ _ _ _ _ _ _ _ _ _ _ _ _ _ _ _ _ _ _ _ _ _ _ _ _ _ _ _ _ _ _ _ _ _ _ _ _ _ _ _ _ _ _ _ _ _ _ _ _ _ _ _ _ _ _ _ _ _ _ _ _ _ _ _ _ _ _ _ _ _ _ _ _ _ _ _ _ hI
    | ⟨2, _⟩ =>
      show J τ κ 56 1325 _ (LVs sb a b i) 32 [.int 2]
      refine j_tabIn C dL_law_32 (by decide) (by decide) (by rfl) 304 rfl ?_
      exact Lw_set C X hi rfl rfl rfl rfl nx _ _ _ _ _ _ _ _ _ _ _ _ _ _ _ _ _ _ _ _ _ _ _ _ _ _ _ _ _ _ _ _ _ _ _ _ _ _ _ _ _ _ _ _ _ _ _ _ _ _ _ _ _ _ _ _ _ _ _ _ _ _ _ _ _ _ _ _ _ _ _ _ _ _ _ _ _ _ _ _ _ hI
    | ⟨3, _⟩ =>
      show J τ κ 56 1325 _ (LVs sb a b i) 32 [.int 3]
      refine j_tabIn C dL_law_32 (by decide) (by decide) (by rfl) 337 rfl ?_
      exact Lw_lawOf C X hi rfl rfl rfl rfl nx _ _ _ _ _ _ _ _ _ _ _ _ _ _ _ _ _ _ _ _ _ _ _ _ _ _ _ _ _ _ _ _ _ _ _ _ _ _ _ _ _ _ _ _ _ _ _ _ _ _ _ _ _ _ _ _ _ _ _ _ _ _ _ _ _ _ _ _ _ _ _ _ _ _ _ _ _ _ _ _ _ hI
    | ⟨4, _⟩ =>
      show J τ κ 56 1325 _ (LVs sb a b i) 32 [.int 4]
      refine j_tabIn C dL_law_32 (by decide) (by decide) (by rfl) 360 rfl ?_
      exact Lw_person C X hi rfl rfl rfl rfl nx _ _ _ _ _ _ _ _ _ _ _ _ _ _ _ _ _ _ _ _ _ _ _ _ _ _ _ _ _ _ _ _ _ _ _ _ _ _ _ _ _ _ _ _ _ _ _ _ _ _ _ _ _ _ _ _ _ _ _ _ _ _ _ _ _ _ _ _ _ _ _ _ _ _ _ _ _ _ _ _ _ hI
    | ⟨5, _⟩ =>
      show J τ κ 56 1325 _ (LVs sb a b i) 32 [.int 5]
      refine j_tabIn C dL_law_32 (by decide) (by decide) (by rfl) 413 rfl ?_
      exact Lw_of C X hi rfl rfl rfl rfl nx _ _ _ _ _ _ _ _ _ _ _ _ _ _ _ _ _ _ _ _ _ _ _ _ _ _ _ _ _ _ _ _ _ _ _ _ _ _ _ _ _ _ _ _ _ _ _ _ _ _ _ _ _ _ _ _ _ _ _ _ _ _ _ _ _ _ _ _ _ _ _ _ _ _ _ _ _ _ _ _ _ hI
    | ⟨6, _⟩ =>
      show J τ κ 56 1325 _ (LVs sb a b i) 32 [.int 6]
      refine j_tabIn C dL_law_32 (by decide) (by decide) (by rfl) 446 rfl ?_
      exact Lw_mind C X hi rfl rfl rfl rfl nx _ _ _ _ _ _ _ _ _ _ _ _ _ _ _ _ _ _ _ _ _ _ _ _ _ _ _ _ _ _ _ _ _ _ _ _ _ _ _ _ _ _ _ _ _ _ _ _ _ _ _ _ _ _ _ _ _ _ _ _ _ _ _ _ _ _ _ _ _ _ _ _ _ _ _ _ _ _ _ _ _ hI
    | ⟨7, _⟩ =>
      show J τ κ 56 1325 _ (LVs sb a b i) 32 [.int 7]
      refine j_tabIn C dL_law_32 (by decide) (by decide) (by rfl) 479 rfl ?_
      exact Lw_change C X hi rfl rfl rfl rfl nx _ _ _ _ _ _ _ _ _ _ _ _ _ _ _ _ _ _ _ _ _ _ _ _ _ _ _ _ _ _ _ _ _ _ _ _ _ _ _ _ _ _ _ _ _ _ _ _ _ _ _ _ _ _ _ _ _ _ _ _ _ _ _ _ _ _ _ _ _ _ _ _ _ _ _ _ _ _ _ _ _ hI
    | ⟨8, _⟩ =>
      show J τ κ 56 1325 _ (LVs sb a b i) 32 [.int 8]
      refine j_tabIn C dL_law_32 (by decide) (by decide) (by rfl) 522 rfl ?_
      exact Lw_bring C X hi rfl rfl rfl rfl nx _ _ _ _ _ _ _ _ _ _ _ _ _ _ _ _ _ _ _ _ _ _ _ _ _ _ _ _ _ _ _ _ _ _ _ _ _ _ _ _ _ _ _ _ _ _ _ _ _ _ _ _ _ _ _ _ _ _ _ _ _ _ _ _ _ _ _ _ _ _ _ _ _ _ _ _ _ _ _ _ _ hI
    | ⟨9, _⟩ =>
      show J τ κ 56 1325 _ (LVs sb a b i) 32 [.int 9]
      refine j_tabIn C dL_law_32 (by decide) (by decide) (by rfl) 555 rfl ?_
      exact Lw_corner C X hi rfl rfl rfl rfl nx _ _ _ _ _ _ _ _ _ _ _ _ _ _ _ _ _ _ _ _ _ _ _ _ _ _ _ _ _ _ _ _ _ _ _ _ _ _ _ _ _ _ _ _ _ _ _ _ _ _ _ _ _ _ _ _ _ _ _ _ _ _ _ _ _ _ _ _ _ _ _ _ _ _ _ _ _ _ _ _ _ hI
    | ⟨10, _⟩ =>
      show J τ κ 56 1325 _ (LVs sb a b i) 32 [.int 10]
      refine j_tabIn C dL_law_32 (by decide) (by decide) (by rfl) 588 rfl ?_
      exact Lw_seconds C X hi rfl rfl rfl rfl nx _ _ _ _ _ _ _ _ _ _ _ _ _ _ _ _ _ _ _ _ _ _ _ _ _ _ _ _ _ _ _ _ _ _ _ _ _ _ _ _ _ _ _ _ _ _ _ _ _ _ _ _ _ _ _ _ _ _ _ _ _ _ _ _ _ _ _ _ _ _ _ _ _ _ _ _ _ _ _ _ _ hI
    | ⟨11, _⟩ =>
      show J τ κ 56 1325 _ (LVs sb a b i) 32 [.int 11]
      refine j_tabIn C dL_law_32 (by decide) (by decide) (by rfl) 611 rfl ?_
      exact Lw_seed C X hi rfl rfl rfl rfl nx _ _ _ _ _ _ _ _ _ _ _ _ _ _ _ _ _ _ _ _ _ _ _ _ _ _ _ _ _ _ _ _ _ _ _ _ _ _ _ _ _ _ _ _ _ _ _ _ _ _ _ _ _ _ _ _ _ _ _ _ _ _ _ _ _ _ _ _ _ _ _ _ _ _ _ _ _ _ _ _ _ hI
    | ⟨12, _⟩ =>
      show J τ κ 56 1325 _ (LVs sb a b i) 32 [.int 12]
      refine j_tabIn C dL_law_32 (by decide) (by decide) (by rfl) 634 rfl ?_
      exact Lw_second C X hi rfl rfl rfl rfl nx _ _ _ _ _ _ _ _ _ _ _ _ _ _ _ _ _ _ _ _ _ _ _ _ _ _ _ _ _ _ _ _ _ _ _ _ _ _ _ _ _ _ _ _ _ _ _ _ _ _ _ _ _ _ _ _ _ _ _ _ _ _ _ _ _ _ _ _ _ _ _ _ _ _ _ _ _ _ _ _ _ hI
    | ⟨13, _⟩ =>
      show J τ κ 56 1325 _ (LVs sb a b i) 32 [.int 13]
      refine j_tabIn C dL_law_32 (by decide) (by decide) (by rfl) 647 rfl ?_
      exact Lw_spoilt C X hi rfl rfl rfl rfl nx _ _ _ _ _ _ _ _ _ _ _ _ _ _ _ _ _ _ _ _ _ _ _ _ _ _ _ _ _ _ _ _ _ _ _ _ _ _ _ _ _ _ _ _ _ _ _ _ _ _ _ _ _ _ _ _ _ _ _ _ _ _ _ _ _ _ _ _ _ _ _ _ _ _ _ _ _ _ _ _ _ hI
    | ⟨14, _⟩ =>
      show J τ κ 56 1325 _ (LVs sb a b i) 32 [.int 14]
      refine j_tabIn C dL_law_32 (by decide) (by decide) (by rfl) 670 rfl ?_
      exact Lw_state C X hi rfl rfl rfl rfl nx _ _ _ _ _ _ _ _ _ _ _ _ _ _ _ _ _ _ _ _ _ _ _ _ _ _ _ _ _ _ _ _ _ _ _ _ _ _ _ _ _ _ _ _ _ _ _ _ _ _ _ _ _ _ _ _ _ _ _ _ _ _ _ _ _ _ _ _ _ _ _ _ _ _ _ _ _ _ _ _ _ hI
    | ⟨15, _⟩ =>
      show J τ κ 56 1325 _ (LVs sb a b i) 32 [.int 15]
      refine j_tabIn C dL_law_32 (by decide) (by decide) (by rfl) 693 rfl ?_
      exact Lw_anew C X hi rfl rfl rfl rfl nx _ _ _ _ _ _ _ _ _ _ _ _ _ _ _ _ _ _ _ _ _ _ _ _ _ _ _ _ _ _ _ _ _ _ _ _ _ _ _ _ _ _ _ _ _ _ _ _ _ _ _ _ _ _ _ _ _ _ _ _ _ _ _ _ _ _ _ _ _ _ _ _ _ _ _ _ _ _ _ _ _ hI
    | ⟨16, _⟩ =>
      show J τ κ 56 1325 _ (LVs sb a b i) 32 [.int 16]
      refine j_tabIn C dL_law_32 (by decide) (by decide) (by rfl) 706 rfl ?_
      exact Lw_lasts C X hi rfl rfl rfl rfl nx _ _ _ _ _ _ _ _ _ _ _ _ _ _ _ _ _ _ _ _ _ _ _ _ _ _ _ _ _ _ _ _ _ _ _ _ _ _ _ _ _ _ _ _ _ _ _ _ _ _ _ _ _ _ _ _ _ _ _ _ _ _ _ _ _ _ _ _ _ _ _ _ _ _ _ _ _ _ _ _ _ hI
    | ⟨17, _⟩ =>
      show J τ κ 56 1325 _ (LVs sb a b i) 32 [.int 17]
      refine j_tabIn C dL_law_32 (by decide) (by decide) (by rfl) 729 rfl ?_
      exact Lw_length C X hi rfl rfl rfl rfl nx _ _ _ _ _ _ _ _ _ _ _ _ _ _ _ _ _ _ _ _ _ _ _ _ _ _ _ _ _ _ _ _ _ _ _ _ _ _ _ _ _ _ _ _ _ _ _ _ _ _ _ _ _ _ _ _ _ _ _ _ _ _ _ _ _ _ _ _ _ _ _ _ _ _ _ _ _ _ _ _ _ hI
    | ⟨18, _⟩ =>
      show J τ κ 56 1325 _ (LVs sb a b i) 32 [.int 18]
      refine j_tabIn C dL_law_32 (by decide) (by decide) (by rfl) 752 rfl ?_
      exact Lw_kept C X hi rfl rfl rfl rfl nx _ _ _ _ _ _ _ _ _ _ _ _ _ _ _ _ _ _ _ _ _ _ _ _ _ _ _ _ _ _ _ _ _ _ _ _ _ _ _ _ _ _ _ _ _ _ _ _ _ _ _ _ _ _ _ _ _ _ _ _ _ _ _ _ _ _ _ _ _ _ _ _ _ _ _ _ _ _ _ _ _ hI
    | ⟨19, _⟩ =>
      show J τ κ 56 1325 _ (LVs sb a b i) 32 [.int 19]
      refine j_tabIn C dL_law_32 (by decide) (by decide) (by rfl) 765 rfl ?_
      exact Lw_broken C X hi rfl rfl rfl rfl nx _ _ _ _ _ _ _ _ _ _ _ _ _ _ _ _ _ _ _ _ _ _ _ _ _ _ _ _ _ _ _ _ _ _ _ _ _ _ _ _ _ _ _ _ _ _ _ _ _ _ _ _ _ _ _ _ _ _ _ _ _ _ _ _ _ _ _ _ _ _ _ _ _ _ _ _ _ _ _ _ _ hI
    | ⟨20, _⟩ =>
      show J τ κ 56 1325 _ (LVs sb a b i) 32 [.int 20]
      refine j_tabIn C dL_law_32 (by decide) (by decide) (by rfl) 788 rfl ?_
      exact Lw_phaseFor C X hi rfl rfl rfl rfl nx _ _ _ _ _ _ _ _ _ _ _ _ _ _ _ _ _ _ _ _ _ _ _ _ _ _ _ _ _ _ _ _ _ _ _ _ _ _ _ _ _ _ _ _ _ _ _ _ _ _ _ _ _ _ _ _ _ _ _ _ _ _ _ _ _ _ _ _ _ _ _ _ _ _ _ _ _ _ _ _ _ hI
    | ⟨21, _⟩ =>
      show J τ κ 56 1325 _ (LVs sb a b i) 32 [.int 21]
      refine j_tabIn C dL_law_32 (by decide) (by decide) (by rfl) 821 rfl ?_
      exact Lw_beatFor C X hi rfl rfl rfl rfl nx _ _ _ _ _ _ _ _ _ _ _ _ _ _ _ _ _ _ _ _ _ _ _ _ _ _ _ _ _ _ _ _ _ _ _ _ _ _ _ _ _ _ _ _ _ _ _ _ _ _ _ _ _ _ _ _ _ _ _ _ _ _ _ _ _ _ _ _ _ _ _ _ _ _ _ _ _ _ _ _ _ hI
    | ⟨22, _⟩ =>
      show J τ κ 56 1325 _ (LVs sb a b i) 32 [.int 22]
      refine j_tabIn C dL_law_32 (by decide) (by decide) (by rfl) 854 rfl ?_
      exact Lw_kindFor C X hi rfl rfl rfl rfl nx _ _ _ _ _ _ _ _ _ _ _ _ _ _ _ _ _ _ _ _ _ _ _ _ _ _ _ _ _ _ _ _ _ _ _ _ _ _ _ _ _ _ _ _ _ _ _ _ _ _ _ _ _ _ _ _ _ _ _ _ _ _ _ _ _ _ _ _ _ _ _ _ _ _ _ _ _ _ _ _ _ hI
    | ⟨23, _⟩ =>
      show J τ κ 56 1325 _ (LVs sb a b i) 32 [.int 23]
      refine j_tabIn C dL_law_32 (by decide) (by decide) (by rfl) 887 rfl ?_
      exact Lw_pairFor C X hi rfl rfl rfl rfl nx _ _ _ _ _ _ _ _ _ _ _ _ _ _ _ _ _ _ _ _ _ _ _ _ _ _ _ _ _ _ _ _ _ _ _ _ _ _ _ _ _ _ _ _ _ _ _ _ _ _ _ _ _ _ _ _ _ _ _ _ _ _ _ _ _ _ _ _ _ _ _ _ _ _ _ _ _ _ _ _ _ hI
    | ⟨24, _⟩ =>
      show J τ κ 56 1325 _ (LVs sb a b i) 32 [.int 24]
      refine j_tabIn C dL_law_32 (by decide) (by decide) (by rfl) 930 rfl ?_
      exact Lw_awayFor C X hi rfl rfl rfl rfl nx _ _ _ _ _ _ _ _ _ _ _ _ _ _ _ _ _ _ _ _ _ _ _ _ _ _ _ _ _ _ _ _ _ _ _ _ _ _ _ _ _ _ _ _ _ _ _ _ _ _ _ _ _ _ _ _ _ _ _ _ _ _ _ _ _ _ _ _ _ _ _ _ _ _ _ _ _ _ _ _ _ hI
    | ⟨25, _⟩ =>
      show J τ κ 56 1325 _ (LVs sb a b i) 32 [.int 25]
      refine j_tabIn C dL_law_32 (by decide) (by decide) (by rfl) 963 rfl ?_
      exact Lw_heard C X hi rfl rfl rfl rfl nx _ _ _ _ _ _ _ _ _ _ _ _ _ _ _ _ _ _ _ _ _ _ _ _ _ _ _ _ _ _ _ _ _ _ _ _ _ _ _ _ _ _ _ _ _ _ _ _ _ _ _ _ _ _ _ _ _ _ _ _ _ _ _ _ _ _ _ _ _ _ _ _ _ _ _ _ _ _ _ _ _ hI
    | ⟨26, _⟩ =>
      show J τ κ 56 1325 _ (LVs sb a b i) 32 [.int 26]
      refine j_tabIn C dL_law_32 (by decide) (by decide) (by rfl) 996 rfl ?_
      exact Lw_calm C X hi rfl rfl rfl rfl nx _ _ _ _ _ _ _ _ _ _ _ _ _ _ _ _ _ _ _ _ _ _ _ _ _ _ _ _ _ _ _ _ _ _ _ _ _ _ _ _ _ _ _ _ _ _ _ _ _ _ _ _ _ _ _ _ _ _ _ _ _ _ _ _ _ _ _ _ _ _ _ _ _ _ _ _ _ _ _ _ _ hI
    | ⟨27, _⟩ =>
      show J τ κ 56 1325 _ (LVs sb a b i) 32 [.int 27]
      refine j_tabIn C dL_law_32 (by decide) (by decide) (by rfl) 1019 rfl ?_
      exact Lw_fits C X hi rfl rfl rfl rfl nx _ _ _ _ _ _ _ _ _ _ _ _ _ _ _ _ _ _ _ _ _ _ _ _ _ _ _ _ _ _ _ _ _ _ _ _ _ _ _ _ _ _ _ _ _ _ _ _ _ _ _ _ _ _ _ _ _ _ _ _ _ _ _ _ _ _ _ _ _ _ _ _ _ _ _ _ _ _ _ _ _ hI
    | ⟨28, _⟩ =>
      show J τ κ 56 1325 _ (LVs sb a b i) 32 [.int 28]
      refine j_tabIn C dL_law_32 (by decide) (by decide) (by rfl) 1062 rfl ?_
      exact Lw_odds C X hi rfl rfl rfl rfl nx _ _ _ _ _ _ _ _ _ _ _ _ _ _ _ _ _ _ _ _ _ _ _ _ _ _ _ _ _ _ _ _ _ _ _ _ _ _ _ _ _ _ _ _ _ _ _ _ _ _ _ _ _ _ _ _ _ _ _ _ _ _ _ _ _ _ _ _ _ _ _ _ _ _ _ _ _ _ _ _ _ hI
    | ⟨29, _⟩ =>
      show J τ κ 56 1325 _ (LVs sb a b i) 32 [.int 29]
      refine j_tabIn C dL_law_32 (by decide) (by decide) (by rfl) 1106 rfl ?_
      exact Lw_hope C X hi rfl rfl rfl rfl nx _ _ _ _ _ _ _ _ _ _ _ _ _ _ _ _ _ _ _ _ _ _ _ _ _ _ _ _ _ _ _ _ _ _ _ _ _ _ _ _ _ _ _ _ _ _ _ _ _ _ _ _ _ _ _ _ _ _ _ _ _ _ _ _ _ _ _ _ _ _ _ _ _ _ _ _ _ _ _ _ _ hI
    | ⟨30, _⟩ =>
      show J τ κ 56 1325 _ (LVs sb a b i) 32 [.int 30]
      refine j_tabIn C dL_law_32 (by decide) (by decide) (by rfl) 1140 rfl ?_
      exact Lw_prove C X hi rfl rfl rfl rfl nx _ _ _ _ _ _ _ _ _ _ _ _ _ _ _ _ _ _ _ _ _ _ _ _ _ _ _ _ _ _ _ _ _ _ _ _ _ _ _ _ _ _ _ _ _ _ _ _ _ _ _ _ _ _ _ _ _ _ _ _ _ _ _ _ _ _ _ _ _ _ _ _ _ _ _ _ _ _ _ _ _ hI
    | ⟨31, _⟩ =>
      show J τ κ 56 1325 _ (LVs sb a b i) 32 [.int 31]
      refine j_tabIn C dL_law_32 (by decide) (by decide) (by rfl) 1173 rfl ?_
      exact Lw_row C X hi rfl rfl rfl rfl nx _ _ _ _ _ _ _ _ _ _ _ _ _ _ _ _ _ _ _ _ _ _ _ _ _ _ _ _ _ _ _ _ _ _ _ _ _ _ _ _ _ _ _ _ _ _ _ _ _ _ _ _ _ _ _ _ _ _ _ _ _ _ _ _ _ _ _ _ _ _ _ _ _ _ _ _ _ _ _ _ _ hI
    | ⟨32, _⟩ =>
      show J τ κ 56 1325 _ (LVs sb a b i) 32 [.int 32]
      refine j_tabIn C dL_law_32 (by decide) (by decide) (by rfl) 1206 rfl ?_
      exact Lw_alterRow C X hi rfl rfl rfl rfl nx _ _ _ _ _ _ _ _ _ _ _ _ _ _ _ _ _ _ _ _ _ _ _ _ _ _ _ _ _ _ _ _ _ _ _ _ _ _ _ _ _ _ _ _ _ _ _ _ _ _ _ _ _ _ _ _ _ _ _ _ _ _ _ _ _ _ _ _ _ _ _ _ _ _ _ _ _ _ _ _ _ hI
    | ⟨33, _⟩ =>
      show J τ κ 56 1325 _ (LVs sb a b i) 32 [.int 33]
      refine j_tabIn C dL_law_32 (by decide) (by decide) (by rfl) 1249 rfl ?_
      exact Lw_judge C X hi rfl rfl rfl rfl nx _ _ _ _ _ _ _ _ _ _ _ _ _ _ _ _ _ _ _ _ _ _ _ _ _ _ _ _ _ _ _ _ _ _ _ _ _ _ _ _ _ _ _ _ _ _ _ _ _ _ _ _ _ _ _ _ _ _ _ _ _ _ _ _ _ _ _ _ _ _ _ _ _ _ _ _ _ _ _ _ _ hI
    | ⟨34, _⟩ =>
      show J τ κ 56 1325 _ (LVs sb a b i) 32 [.int 34]
      refine j_tabIn C dL_law_32 (by decide) (by decide) (by rfl) 1272 rfl ?_
      exact Lw_minds C X hi rfl rfl rfl rfl nx _ _ _ _ _ _ _ _ _ _ _ _ _ _ _ _ _ _ _ _ _ _ _ _ _ _ _ _ _ _ _ _ _ _ _ _ _ _ _ _ _ _ _ _ _ _ _ _ _ _ _ _ _ _ _ _ _ _ _ _ _ _ _ _ _ _ _ _ _ _ _ _ _ _ _ _ _ _ _ _ _ hI
    | ⟨35, _⟩ =>
      show J τ κ 56 1325 _ (LVs sb a b i) 32 [.int 35]
      refine j_tabIn C dL_law_32 (by decide) (by decide) (by rfl) 1325 rfl ?_
      exact Lw_sheet C X hi rfl rfl rfl rfl nx _ _ _ _ _ _ _ _ _ _ _ _ _ _ _ _ _ _ _ _ _ _ _ _ _ _ _ _ _ _ _ _ _ _ _ _ _ _ _ _ _ _ _ _ _ _ _ _ _ _ _ _ _ _ _ _ _ _ _ _ _ _ _ _ _ _ _ _ _ _ _ _ _ _ _ _ _ _ _ _ _ hI
    | ⟨36, _⟩ =>
      show J τ κ 56 1325 _ (LVs sb a b i) 32 [.int 36]
      refine j_tabIn C dL_law_32 (by decide) (by decide) (by rfl) 1368 rfl ?_
      exact Lw_put C X hi rfl rfl rfl rfl nx _ _ _ _ _ _ _ _ _ _ _ _ _ _ _ _ _ _ _ _ _ _ _ _ _ _ _ _ _ _ _ _ _ _ _ _ _ _ _ _ _ _ _ _ _ _ _ _ _ _ _ _ _ _ _ _ _ _ _ _ _ _ _ _ _ _ _ _ _ _ _ _ _ _ _ _ _ _ _ _ _ hI
    | ⟨37, _⟩ =>
      show J τ κ 56 1325 _ (LVs sb a b i) 32 [.int 37]
      refine j_tabIn C dL_law_32 (by decide) (by decide) (by rfl) 1411 rfl ?_
      exact Lw_item C X hi rfl rfl rfl rfl nx _ _ _ _ _ _ _ _ _ _ _ _ _ _ _ _ _ _ _ _ _ _ _ _ _ _ _ _ _ _ _ _ _ _ _ _ _ _ _ _ _ _ _ _ _ _ _ _ _ _ _ _ _ _ _ _ _ _ _ _ _ _ _ _ _ _ _ _ _ _ _ _ _ _ _ _ _ _ _ _ _ hI
    | ⟨38, _⟩ =>
      show J τ κ 56 1325 _ (LVs sb a b i) 32 [.int 38]
      refine j_tabIn C dL_law_32 (by decide) (by decide) (by rfl) 1454 rfl ?_
      exact Lw_shelf C X hi rfl rfl rfl rfl nx _ _ _ _ _ _ _ _ _ _ _ _ _ _ _ _ _ _ _ _ _ _ _ _ _ _ _ _ _ _ _ _ _ _ _ _ _ _ _ _ _ _ _ _ _ _ _ _ _ _ _ _ _ _ _ _ _ _ _ _ _ _ _ _ _ _ _ _ _ _ _ _ _ _ _ _ _ _ _ _ _ hI
    | ⟨39, _⟩ =>
      show J τ κ 56 1325 _ (LVs sb a b i) 32 [.int 39]
      refine j_tabIn C dL_law_32 (by decide) (by decide) (by rfl) 1497 rfl ?_
      exact Lw_taken C X hi rfl rfl rfl rfl nx _ _ _ _ _ _ _ _ _ _ _ _ _ _ _ _ _ _ _ _ _ _ _ _ _ _ _ _ _ _ _ _ _ _ _ _ _ _ _ _ _ _ _ _ _ _ _ _ _ _ _ _ _ _ _ _ _ _ _ _ _ _ _ _ _ _ _ _ _ _ _ _ _ _ _ _ _ _ _ _ _ hI
    | ⟨40, _⟩ =>
      show J τ κ 56 1325 _ (LVs sb a b i) 32 [.int 40]
      refine j_tabIn C dL_law_32 (by decide) (by decide) (by rfl) 1530 rfl ?_
      exact Lw_act C X hi rfl rfl rfl rfl nx _ _ _ _ _ _ _ _ _ _ _ _ _ _ _ _ _ _ _ _ _ _ _ _ _ _ _ _ _ _ _ _ _ _ _ _ _ _ _ _ _ _ _ _ _ _ _ _ _ _ _ _ _ _ _ _ _ _ _ _ _ _ _ _ _ _ _ _ _ _ _ _ _ _ _ _ _ _ _ _ _ hI
    | ⟨41, _⟩ =>
      show J τ κ 56 1325 _ (LVs sb a b i) 32 [.int 41]
      refine j_tabIn C dL_law_32 (by decide) (by decide) (by rfl) 1573 rfl ?_
      exact Lw_trace C X hi rfl rfl rfl rfl nx _ _ _ _ _ _ _ _ _ _ _ _ _ _ _ _ _ _ _ _ _ _ _ _ _ _ _ _ _ _ _ _ _ _ _ _ _ _ _ _ _ _ _ _ _ _ _ _ _ _ _ _ _ _ _ _ _ _ _ _ _ _ _ _ _ _ _ _ _ _ _ _ _ _ _ _ _ _ _ _ _ hI
    | ⟨42, _⟩ =>
      show J τ κ 56 1325 _ (LVs sb a b i) 32 [.int 42]
      refine j_tabIn C dL_law_32 (by decide) (by decide) (by rfl) 1596 rfl ?_
      exact Lw_many C X hi rfl rfl rfl rfl nx _ _ _ _ _ _ _ _ _ _ _ _ _ _ _ _ _ _ _ _ _ _ _ _ _ _ _ _ _ _ _ _ _ _ _ _ _ _ _ _ _ _ _ _ _ _ _ _ _ _ _ _ _ _ _ _ _ _ _ _ _ _ _ _ _ _ _ _ _ _ _ _ _ _ _ _ _ _ _ _ _ hI
    | ⟨43, _⟩ =>
      show J τ κ 56 1325 _ (LVs sb a b i) 32 [.int 43]
      refine j_tabIn C dL_law_32 (by decide) (by decide) (by rfl) 1619 rfl ?_
      exact Lw_keep C X hi rfl rfl rfl rfl nx _ _ _ _ _ _ _ _ _ _ _ _ _ _ _ _ _ _ _ _ _ _ _ _ _ _ _ _ _ _ _ _ _ _ _ _ _ _ _ _ _ _ _ _ _ _ _ _ _ _ _ _ _ _ _ _ _ _ _ _ _ _ _ _ _ _ _ _ _ _ _ _ _ _ _ _ _ _ _ _ _ hI
    | ⟨44, _⟩ =>
      show J τ κ 56 1325 _ (LVs sb a b i) 32 [.int 44]
      refine j_tabIn C dL_law_32 (by decide) (by decide) (by rfl) 1632 rfl ?_
      exact Lw_again C X hi rfl rfl rfl rfl nx _ _ _ _ _ _ _ _ _ _ _ _ _ _ _ _ _ _ _ _ _ _ _ _ _ _ _ _ _ _ _ _ _ _ _ _ _ _ _ _ _ _ _ _ _ _ _ _ _ _ _ _ _ _ _ _ _ _ _ _ _ _ _ _ _ _ _ _ _ _ _ _ _ _ _ _ _ _ _ _ _ hI
    | ⟨k + 45, h⟩ => exact absurd h (by omega)
set_option maxHeartbeats 8000000 in
set_option maxRecDepth 100000 in
theorem law_loop {τ : SX} {κ : KX} {a b : Nat → Nat} {sb L : Nat} {xs : Nat → Int32} (C : Cx τ κ cL_law RL wsL_law room_1 4) (X : SB κ sb L xs) (hL : L ≤ 2560) (hE : ∀ (ws : va_W) (lv : List (Nat × Value)), J τ κ 56 1325 ws lv 1652 [.int 1]) : ∀ (n : Nat) (i : Int32) (rws : Nat → Int32) (isv rc : Int32) (nlw nkd nbt nph ncn nno : Nat → Int32) (nct nsc nrn nlg ndn nzz : Int32) (tlw tkd tbt tph tcn tno : Nat → Int32) (tct tsc trn tlg tdn tzz : Int32) (slw skd sbt sph scn sno : Nat → Int32) (sct ssc srn slg sdn szz : Int32) (bs : Nat → Int32) (tz so fr tt ft : Int32) (bo : Nat → Int32) (bg ak an aa ip : Int32) (sit : Nat → Nat → Int64) (ssr ssi shw shn shs shz ss mhd mas mbf mtp : Nat → Int32) (mtk mfr mtt mvl miw : Int32) (mld mrw mso msz mnu mhw mhh mhm mbo : Nat → Int32) (mak man maa mip : Int32), ((L : Int) - i.toInt).toNat < n → 0 ≤ i.toInt → i.toInt ≤ L + 5 → INV rws isv rc nlw nkd nbt nph ncn nno nct nsc nrn nlg ndn nzz slw skd sbt sph scn sno sct ssc srn slg sdn szz bs tz bo bg sit ssr ssi shw shn shs shz ss mhd mtp mrw mso msz mnu mhw mhh mhm mbo → J τ κ 56 1325 (LWs τ a b rws isv rc nlw nkd nbt nph ncn nno nct nsc nrn nlg ndn nzz tlw tkd tbt tph tcn tno tct tsc trn tlg tdn tzz slw skd sbt sph scn sno sct ssc srn slg sdn szz bs tz so fr tt ft bo bg ak an aa ip sit ssr ssi shw shn shs shz ss mhd mas mbf mtp mtk mfr mtt mvl miw mld mrw mso msz mnu mhw mhh mhm mbo mak man maa mip) (LVs sb a b i) 18 [] := by
  intro n
  induction n with
  | zero => intro i rws isv rc nlw nkd nbt nph ncn nno nct nsc nrn nlg ndn nzz tlw tkd tbt tph tcn tno tct tsc trn tlg tdn tzz slw skd sbt sph scn sno sct ssc srn slg sdn szz bs tz so fr tt ft bo bg ak an aa ip sit ssr ssi shw shn shs shz ss mhd mas mbf mtp mtk mfr mtt mvl miw mld mrw mso msz mnu mhw mhh mhm mbo mak man maa mip h; exact absurd h (Nat.not_lt_zero _)
  | succ n ih =>
    intro i rws isv rc nlw nkd nbt nph ncn nno nct nsc nrn nlg ndn nzz tlw tkd tbt tph tcn tno tct tsc trn tlg tdn tzz slw skd sbt sph scn sno sct ssc srn slg sdn szz bs tz so fr tt ft bo bg ak an aa ip sit ssr ssi shw shn shs shz ss mhd mas mbf mtp mtk mfr mtt mvl miw mld mrw mso msz mnu mhw mhh mhm mbo mak man maa mip hn h0 h5 hI
    refine j_iload_n C dL_law_18 19 rfl rfl 3 rfl ?_
    refine j_aload_n C dL_law_19 20 rfl rfl 0 rfl ?_
    refine j_scrl C X dL_law_20 21 rfl ?_
    refine j_iconst (v := 5) C dL_law_21 22 rfl (by decide) ?_
    refine j_isub C dL_law_22 23 rfl ?_
    refine j_icmp_gt C dL_law_23 1651 rfl 26 rfl (fun c => ?_) (fun c => ?_)
    · refine j_iconst (v := 1) C dL_law_1651 1652 rfl (by decide) ?_
      exact hE _ _
    · have c' : ¬ (Int32.ofNat L - 5).toInt < i.toInt := fun w => c (i32_lt.mpr w)
      rw [nL_5 hL] at c'
      have hi : 0 ≤ i.toInt ∧ i.toInt + 5 ≤ L ∧ L ≤ 2560 := ⟨h0, by omega, hL⟩
      have e5 : (i + 5).toInt = i.toInt + 5 := i32_addE (by rw [show (5 : Int32).toInt = 5 from rfl]; omega) (by rw [show (5 : Int32).toInt = 5 from rfl]; omega)
      refine j_aload_n C dL_law_26 27 rfl rfl 0 rfl ?_
      refine j_iload_n C dL_law_27 28 rfl rfl 3 rfl ?_
      refine j_sld C X dL_law_28 29 rfl (vpI h0 (by omega)) rfl ?_
      refine j_bipush (v := 63) C dL_law_29 31 rfl (by decide) ?_
      refine j_iand C dL_law_31 32 rfl ?_
      refine law_switch C X hi (and63 _).1 ?_ _ _ _ _ _ _ _ _ _ _ _ _ _ _ _ _ _ _ _ _ _ _ _ _ _ _ _ _ _ _ _ _ _ _ _ _ _ _ _ _ _ _ _ _ _ _ _ _ _ _ _ _ _ _ _ _ _ _ _ _ _ _ _ _ _ _ _ _ _ _ _ _ _ _ _ _ _ _ _ _ _ hI
      intro rws isv rc nlw nkd nbt nph ncn nno nct nsc nrn nlg ndn nzz tlw tkd tbt tph tcn tno tct tsc trn tlg tdn tzz slw skd sbt sph scn sno sct ssc srn slg sdn szz bs tz so fr tt ft bo bg ak an aa ip sit ssr ssi shw shn shs shz ss mhd mas mbf mtp mtk mfr mtt mvl miw mld mrw mso msz mnu mhw mhh mhm mbo mak man maa mip hI
      refine j_iinc (v := (i + 5)) C dL_law_1645 1648 rfl 3 rfl rfl (by decide) [(3, .int (i + 5)), (0, .ref sb), (1, .ref (a 0)), (2, .ref (b 0))] rfl ?_
      refine j_goto C dL_law_1648 18 rfl ?_
      exact j_lv [1, 2, 3, 0] (LVs sb a b (i + 5)) rfl (ih (i + 5) _ _ _ _ _ _ _ _ _ _ _ _ _ _ _ _ _ _ _ _ _ _ _ _ _ _ _ _ _ _ _ _ _ _ _ _ _ _ _ _ _ _ _ _ _ _ _ _ _ _ _ _ _ _ _ _ _ _ _ _ _ _ _ _ _ _ _ _ _ _ _ _ _ _ _ _ _ _ _ _ _ (by omega) (by omega) (by omega) hI)
