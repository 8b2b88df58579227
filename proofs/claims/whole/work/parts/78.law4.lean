/-! the law's calls, 4 -/
set_option maxHeartbeats 4000000 in
set_option maxRecDepth 100000 in
theorem Lw_awayFor {τ : SX} {κ : KX} {a b : Nat → Nat} {sb L : Nat} {xs : Nat → Int32} {i : Int32} (C : Cx τ κ cL_law RL wsL_law room_1 4) (X : SB κ sb L xs) (hi : 0 ≤ i.toInt ∧ i.toInt + 5 ≤ L ∧ L ≤ 2560) {v1 v2 v3 v4 : Int32} (h1 : xs (i + 1).toNatClampNeg = v1) (h2 : xs (i + 2).toNatClampNeg = v2) (h3 : xs (i + 3).toNatClampNeg = v3) (h4 : xs (i + 4).toNatClampNeg = v4) (nx : NX τ κ a b sb i) (rws : Nat → Int32) (isv rc : Int32) (nlw nkd nbt nph ncn nno : Nat → Int32) (nct nsc nrn nlg ndn nzz : Int32) (tlw tkd tbt tph tcn tno : Nat → Int32) (tct tsc trn tlg tdn tzz : Int32) (slw skd sbt sph scn sno : Nat → Int32) (sct ssc srn slg sdn szz : Int32) (bs : Nat → Int32) (tz so fr tt ft : Int32) (bo : Nat → Int32) (bg ak an aa ip : Int32) (sit : Nat → Nat → Int64) (ssr ssi shw shn shs shz ss mhd mas mbf mtp : Nat → Int32) (mtk mfr mtt mvl miw : Int32) (mld mrw mso msz mnu mhw mhh mhm mbo : Nat → Int32) (mak man maa mip : Int32) (hI : INV rws isv rc nlw nkd nbt nph ncn nno nct nsc nrn nlg ndn nzz slw skd sbt sph scn sno sct ssc srn slg sdn szz bs tz bo bg sit ssr ssi shw shn shs shz ss mhd mtp mrw mso msz mnu mhw mhh mhm mbo) : J τ κ 56 1325 (LWs τ a b rws isv rc nlw nkd nbt nph ncn nno nct nsc nrn nlg ndn nzz tlw tkd tbt tph tcn tno tct tsc trn tlg tdn tzz slw skd sbt sph scn sno sct ssc srn slg sdn szz bs tz so fr tt ft bo bg ak an aa ip sit ssr ssi shw shn shs shz ss mhd mas mbf mtp mtk mfr mtt mvl miw mld mrw mso msz mnu mhw mhh mhm mbo mak man maa mip) (LVs sb a b i) 930 [] := by
  obtain ⟨R, hV, ⟨hrc, hrw⟩, hT, hB, hS, hH⟩ := hI
  refine j_aload_n C dL_law_930 931 rfl rfl 1 rfl ?_
  refine j_aload_n C dL_law_931 932 rfl rfl 0 rfl ?_
  refine j_iload_n C dL_law_932 933 rfl rfl 3 rfl ?_
  refine j_iconst (v := 1) C dL_law_933 934 rfl (by decide) ?_
  refine j_iadd C dL_law_934 935 rfl ?_
  refine j_sld C X dL_law_935 936 rfl (sl_in hi (by decide) (by decide)) h1 ?_
  refine j_aload_n C dL_law_936 937 rfl rfl 0 rfl ?_
  refine j_iload_n C dL_law_937 938 rfl rfl 3 rfl ?_
  refine j_iconst (v := 2) C dL_law_938 939 rfl (by decide) ?_
  refine j_iadd C dL_law_939 940 rfl ?_
  refine j_sld C X dL_law_940 941 rfl (sl_in hi (by decide) (by decide)) h2 ?_
  refine j_cvIp (na := 2) C dL_law_941 944 rfl (c_X5_awayFor τ a rws isv rc nlw nkd nbt nph ncn nno nct nsc nrn nlg ndn nzz tlw tkd tbt tph tcn tno tct tsc trn tlg tdn tzz v1 v2 hrc.1 hrc.2 R.2.2.1.1 R.2.2.1.2) gL_law_X5_awayFor rfl rfl rfl qd_X5_awayFor rfl ⟨by decide, by decide⟩ ⟨by decide, by decide⟩ rfl (Nat.le_of_ble_eq_true rfl) ((wT τ (fun j => a (30 + j)) slw skd sbt sph scn sno sct ssc srn slg sdn szz) ++ (wP τ (fun j => a (40 + j)) bs tz so fr tt ft) ++ (wA τ (fun j => a (50 + j)) bo bg ak an aa ip) ++ (wSS τ a sit ssr ssi) ++ (wHH τ a shw shn shs shz) ++ (wM τ b ss mhd mas mbf isv mtp tz mtk mfr mtt mvl miw mld mrw rc mso msz mnu mhw mhh mhm mbo bg mak man maa mip)) 38 18 rfl rfl (fun _ => rfl) (by decide +kernel) (by decide +kernel) (by decide +kernel) (pm_0_1_2 _ _ _ _ _ _ _ _ _) 5 0 rfl rfl (fun u => ((wX τ a rws isv rc) ++ (wT τ (fun j => a (10 + j)) nlw nkd nbt nph ncn nno nct nsc nrn nlg ndn nzz) ++ (wT τ (fun j => a (20 + j)) u.1 u.2.1 u.2.2.1 u.2.2.2.1 u.2.2.2.2.1 u.2.2.2.2.2.1 u.2.2.2.2.2.2.1 u.2.2.2.2.2.2.2.1 u.2.2.2.2.2.2.2.2.1 u.2.2.2.2.2.2.2.2.2.1 u.2.2.2.2.2.2.2.2.2.2.1 u.2.2.2.2.2.2.2.2.2.2.2) ++ (wT τ (fun j => a (30 + j)) slw skd sbt sph scn sno sct ssc srn slg sdn szz) ++ (wP τ (fun j => a (40 + j)) bs tz so fr tt ft) ++ (wA τ (fun j => a (50 + j)) bo bg ak an aa ip) ++ (wSS τ a sit ssr ssi) ++ (wHH τ a shw shn shs shz) ++ (wM τ b ss mhd mas mbf isv mtp tz mtk mfr mtt mvl miw mld mrw rc mso msz mnu mhw mhh mhm mbo bg mak man maa mip))) (fun _ => pm_0_1_2 _ _ _ _ _ _ _ _ _) (fun r1 u1 hX1 hn1 => ?_)
  obtain ⟨tlw_1, tkd_1, tbt_1, tph_1, tcn_1, tno_1, tct_1, tsc_1, trn_1, tlg_1, tdn_1, tzz_1⟩ := u1
  refine j_aload_n C dL_law_944 945 rfl rfl 2 rfl ?_
  refine j_aload_n C dL_law_945 946 rfl rfl 0 rfl ?_
  refine j_iload_n C dL_law_946 947 rfl rfl 3 rfl ?_
  refine j_iconst (v := 1) C dL_law_947 948 rfl (by decide) ?_
  refine j_iadd C dL_law_948 949 rfl ?_
  refine j_sld C X dL_law_949 950 rfl (sl_in hi (by decide) (by decide)) h1 ?_
  refine j_aload_n C dL_law_950 951 rfl rfl 0 rfl ?_
  refine j_iload_n C dL_law_951 952 rfl rfl 3 rfl ?_
  refine j_iconst (v := 2) C dL_law_952 953 rfl (by decide) ?_
  refine j_iadd C dL_law_953 954 rfl ?_
  refine j_sld C X dL_law_954 955 rfl (sl_in hi (by decide) (by decide)) h2 ?_
  refine j_cvIp (na := 2) C dL_law_955 958 rfl (c_X6_awayFor τ b ss mhd mas mbf isv mtp tz mtk mfr mtt mvl miw mld mrw rc mso msz mnu mhw mhh mhm mbo bg mak man maa mip v1 v2 (rt_ok R)) gL_law_X6_awayFor rfl rfl rfl qd_X6_awayFor rfl ⟨by decide, by decide⟩ ⟨by decide, by decide⟩ rfl (Nat.le_of_ble_eq_true rfl) ((wX τ a rws isv rc) ++ (wT τ (fun j => a (10 + j)) nlw nkd nbt nph ncn nno nct nsc nrn nlg ndn nzz) ++ (wT τ (fun j => a (20 + j)) tlw_1 tkd_1 tbt_1 tph_1 tcn_1 tno_1 tct_1 tsc_1 trn_1 tlg_1 tdn_1 tzz_1) ++ (wT τ (fun j => a (30 + j)) slw skd sbt sph scn sno sct ssc srn slg sdn szz) ++ (wP τ (fun j => a (40 + j)) bs tz so fr tt ft) ++ (wA τ (fun j => a (50 + j)) bo bg ak an aa ip) ++ (wSS τ a sit ssr ssi) ++ (wHH τ a shw shn shs shz)) 41 15 rfl rfl (fun _ => rfl) (by decide +kernel) (by decide +kernel) (by decide +kernel) (List.Perm.refl _) 6 0 rfl rfl (fun u => ((wX τ a rws isv rc) ++ (wT τ (fun j => a (10 + j)) nlw nkd nbt nph ncn nno nct nsc nrn nlg ndn nzz) ++ (wT τ (fun j => a (20 + j)) tlw_1 tkd_1 tbt_1 tph_1 tcn_1 tno_1 tct_1 tsc_1 trn_1 tlg_1 tdn_1 tzz_1) ++ (wT τ (fun j => a (30 + j)) slw skd sbt sph scn sno sct ssc srn slg sdn szz) ++ (wP τ (fun j => a (40 + j)) bs tz so fr tt ft) ++ (wA τ (fun j => a (50 + j)) bo bg ak an aa ip) ++ (wSS τ a sit ssr ssi) ++ (wHH τ a shw shn shs shz) ++ (wM τ b u.1 mhd u.2 mbf isv mtp tz mtk mfr mtt mvl miw mld mrw rc mso msz mnu mhw mhh mhm mbo bg mak man maa mip))) (fun _ => List.Perm.refl _) (fun r2 u2 hX2 hn2 => ?_)
  obtain ⟨ss_2, mas_2⟩ := u2
  have E := e_awayFor (mas := mas) (tlw := tlw) (tkd := tkd) (tbt := tbt) (tph := tph) (tcn := tcn) (tno := tno) (tct := tct) (tsc := tsc) (trn := trn) (tlg := tlg) (tdn := tdn) (tzz := tzz) R v1 v2
  rw [hX1, hX2] at E
  refine j_icmp_eq C dL_law_958 1645 rfl 961 rfl (fun _ => ?_) (fun c => absurd E.1 c)
  exact nx _ _ _ _ _ _ _ _ _ _ _ _ _ _ _ _ _ _ _ _ _ _ _ _ _ _ _ _ _ _ _ _ _ _ _ _ _ _ _ _ _ _ _ _ _ _ _ _ _ _ _ _ _ _ _ _ _ _ _ _ _ _ _ _ _ _ _ _ _ _ _ _ _ _ _ _ _ _ _ _ _ ⟨(rt_same R E.2), hV, ⟨hrc, hrw⟩, hT, hB, hS, hH⟩
set_option maxHeartbeats 4000000 in
set_option maxRecDepth 100000 in
theorem Lw_heard {τ : SX} {κ : KX} {a b : Nat → Nat} {sb L : Nat} {xs : Nat → Int32} {i : Int32} (C : Cx τ κ cL_law RL wsL_law room_1 4) (X : SB κ sb L xs) (hi : 0 ≤ i.toInt ∧ i.toInt + 5 ≤ L ∧ L ≤ 2560) {v1 v2 v3 v4 : Int32} (h1 : xs (i + 1).toNatClampNeg = v1) (h2 : xs (i + 2).toNatClampNeg = v2) (h3 : xs (i + 3).toNatClampNeg = v3) (h4 : xs (i + 4).toNatClampNeg = v4) (nx : NX τ κ a b sb i) (rws : Nat → Int32) (isv rc : Int32) (nlw nkd nbt nph ncn nno : Nat → Int32) (nct nsc nrn nlg ndn nzz : Int32) (tlw tkd tbt tph tcn tno : Nat → Int32) (tct tsc trn tlg tdn tzz : Int32) (slw skd sbt sph scn sno : Nat → Int32) (sct ssc srn slg sdn szz : Int32) (bs : Nat → Int32) (tz so fr tt ft : Int32) (bo : Nat → Int32) (bg ak an aa ip : Int32) (sit : Nat → Nat → Int64) (ssr ssi shw shn shs shz ss mhd mas mbf mtp : Nat → Int32) (mtk mfr mtt mvl miw : Int32) (mld mrw mso msz mnu mhw mhh mhm mbo : Nat → Int32) (mak man maa mip : Int32) (hI : INV rws isv rc nlw nkd nbt nph ncn nno nct nsc nrn nlg ndn nzz slw skd sbt sph scn sno sct ssc srn slg sdn szz bs tz bo bg sit ssr ssi shw shn shs shz ss mhd mtp mrw mso msz mnu mhw mhh mhm mbo) : J τ κ 56 1325 (LWs τ a b rws isv rc nlw nkd nbt nph ncn nno nct nsc nrn nlg ndn nzz tlw tkd tbt tph tcn tno tct tsc trn tlg tdn tzz slw skd sbt sph scn sno sct ssc srn slg sdn szz bs tz so fr tt ft bo bg ak an aa ip sit ssr ssi shw shn shs shz ss mhd mas mbf mtp mtk mfr mtt mvl miw mld mrw mso msz mnu mhw mhh mhm mbo mak man maa mip) (LVs sb a b i) 963 [] := by
  obtain ⟨R, hV, ⟨hrc, hrw⟩, hT, hB, hS, hH⟩ := hI
  refine j_aload_n C dL_law_963 964 rfl rfl 1 rfl ?_
  refine j_aload_n C dL_law_964 965 rfl rfl 0 rfl ?_
  refine j_iload_n C dL_law_965 966 rfl rfl 3 rfl ?_
  refine j_iconst (v := 1) C dL_law_966 967 rfl (by decide) ?_
  refine j_iadd C dL_law_967 968 rfl ?_
  refine j_sld C X dL_law_968 969 rfl (sl_in hi (by decide) (by decide)) h1 ?_
  refine j_aload_n C dL_law_969 970 rfl rfl 0 rfl ?_
  refine j_iload_n C dL_law_970 971 rfl rfl 3 rfl ?_
  refine j_iconst (v := 2) C dL_law_971 972 rfl (by decide) ?_
  refine j_iadd C dL_law_972 973 rfl ?_
  refine j_sld C X dL_law_973 974 rfl (sl_in hi (by decide) (by decide)) h2 ?_
  refine j_cvIp (na := 2) C dL_law_974 977 rfl (c_X5_heard τ a rws isv rc nlw nkd nbt nph ncn nno nct nsc nrn nlg ndn nzz tlw tkd tbt tph tcn tno tct tsc trn tlg tdn tzz v1 v2 hrc.1 hrc.2 R.2.2.1.1 R.2.2.1.2) gL_law_X5_heard rfl rfl rfl qd_X5_heard rfl ⟨by decide, by decide⟩ ⟨by decide, by decide⟩ rfl (Nat.le_of_ble_eq_true rfl) ((wT τ (fun j => a (30 + j)) slw skd sbt sph scn sno sct ssc srn slg sdn szz) ++ (wP τ (fun j => a (40 + j)) bs tz so fr tt ft) ++ (wA τ (fun j => a (50 + j)) bo bg ak an aa ip) ++ (wSS τ a sit ssr ssi) ++ (wHH τ a shw shn shs shz) ++ (wM τ b ss mhd mas mbf isv mtp tz mtk mfr mtt mvl miw mld mrw rc mso msz mnu mhw mhh mhm mbo bg mak man maa mip)) 38 18 rfl rfl (fun _ => rfl) (by decide +kernel) (by decide +kernel) (by decide +kernel) (pm_0_1_2 _ _ _ _ _ _ _ _ _) 5 0 rfl rfl (fun u => ((wX τ a rws isv rc) ++ (wT τ (fun j => a (10 + j)) nlw nkd nbt nph ncn nno nct nsc nrn nlg ndn nzz) ++ (wT τ (fun j => a (20 + j)) u.1 u.2.1 u.2.2.1 u.2.2.2.1 u.2.2.2.2.1 u.2.2.2.2.2.1 u.2.2.2.2.2.2.1 u.2.2.2.2.2.2.2.1 u.2.2.2.2.2.2.2.2.1 u.2.2.2.2.2.2.2.2.2.1 u.2.2.2.2.2.2.2.2.2.2.1 u.2.2.2.2.2.2.2.2.2.2.2) ++ (wT τ (fun j => a (30 + j)) slw skd sbt sph scn sno sct ssc srn slg sdn szz) ++ (wP τ (fun j => a (40 + j)) bs tz so fr tt ft) ++ (wA τ (fun j => a (50 + j)) bo bg ak an aa ip) ++ (wSS τ a sit ssr ssi) ++ (wHH τ a shw shn shs shz) ++ (wM τ b ss mhd mas mbf isv mtp tz mtk mfr mtt mvl miw mld mrw rc mso msz mnu mhw mhh mhm mbo bg mak man maa mip))) (fun _ => pm_0_1_2 _ _ _ _ _ _ _ _ _) (fun r1 u1 hX1 hn1 => ?_)
  obtain ⟨tlw_1, tkd_1, tbt_1, tph_1, tcn_1, tno_1, tct_1, tsc_1, trn_1, tlg_1, tdn_1, tzz_1⟩ := u1
  refine j_aload_n C dL_law_977 978 rfl rfl 2 rfl ?_
  refine j_aload_n C dL_law_978 979 rfl rfl 0 rfl ?_
  refine j_iload_n C dL_law_979 980 rfl rfl 3 rfl ?_
  refine j_iconst (v := 1) C dL_law_980 981 rfl (by decide) ?_
  refine j_iadd C dL_law_981 982 rfl ?_
  refine j_sld C X dL_law_982 983 rfl (sl_in hi (by decide) (by decide)) h1 ?_
  refine j_aload_n C dL_law_983 984 rfl rfl 0 rfl ?_
  refine j_iload_n C dL_law_984 985 rfl rfl 3 rfl ?_
  refine j_iconst (v := 2) C dL_law_985 986 rfl (by decide) ?_
  refine j_iadd C dL_law_986 987 rfl ?_
  refine j_sld C X dL_law_987 988 rfl (sl_in hi (by decide) (by decide)) h2 ?_
  refine j_cvIp (na := 2) C dL_law_988 991 rfl (c_X6_heard τ b ss mhd mas mbf isv mtp tz mtk mfr mtt mvl miw mld mrw rc mso msz mnu mhw mhh mhm mbo bg mak man maa mip v1 v2 (rt_ok R)) gL_law_X6_heard rfl rfl rfl qd_X6_heard rfl ⟨by decide, by decide⟩ ⟨by decide, by decide⟩ rfl (Nat.le_of_ble_eq_true rfl) ((wX τ a rws isv rc) ++ (wT τ (fun j => a (10 + j)) nlw nkd nbt nph ncn nno nct nsc nrn nlg ndn nzz) ++ (wT τ (fun j => a (20 + j)) tlw_1 tkd_1 tbt_1 tph_1 tcn_1 tno_1 tct_1 tsc_1 trn_1 tlg_1 tdn_1 tzz_1) ++ (wT τ (fun j => a (30 + j)) slw skd sbt sph scn sno sct ssc srn slg sdn szz) ++ (wP τ (fun j => a (40 + j)) bs tz so fr tt ft) ++ (wA τ (fun j => a (50 + j)) bo bg ak an aa ip) ++ (wSS τ a sit ssr ssi) ++ (wHH τ a shw shn shs shz)) 41 15 rfl rfl (fun _ => rfl) (by decide +kernel) (by decide +kernel) (by decide +kernel) (List.Perm.refl _) 6 0 rfl rfl (fun u => ((wX τ a rws isv rc) ++ (wT τ (fun j => a (10 + j)) nlw nkd nbt nph ncn nno nct nsc nrn nlg ndn nzz) ++ (wT τ (fun j => a (20 + j)) tlw_1 tkd_1 tbt_1 tph_1 tcn_1 tno_1 tct_1 tsc_1 trn_1 tlg_1 tdn_1 tzz_1) ++ (wT τ (fun j => a (30 + j)) slw skd sbt sph scn sno sct ssc srn slg sdn szz) ++ (wP τ (fun j => a (40 + j)) bs tz so fr tt ft) ++ (wA τ (fun j => a (50 + j)) bo bg ak an aa ip) ++ (wSS τ a sit ssr ssi) ++ (wHH τ a shw shn shs shz) ++ (wM τ b u.1 mhd u.2.1 mbf isv mtp tz mtk mfr mtt mvl miw u.2.2 mrw rc mso msz mnu mhw mhh mhm mbo bg mak man maa mip))) (fun _ => List.Perm.refl _) (fun r2 u2 hX2 hn2 => ?_)
  obtain ⟨ss_2, mas_2, mld_2⟩ := u2
  have E := e_heard (mas := mas) (mld := mld) (tlw := tlw) (tkd := tkd) (tbt := tbt) (tph := tph) (tcn := tcn) (tno := tno) (tct := tct) (tsc := tsc) (trn := trn) (tlg := tlg) (tdn := tdn) (tzz := tzz) R v1 v2
  rw [hX1, hX2] at E
  refine j_icmp_eq C dL_law_991 1645 rfl 994 rfl (fun _ => ?_) (fun c => absurd E.1 c)
  exact nx _ _ _ _ _ _ _ _ _ _ _ _ _ _ _ _ _ _ _ _ _ _ _ _ _ _ _ _ _ _ _ _ _ _ _ _ _ _ _ _ _ _ _ _ _ _ _ _ _ _ _ _ _ _ _ _ _ _ _ _ _ _ _ _ _ _ _ _ _ _ _ _ _ _ _ _ _ _ _ _ _ ⟨(rt_same R E.2), hV, ⟨hrc, hrw⟩, hT, hB, hS, hH⟩
set_option maxHeartbeats 4000000 in
set_option maxRecDepth 100000 in
theorem Lw_calm {τ : SX} {κ : KX} {a b : Nat → Nat} {sb L : Nat} {xs : Nat → Int32} {i : Int32} (C : Cx τ κ cL_law RL wsL_law room_1 4) (X : SB κ sb L xs) (hi : 0 ≤ i.toInt ∧ i.toInt + 5 ≤ L ∧ L ≤ 2560) {v1 v2 v3 v4 : Int32} (h1 : xs (i + 1).toNatClampNeg = v1) (h2 : xs (i + 2).toNatClampNeg = v2) (h3 : xs (i + 3).toNatClampNeg = v3) (h4 : xs (i + 4).toNatClampNeg = v4) (nx : NX τ κ a b sb i) (rws : Nat → Int32) (isv rc : Int32) (nlw nkd nbt nph ncn nno : Nat → Int32) (nct nsc nrn nlg ndn nzz : Int32) (tlw tkd tbt tph tcn tno : Nat → Int32) (tct tsc trn tlg tdn tzz : Int32) (slw skd sbt sph scn sno : Nat → Int32) (sct ssc srn slg sdn szz : Int32) (bs : Nat → Int32) (tz so fr tt ft : Int32) (bo : Nat → Int32) (bg ak an aa ip : Int32) (sit : Nat → Nat → Int64) (ssr ssi shw shn shs shz ss mhd mas mbf mtp : Nat → Int32) (mtk mfr mtt mvl miw : Int32) (mld mrw mso msz mnu mhw mhh mhm mbo : Nat → Int32) (mak man maa mip : Int32) (hI : INV rws isv rc nlw nkd nbt nph ncn nno nct nsc nrn nlg ndn nzz slw skd sbt sph scn sno sct ssc srn slg sdn szz bs tz bo bg sit ssr ssi shw shn shs shz ss mhd mtp mrw mso msz mnu mhw mhh mhm mbo) : J τ κ 56 1325 (LWs τ a b rws isv rc nlw nkd nbt nph ncn nno nct nsc nrn nlg ndn nzz tlw tkd tbt tph tcn tno tct tsc trn tlg tdn tzz slw skd sbt sph scn sno sct ssc srn slg sdn szz bs tz so fr tt ft bo bg ak an aa ip sit ssr ssi shw shn shs shz ss mhd mas mbf mtp mtk mfr mtt mvl miw mld mrw mso msz mnu mhw mhh mhm mbo mak man maa mip) (LVs sb a b i) 996 [] := by
  obtain ⟨R, hV, ⟨hrc, hrw⟩, hT, hB, hS, hH⟩ := hI
  refine j_aload_n C dL_law_996 997 rfl rfl 1 rfl ?_
  refine j_aload_n C dL_law_997 998 rfl rfl 0 rfl ?_
  refine j_iload_n C dL_law_998 999 rfl rfl 3 rfl ?_
  refine j_iconst (v := 1) C dL_law_999 1000 rfl (by decide) ?_
  refine j_iadd C dL_law_1000 1001 rfl ?_
  refine j_sld C X dL_law_1001 1002 rfl (sl_in hi (by decide) (by decide)) h1 ?_
  refine j_cvIp (na := 1) C dL_law_1002 1005 rfl (c_X5_calm τ a rws isv rc nlw nkd nbt nph ncn nno nct nsc nrn nlg ndn nzz tlw tkd tbt tph tcn tno tct tsc trn tlg tdn tzz v1 hrc.1 hrc.2 R.2.2.1.1 R.2.2.1.2) gL_law_X5_calm rfl rfl rfl qd_X5_calm rfl ⟨by decide, by decide⟩ ⟨by decide, by decide⟩ rfl (Nat.le_of_ble_eq_true rfl) ((wT τ (fun j => a (30 + j)) slw skd sbt sph scn sno sct ssc srn slg sdn szz) ++ (wP τ (fun j => a (40 + j)) bs tz so fr tt ft) ++ (wA τ (fun j => a (50 + j)) bo bg ak an aa ip) ++ (wSS τ a sit ssr ssi) ++ (wHH τ a shw shn shs shz) ++ (wM τ b ss mhd mas mbf isv mtp tz mtk mfr mtt mvl miw mld mrw rc mso msz mnu mhw mhh mhm mbo bg mak man maa mip)) 38 18 rfl rfl (fun _ => rfl) (by decide +kernel) (by decide +kernel) (by decide +kernel) (pm_0_1_2 _ _ _ _ _ _ _ _ _) 5 0 rfl rfl (fun u => ((wX τ a rws isv rc) ++ (wT τ (fun j => a (10 + j)) nlw nkd nbt nph ncn nno nct nsc nrn nlg ndn nzz) ++ (wT τ (fun j => a (20 + j)) u.1 u.2.1 u.2.2.1 u.2.2.2.1 u.2.2.2.2.1 u.2.2.2.2.2.1 u.2.2.2.2.2.2.1 u.2.2.2.2.2.2.2.1 u.2.2.2.2.2.2.2.2.1 u.2.2.2.2.2.2.2.2.2.1 u.2.2.2.2.2.2.2.2.2.2.1 u.2.2.2.2.2.2.2.2.2.2.2) ++ (wT τ (fun j => a (30 + j)) slw skd sbt sph scn sno sct ssc srn slg sdn szz) ++ (wP τ (fun j => a (40 + j)) bs tz so fr tt ft) ++ (wA τ (fun j => a (50 + j)) bo bg ak an aa ip) ++ (wSS τ a sit ssr ssi) ++ (wHH τ a shw shn shs shz) ++ (wM τ b ss mhd mas mbf isv mtp tz mtk mfr mtt mvl miw mld mrw rc mso msz mnu mhw mhh mhm mbo bg mak man maa mip))) (fun _ => pm_0_1_2 _ _ _ _ _ _ _ _ _) (fun r1 u1 hX1 hn1 => ?_)
  obtain ⟨tlw_1, tkd_1, tbt_1, tph_1, tcn_1, tno_1, tct_1, tsc_1, trn_1, tlg_1, tdn_1, tzz_1⟩ := u1
  refine j_aload_n C dL_law_1005 1006 rfl rfl 2 rfl ?_
  refine j_aload_n C dL_law_1006 1007 rfl rfl 0 rfl ?_
  refine j_iload_n C dL_law_1007 1008 rfl rfl 3 rfl ?_
  refine j_iconst (v := 1) C dL_law_1008 1009 rfl (by decide) ?_
  refine j_iadd C dL_law_1009 1010 rfl ?_
  refine j_sld C X dL_law_1010 1011 rfl (sl_in hi (by decide) (by decide)) h1 ?_
  refine j_cvIp (na := 1) C dL_law_1011 1014 rfl (c_X6_calm τ b ss mhd mas mbf isv mtp tz mtk mfr mtt mvl miw mld mrw rc mso msz mnu mhw mhh mhm mbo bg mak man maa mip v1 (rt_ok R)) gL_law_X6_calm rfl rfl rfl qd_X6_calm rfl ⟨by decide, by decide⟩ ⟨by decide, by decide⟩ rfl (Nat.le_of_ble_eq_true rfl) ((wX τ a rws isv rc) ++ (wT τ (fun j => a (10 + j)) nlw nkd nbt nph ncn nno nct nsc nrn nlg ndn nzz) ++ (wT τ (fun j => a (20 + j)) tlw_1 tkd_1 tbt_1 tph_1 tcn_1 tno_1 tct_1 tsc_1 trn_1 tlg_1 tdn_1 tzz_1) ++ (wT τ (fun j => a (30 + j)) slw skd sbt sph scn sno sct ssc srn slg sdn szz) ++ (wP τ (fun j => a (40 + j)) bs tz so fr tt ft) ++ (wA τ (fun j => a (50 + j)) bo bg ak an aa ip) ++ (wSS τ a sit ssr ssi) ++ (wHH τ a shw shn shs shz)) 41 15 rfl rfl (fun _ => rfl) (by decide +kernel) (by decide +kernel) (by decide +kernel) (List.Perm.refl _) 6 0 rfl rfl (fun u => ((wX τ a rws isv rc) ++ (wT τ (fun j => a (10 + j)) nlw nkd nbt nph ncn nno nct nsc nrn nlg ndn nzz) ++ (wT τ (fun j => a (20 + j)) tlw_1 tkd_1 tbt_1 tph_1 tcn_1 tno_1 tct_1 tsc_1 trn_1 tlg_1 tdn_1 tzz_1) ++ (wT τ (fun j => a (30 + j)) slw skd sbt sph scn sno sct ssc srn slg sdn szz) ++ (wP τ (fun j => a (40 + j)) bs tz so fr tt ft) ++ (wA τ (fun j => a (50 + j)) bo bg ak an aa ip) ++ (wSS τ a sit ssr ssi) ++ (wHH τ a shw shn shs shz) ++ (wM τ b u.1 mhd u.2.1 mbf isv mtp tz mtk mfr mtt mvl miw u.2.2 mrw rc mso msz mnu mhw mhh mhm mbo bg mak man maa mip))) (fun _ => List.Perm.refl _) (fun r2 u2 hX2 hn2 => ?_)
  obtain ⟨ss_2, mas_2, mld_2⟩ := u2
  have E := e_calm (mas := mas) (mld := mld) (tlw := tlw) (tkd := tkd) (tbt := tbt) (tph := tph) (tcn := tcn) (tno := tno) (tct := tct) (tsc := tsc) (trn := trn) (tlg := tlg) (tdn := tdn) (tzz := tzz) R v1
  rw [hX1, hX2] at E
  refine j_icmp_eq C dL_law_1014 1645 rfl 1017 rfl (fun _ => ?_) (fun c => absurd E.1 c)
  exact nx _ _ _ _ _ _ _ _ _ _ _ _ _ _ _ _ _ _ _ _ _ _ _ _ _ _ _ _ _ _ _ _ _ _ _ _ _ _ _ _ _ _ _ _ _ _ _ _ _ _ _ _ _ _ _ _ _ _ _ _ _ _ _ _ _ _ _ _ _ _ _ _ _ _ _ _ _ _ _ _ _ ⟨(rt_same R E.2), hV, ⟨hrc, hrw⟩, hT, hB, hS, hH⟩
set_option maxHeartbeats 4000000 in
set_option maxRecDepth 100000 in
theorem Lw_fits {τ : SX} {κ : KX} {a b : Nat → Nat} {sb L : Nat} {xs : Nat → Int32} {i : Int32} (C : Cx τ κ cL_law RL wsL_law room_1 4) (X : SB κ sb L xs) (hi : 0 ≤ i.toInt ∧ i.toInt + 5 ≤ L ∧ L ≤ 2560) {v1 v2 v3 v4 : Int32} (h1 : xs (i + 1).toNatClampNeg = v1) (h2 : xs (i + 2).toNatClampNeg = v2) (h3 : xs (i + 3).toNatClampNeg = v3) (h4 : xs (i + 4).toNatClampNeg = v4) (nx : NX τ κ a b sb i) (rws : Nat → Int32) (isv rc : Int32) (nlw nkd nbt nph ncn nno : Nat → Int32) (nct nsc nrn nlg ndn nzz : Int32) (tlw tkd tbt tph tcn tno : Nat → Int32) (tct tsc trn tlg tdn tzz : Int32) (slw skd sbt sph scn sno : Nat → Int32) (sct ssc srn slg sdn szz : Int32) (bs : Nat → Int32) (tz so fr tt ft : Int32) (bo : Nat → Int32) (bg ak an aa ip : Int32) (sit : Nat → Nat → Int64) (ssr ssi shw shn shs shz ss mhd mas mbf mtp : Nat → Int32) (mtk mfr mtt mvl miw : Int32) (mld mrw mso msz mnu mhw mhh mhm mbo : Nat → Int32) (mak man maa mip : Int32) (hI : INV rws isv rc nlw nkd nbt nph ncn nno nct nsc nrn nlg ndn nzz slw skd sbt sph scn sno sct ssc srn slg sdn szz bs tz bo bg sit ssr ssi shw shn shs shz ss mhd mtp mrw mso msz mnu mhw mhh mhm mbo) : J τ κ 56 1325 (LWs τ a b rws isv rc nlw nkd nbt nph ncn nno nct nsc nrn nlg ndn nzz tlw tkd tbt tph tcn tno tct tsc trn tlg tdn tzz slw skd sbt sph scn sno sct ssc srn slg sdn szz bs tz so fr tt ft bo bg ak an aa ip sit ssr ssi shw shn shs shz ss mhd mas mbf mtp mtk mfr mtt mvl miw mld mrw mso msz mnu mhw mhh mhm mbo mak man maa mip) (LVs sb a b i) 1019 [] := by
  obtain ⟨R, hV, ⟨hrc, hrw⟩, hT, hB, hS, hH⟩ := hI
  refine j_aload_n C dL_law_1019 1020 rfl rfl 1 rfl ?_
  refine j_aload_n C dL_law_1020 1021 rfl rfl 0 rfl ?_
  refine j_iload_n C dL_law_1021 1022 rfl rfl 3 rfl ?_
  refine j_iconst (v := 1) C dL_law_1022 1023 rfl (by decide) ?_
  refine j_iadd C dL_law_1023 1024 rfl ?_
  refine j_sld C X dL_law_1024 1025 rfl (sl_in hi (by decide) (by decide)) h1 ?_
  refine j_aload_n C dL_law_1025 1026 rfl rfl 0 rfl ?_
  refine j_iload_n C dL_law_1026 1027 rfl rfl 3 rfl ?_
  refine j_iconst (v := 2) C dL_law_1027 1028 rfl (by decide) ?_
  refine j_iadd C dL_law_1028 1029 rfl ?_
  refine j_sld C X dL_law_1029 1030 rfl (sl_in hi (by decide) (by decide)) h2 ?_
  refine j_aload_n C dL_law_1030 1031 rfl rfl 0 rfl ?_
  refine j_iload_n C dL_law_1031 1032 rfl rfl 3 rfl ?_
  refine j_iconst (v := 3) C dL_law_1032 1033 rfl (by decide) ?_
  refine j_iadd C dL_law_1033 1034 rfl ?_
  refine j_sld C X dL_law_1034 1035 rfl (sl_in hi (by decide) (by decide)) h3 ?_
  refine j_cvIp (na := 3) C dL_law_1035 1038 rfl (c_X5_fits τ a rws isv rc nlw nkd nbt nph ncn nno nct nsc nrn nlg ndn nzz tlw tkd tbt tph tcn tno tct tsc trn tlg tdn tzz sit ssr ssi v1 v2 v3 hrc.1 hrc.2 R.2.2.1.1 R.2.2.1.2 hS.1) gL_law_X5_fits rfl rfl rfl qd_X5_fits rfl ⟨by decide, by decide⟩ ⟨by decide, by decide⟩ rfl (Nat.le_of_ble_eq_true rfl) ((wT τ (fun j => a (30 + j)) slw skd sbt sph scn sno sct ssc srn slg sdn szz) ++ (wP τ (fun j => a (40 + j)) bs tz so fr tt ft) ++ (wA τ (fun j => a (50 + j)) bo bg ak an aa ip) ++ (wHH τ a shw shn shs shz) ++ (wM τ b ss mhd mas mbf isv mtp tz mtk mfr mtt mvl miw mld mrw rc mso msz mnu mhw mhh mhm mbo bg mak man maa mip)) 30 26 rfl rfl (fun _ => rfl) (by decide +kernel) (by decide +kernel) (by decide +kernel) (pm_0_1_2_6 _ _ _ _ _ _ _ _ _) 5 0 rfl rfl (fun u => ((wX τ a rws isv rc) ++ (wT τ (fun j => a (10 + j)) nlw nkd nbt nph ncn nno nct nsc nrn nlg ndn nzz) ++ (wT τ (fun j => a (20 + j)) u.1 u.2.1 u.2.2.1 u.2.2.2.1 u.2.2.2.2.1 u.2.2.2.2.2.1 u.2.2.2.2.2.2.1 u.2.2.2.2.2.2.2.1 u.2.2.2.2.2.2.2.2.1 u.2.2.2.2.2.2.2.2.2.1 u.2.2.2.2.2.2.2.2.2.2.1 u.2.2.2.2.2.2.2.2.2.2.2) ++ (wT τ (fun j => a (30 + j)) slw skd sbt sph scn sno sct ssc srn slg sdn szz) ++ (wP τ (fun j => a (40 + j)) bs tz so fr tt ft) ++ (wA τ (fun j => a (50 + j)) bo bg ak an aa ip) ++ (wSS τ a sit ssr ssi) ++ (wHH τ a shw shn shs shz) ++ (wM τ b ss mhd mas mbf isv mtp tz mtk mfr mtt mvl miw mld mrw rc mso msz mnu mhw mhh mhm mbo bg mak man maa mip))) (fun _ => pm_0_1_2_6 _ _ _ _ _ _ _ _ _) (fun r1 u1 hX1 hn1 => ?_)
  obtain ⟨tlw_1, tkd_1, tbt_1, tph_1, tcn_1, tno_1, tct_1, tsc_1, trn_1, tlg_1, tdn_1, tzz_1⟩ := u1
  refine j_aload_n C dL_law_1038 1039 rfl rfl 2 rfl ?_
  refine j_aload_n C dL_law_1039 1040 rfl rfl 0 rfl ?_
  refine j_iload_n C dL_law_1040 1041 rfl rfl 3 rfl ?_
  refine j_iconst (v := 1) C dL_law_1041 1042 rfl (by decide) ?_
  refine j_iadd C dL_law_1042 1043 rfl ?_
  refine j_sld C X dL_law_1043 1044 rfl (sl_in hi (by decide) (by decide)) h1 ?_
  refine j_aload_n C dL_law_1044 1045 rfl rfl 0 rfl ?_
  refine j_iload_n C dL_law_1045 1046 rfl rfl 3 rfl ?_
  refine j_iconst (v := 2) C dL_law_1046 1047 rfl (by decide) ?_
  refine j_iadd C dL_law_1047 1048 rfl ?_
  refine j_sld C X dL_law_1048 1049 rfl (sl_in hi (by decide) (by decide)) h2 ?_
  refine j_aload_n C dL_law_1049 1050 rfl rfl 0 rfl ?_
  refine j_iload_n C dL_law_1050 1051 rfl rfl 3 rfl ?_
  refine j_iconst (v := 3) C dL_law_1051 1052 rfl (by decide) ?_
  refine j_iadd C dL_law_1052 1053 rfl ?_
  refine j_sld C X dL_law_1053 1054 rfl (sl_in hi (by decide) (by decide)) h3 ?_
  refine j_cvIp (na := 3) C dL_law_1054 1057 rfl (c_X6_fits τ b ss mhd mas mbf isv mtp tz mtk mfr mtt mvl miw mld mrw rc mso msz mnu mhw mhh mhm mbo bg mak man maa mip v1 v2 v3 (rt_ok R) hS.2.1) gL_law_X6_fits rfl rfl rfl qd_X6_fits rfl ⟨by decide, by decide⟩ ⟨by decide, by decide⟩ rfl (Nat.le_of_ble_eq_true rfl) ((wX τ a rws isv rc) ++ (wT τ (fun j => a (10 + j)) nlw nkd nbt nph ncn nno nct nsc nrn nlg ndn nzz) ++ (wT τ (fun j => a (20 + j)) tlw_1 tkd_1 tbt_1 tph_1 tcn_1 tno_1 tct_1 tsc_1 trn_1 tlg_1 tdn_1 tzz_1) ++ (wT τ (fun j => a (30 + j)) slw skd sbt sph scn sno sct ssc srn slg sdn szz) ++ (wP τ (fun j => a (40 + j)) bs tz so fr tt ft) ++ (wA τ (fun j => a (50 + j)) bo bg ak an aa ip) ++ (wSS τ a sit ssr ssi) ++ (wHH τ a shw shn shs shz)) 41 15 rfl rfl (fun _ => rfl) (by decide +kernel) (by decide +kernel) (by decide +kernel) (List.Perm.refl _) 6 0 rfl rfl (fun u => ((wX τ a rws isv rc) ++ (wT τ (fun j => a (10 + j)) nlw nkd nbt nph ncn nno nct nsc nrn nlg ndn nzz) ++ (wT τ (fun j => a (20 + j)) tlw_1 tkd_1 tbt_1 tph_1 tcn_1 tno_1 tct_1 tsc_1 trn_1 tlg_1 tdn_1 tzz_1) ++ (wT τ (fun j => a (30 + j)) slw skd sbt sph scn sno sct ssc srn slg sdn szz) ++ (wP τ (fun j => a (40 + j)) bs tz so fr tt ft) ++ (wA τ (fun j => a (50 + j)) bo bg ak an aa ip) ++ (wSS τ a sit ssr ssi) ++ (wHH τ a shw shn shs shz) ++ (wM τ b u.1 mhd u.2 mbf isv mtp tz mtk mfr mtt mvl miw mld mrw rc mso msz mnu mhw mhh mhm mbo bg mak man maa mip))) (fun _ => List.Perm.refl _) (fun r2 u2 hX2 hn2 => ?_)
  obtain ⟨ss_2, mas_2⟩ := u2
  have E := e_fits (mas := mas) (tlw := tlw) (tkd := tkd) (tbt := tbt) (tph := tph) (tcn := tcn) (tno := tno) (tct := tct) (tsc := tsc) (trn := trn) (tlg := tlg) (tdn := tdn) (tzz := tzz) R hS v1 v2 v3
  rw [hX1, hX2] at E
  refine j_icmp_eq C dL_law_1057 1645 rfl 1060 rfl (fun _ => ?_) (fun c => absurd E.1 c)
  exact nx _ _ _ _ _ _ _ _ _ _ _ _ _ _ _ _ _ _ _ _ _ _ _ _ _ _ _ _ _ _ _ _ _ _ _ _ _ _ _ _ _ _ _ _ _ _ _ _ _ _ _ _ _ _ _ _ _ _ _ _ _ _ _ _ _ _ _ _ _ _ _ _ _ _ _ _ _ _ _ _ _ ⟨(rt_same R E.2), hV, ⟨hrc, hrw⟩, hT, hB, hS, hH⟩
set_option maxHeartbeats 4000000 in
set_option maxRecDepth 100000 in
theorem Lw_odds {τ : SX} {κ : KX} {a b : Nat → Nat} {sb L : Nat} {xs : Nat → Int32} {i : Int32} (C : Cx τ κ cL_law RL wsL_law room_1 4) (X : SB κ sb L xs) (hi : 0 ≤ i.toInt ∧ i.toInt + 5 ≤ L ∧ L ≤ 2560) {v1 v2 v3 v4 : Int32} (h1 : xs (i + 1).toNatClampNeg = v1) (h2 : xs (i + 2).toNatClampNeg = v2) (h3 : xs (i + 3).toNatClampNeg = v3) (h4 : xs (i + 4).toNatClampNeg = v4) (nx : NX τ κ a b sb i) (rws : Nat → Int32) (isv rc : Int32) (nlw nkd nbt nph ncn nno : Nat → Int32) (nct nsc nrn nlg ndn nzz : Int32) (tlw tkd tbt tph tcn tno : Nat → Int32) (tct tsc trn tlg tdn tzz : Int32) (slw skd sbt sph scn sno : Nat → Int32) (sct ssc srn slg sdn szz : Int32) (bs : Nat → Int32) (tz so fr tt ft : Int32) (bo : Nat → Int32) (bg ak an aa ip : Int32) (sit : Nat → Nat → Int64) (ssr ssi shw shn shs shz ss mhd mas mbf mtp : Nat → Int32) (mtk mfr mtt mvl miw : Int32) (mld mrw mso msz mnu mhw mhh mhm mbo : Nat → Int32) (mak man maa mip : Int32) (hI : INV rws isv rc nlw nkd nbt nph ncn nno nct nsc nrn nlg ndn nzz slw skd sbt sph scn sno sct ssc srn slg sdn szz bs tz bo bg sit ssr ssi shw shn shs shz ss mhd mtp mrw mso msz mnu mhw mhh mhm mbo) : J τ κ 56 1325 (LWs τ a b rws isv rc nlw nkd nbt nph ncn nno nct nsc nrn nlg ndn nzz tlw tkd tbt tph tcn tno tct tsc trn tlg tdn tzz slw skd sbt sph scn sno sct ssc srn slg sdn szz bs tz so fr tt ft bo bg ak an aa ip sit ssr ssi shw shn shs shz ss mhd mas mbf mtp mtk mfr mtt mvl miw mld mrw mso msz mnu mhw mhh mhm mbo mak man maa mip) (LVs sb a b i) 1062 [] := by
  obtain ⟨R, hV, ⟨hrc, hrw⟩, hT, hB, hS, hH⟩ := hI
  refine j_aload_n C dL_law_1062 1063 rfl rfl 1 rfl ?_
  refine j_aload_n C dL_law_1063 1064 rfl rfl 0 rfl ?_
  refine j_iload_n C dL_law_1064 1065 rfl rfl 3 rfl ?_
  refine j_iconst (v := 1) C dL_law_1065 1066 rfl (by decide) ?_
  refine j_iadd C dL_law_1066 1067 rfl ?_
  refine j_sld C X dL_law_1067 1068 rfl (sl_in hi (by decide) (by decide)) h1 ?_
  refine j_aload_n C dL_law_1068 1069 rfl rfl 0 rfl ?_
  refine j_iload_n C dL_law_1069 1070 rfl rfl 3 rfl ?_
  refine j_iconst (v := 2) C dL_law_1070 1071 rfl (by decide) ?_
  refine j_iadd C dL_law_1071 1072 rfl ?_
  refine j_sld C X dL_law_1072 1073 rfl (sl_in hi (by decide) (by decide)) h2 ?_
  refine j_aload_n C dL_law_1073 1074 rfl rfl 0 rfl ?_
  refine j_iload_n C dL_law_1074 1075 rfl rfl 3 rfl ?_
  refine j_iconst (v := 3) C dL_law_1075 1076 rfl (by decide) ?_
  refine j_iadd C dL_law_1076 1077 rfl ?_
  refine j_sld C X dL_law_1077 1078 rfl (sl_in hi (by decide) (by decide)) h3 ?_
  refine j_cvLp (na := 3) C dL_law_1078 1081 rfl (c_X5_odds τ a rws isv rc nlw nkd nbt nph ncn nno nct nsc nrn nlg ndn nzz v1 v2 v3 hrc.1 hrc.2 R.2.2.1.1 R.2.2.1.2) gL_law_X5_odds rfl rfl rfl qd_X5_odds rfl ⟨by decide, by decide⟩ ⟨by decide, by decide⟩ rfl (Nat.le_of_ble_eq_true rfl) ((wT τ (fun j => a (20 + j)) tlw tkd tbt tph tcn tno tct tsc trn tlg tdn tzz) ++ (wT τ (fun j => a (30 + j)) slw skd sbt sph scn sno sct ssc srn slg sdn szz) ++ (wP τ (fun j => a (40 + j)) bs tz so fr tt ft) ++ (wA τ (fun j => a (50 + j)) bo bg ak an aa ip) ++ (wSS τ a sit ssr ssi) ++ (wHH τ a shw shn shs shz) ++ (wM τ b ss mhd mas mbf isv mtp tz mtk mfr mtt mvl miw mld mrw rc mso msz mnu mhw mhh mhm mbo bg mak man maa mip)) 45 11 rfl rfl (fun _ => rfl) (by decide +kernel) (by decide +kernel) (by decide +kernel) (pm_0_1 _ _ _ _ _ _ _ _ _) 5 0 rfl rfl (fun _ => ((wX τ a rws isv rc) ++ (wT τ (fun j => a (10 + j)) nlw nkd nbt nph ncn nno nct nsc nrn nlg ndn nzz) ++ (wT τ (fun j => a (20 + j)) tlw tkd tbt tph tcn tno tct tsc trn tlg tdn tzz) ++ (wT τ (fun j => a (30 + j)) slw skd sbt sph scn sno sct ssc srn slg sdn szz) ++ (wP τ (fun j => a (40 + j)) bs tz so fr tt ft) ++ (wA τ (fun j => a (50 + j)) bo bg ak an aa ip) ++ (wSS τ a sit ssr ssi) ++ (wHH τ a shw shn shs shz) ++ (wM τ b ss mhd mas mbf isv mtp tz mtk mfr mtt mvl miw mld mrw rc mso msz mnu mhw mhh mhm mbo bg mak man maa mip))) (fun _ => pm_0_1 _ _ _ _ _ _ _ _ _) (fun r1 u1 hX1 => ?_)
  obtain rfl := (Prod.mk.inj hX1).1
  refine j_aload_n C dL_law_1081 1082 rfl rfl 2 rfl ?_
  refine j_aload_n C dL_law_1082 1083 rfl rfl 0 rfl ?_
  refine j_iload_n C dL_law_1083 1084 rfl rfl 3 rfl ?_
  refine j_iconst (v := 1) C dL_law_1084 1085 rfl (by decide) ?_
  refine j_iadd C dL_law_1085 1086 rfl ?_
  refine j_sld C X dL_law_1086 1087 rfl (sl_in hi (by decide) (by decide)) h1 ?_
  refine j_aload_n C dL_law_1087 1088 rfl rfl 0 rfl ?_
  refine j_iload_n C dL_law_1088 1089 rfl rfl 3 rfl ?_
  refine j_iconst (v := 2) C dL_law_1089 1090 rfl (by decide) ?_
  refine j_iadd C dL_law_1090 1091 rfl ?_
  refine j_sld C X dL_law_1091 1092 rfl (sl_in hi (by decide) (by decide)) h2 ?_
  refine j_aload_n C dL_law_1092 1093 rfl rfl 0 rfl ?_
  refine j_iload_n C dL_law_1093 1094 rfl rfl 3 rfl ?_
  refine j_iconst (v := 3) C dL_law_1094 1095 rfl (by decide) ?_
  refine j_iadd C dL_law_1095 1096 rfl ?_
  refine j_sld C X dL_law_1096 1097 rfl (sl_in hi (by decide) (by decide)) h3 ?_
  refine j_cvLp (na := 3) C dL_law_1097 1100 rfl (c_X6_odds τ b ss mhd mas mbf isv mtp tz mtk mfr mtt mvl miw mld mrw rc mso msz mnu mhw mhh mhm mbo bg mak man maa mip v1 v2 v3 (rt_cg R)) gL_law_X6_odds rfl rfl rfl qd_X6_odds rfl ⟨by decide, by decide⟩ ⟨by decide, by decide⟩ rfl (Nat.le_of_ble_eq_true rfl) ((wX τ a rws isv rc) ++ (wT τ (fun j => a (10 + j)) nlw nkd nbt nph ncn nno nct nsc nrn nlg ndn nzz) ++ (wT τ (fun j => a (20 + j)) tlw tkd tbt tph tcn tno tct tsc trn tlg tdn tzz) ++ (wT τ (fun j => a (30 + j)) slw skd sbt sph scn sno sct ssc srn slg sdn szz) ++ (wP τ (fun j => a (40 + j)) bs tz so fr tt ft) ++ (wA τ (fun j => a (50 + j)) bo bg ak an aa ip) ++ (wSS τ a sit ssr ssi) ++ (wHH τ a shw shn shs shz)) 41 15 rfl rfl (fun _ => rfl) (by decide +kernel) (by decide +kernel) (by decide +kernel) (List.Perm.refl _) 6 0 rfl rfl (fun _ => ((wX τ a rws isv rc) ++ (wT τ (fun j => a (10 + j)) nlw nkd nbt nph ncn nno nct nsc nrn nlg ndn nzz) ++ (wT τ (fun j => a (20 + j)) tlw tkd tbt tph tcn tno tct tsc trn tlg tdn tzz) ++ (wT τ (fun j => a (30 + j)) slw skd sbt sph scn sno sct ssc srn slg sdn szz) ++ (wP τ (fun j => a (40 + j)) bs tz so fr tt ft) ++ (wA τ (fun j => a (50 + j)) bo bg ak an aa ip) ++ (wSS τ a sit ssr ssi) ++ (wHH τ a shw shn shs shz) ++ (wM τ b ss mhd mas mbf isv mtp tz mtk mfr mtt mvl miw mld mrw rc mso msz mnu mhw mhh mhm mbo bg mak man maa mip))) (fun _ => List.Perm.refl _) (fun r2 u2 hX2 => ?_)
  obtain rfl := (Prod.mk.inj hX2).1
  have E := e_odds  R v1 v2 v3
  refine j_lcmp C dL_law_1100 1101 rfl ?_
  refine j_if_eq C dL_law_1101 1645 rfl 1104 rfl (fun _ => ?_) (fun c => absurd (cmp_self E) c)
  exact nx _ _ _ _ _ _ _ _ _ _ _ _ _ _ _ _ _ _ _ _ _ _ _ _ _ _ _ _ _ _ _ _ _ _ _ _ _ _ _ _ _ _ _ _ _ _ _ _ _ _ _ _ _ _ _ _ _ _ _ _ _ _ _ _ _ _ _ _ _ _ _ _ _ _ _ _ _ _ _ _ _ ⟨R, hV, ⟨hrc, hrw⟩, hT, hB, hS, hH⟩
set_option maxHeartbeats 4000000 in
set_option maxRecDepth 100000 in
theorem Lw_hope {τ : SX} {κ : KX} {a b : Nat → Nat} {sb L : Nat} {xs : Nat → Int32} {i : Int32} (C : Cx τ κ cL_law RL wsL_law room_1 4) (X : SB κ sb L xs) (hi : 0 ≤ i.toInt ∧ i.toInt + 5 ≤ L ∧ L ≤ 2560) {v1 v2 v3 v4 : Int32} (h1 : xs (i + 1).toNatClampNeg = v1) (h2 : xs (i + 2).toNatClampNeg = v2) (h3 : xs (i + 3).toNatClampNeg = v3) (h4 : xs (i + 4).toNatClampNeg = v4) (nx : NX τ κ a b sb i) (rws : Nat → Int32) (isv rc : Int32) (nlw nkd nbt nph ncn nno : Nat → Int32) (nct nsc nrn nlg ndn nzz : Int32) (tlw tkd tbt tph tcn tno : Nat → Int32) (tct tsc trn tlg tdn tzz : Int32) (slw skd sbt sph scn sno : Nat → Int32) (sct ssc srn slg sdn szz : Int32) (bs : Nat → Int32) (tz so fr tt ft : Int32) (bo : Nat → Int32) (bg ak an aa ip : Int32) (sit : Nat → Nat → Int64) (ssr ssi shw shn shs shz ss mhd mas mbf mtp : Nat → Int32) (mtk mfr mtt mvl miw : Int32) (mld mrw mso msz mnu mhw mhh mhm mbo : Nat → Int32) (mak man maa mip : Int32) (hI : INV rws isv rc nlw nkd nbt nph ncn nno nct nsc nrn nlg ndn nzz slw skd sbt sph scn sno sct ssc srn slg sdn szz bs tz bo bg sit ssr ssi shw shn shs shz ss mhd mtp mrw mso msz mnu mhw mhh mhm mbo) : J τ κ 56 1325 (LWs τ a b rws isv rc nlw nkd nbt nph ncn nno nct nsc nrn nlg ndn nzz tlw tkd tbt tph tcn tno tct tsc trn tlg tdn tzz slw skd sbt sph scn sno sct ssc srn slg sdn szz bs tz so fr tt ft bo bg ak an aa ip sit ssr ssi shw shn shs shz ss mhd mas mbf mtp mtk mfr mtt mvl miw mld mrw mso msz mnu mhw mhh mhm mbo mak man maa mip) (LVs sb a b i) 1106 [] := by
  obtain ⟨R, hV, ⟨hrc, hrw⟩, hT, hB, hS, hH⟩ := hI
  refine j_aload_n C dL_law_1106 1107 rfl rfl 1 rfl ?_
  refine j_aload_n C dL_law_1107 1108 rfl rfl 0 rfl ?_
  refine j_iload_n C dL_law_1108 1109 rfl rfl 3 rfl ?_
  refine j_iconst (v := 1) C dL_law_1109 1110 rfl (by decide) ?_
  refine j_iadd C dL_law_1110 1111 rfl ?_
  refine j_sld C X dL_law_1111 1112 rfl (sl_in hi (by decide) (by decide)) h1 ?_
  refine j_aload_n C dL_law_1112 1113 rfl rfl 0 rfl ?_
  refine j_iload_n C dL_law_1113 1114 rfl rfl 3 rfl ?_
  refine j_iconst (v := 2) C dL_law_1114 1115 rfl (by decide) ?_
  refine j_iadd C dL_law_1115 1116 rfl ?_
  refine j_sld C X dL_law_1116 1117 rfl (sl_in hi (by decide) (by decide)) h2 ?_
  refine j_cvLp (na := 2) C dL_law_1117 1120 rfl (c_X5_hope τ a rws isv rc nlw nkd nbt nph ncn nno nct nsc nrn nlg ndn nzz v1 v2 hrc.1 hrc.2 R.2.2.1.1 R.2.2.1.2) gL_law_X5_hope rfl rfl rfl qd_X5_hope rfl ⟨by decide, by decide⟩ ⟨by decide, by decide⟩ rfl (Nat.le_of_ble_eq_true rfl) ((wT τ (fun j => a (20 + j)) tlw tkd tbt tph tcn tno tct tsc trn tlg tdn tzz) ++ (wT τ (fun j => a (30 + j)) slw skd sbt sph scn sno sct ssc srn slg sdn szz) ++ (wP τ (fun j => a (40 + j)) bs tz so fr tt ft) ++ (wA τ (fun j => a (50 + j)) bo bg ak an aa ip) ++ (wSS τ a sit ssr ssi) ++ (wHH τ a shw shn shs shz) ++ (wM τ b ss mhd mas mbf isv mtp tz mtk mfr mtt mvl miw mld mrw rc mso msz mnu mhw mhh mhm mbo bg mak man maa mip)) 45 11 rfl rfl (fun _ => rfl) (by decide +kernel) (by decide +kernel) (by decide +kernel) (pm_0_1 _ _ _ _ _ _ _ _ _) 5 0 rfl rfl (fun _ => ((wX τ a rws isv rc) ++ (wT τ (fun j => a (10 + j)) nlw nkd nbt nph ncn nno nct nsc nrn nlg ndn nzz) ++ (wT τ (fun j => a (20 + j)) tlw tkd tbt tph tcn tno tct tsc trn tlg tdn tzz) ++ (wT τ (fun j => a (30 + j)) slw skd sbt sph scn sno sct ssc srn slg sdn szz) ++ (wP τ (fun j => a (40 + j)) bs tz so fr tt ft) ++ (wA τ (fun j => a (50 + j)) bo bg ak an aa ip) ++ (wSS τ a sit ssr ssi) ++ (wHH τ a shw shn shs shz) ++ (wM τ b ss mhd mas mbf isv mtp tz mtk mfr mtt mvl miw mld mrw rc mso msz mnu mhw mhh mhm mbo bg mak man maa mip))) (fun _ => pm_0_1 _ _ _ _ _ _ _ _ _) (fun r1 u1 hX1 => ?_)
  obtain rfl := (Prod.mk.inj hX1).1
  refine j_aload_n C dL_law_1120 1121 rfl rfl 2 rfl ?_
  refine j_aload_n C dL_law_1121 1122 rfl rfl 0 rfl ?_
  refine j_iload_n C dL_law_1122 1123 rfl rfl 3 rfl ?_
  refine j_iconst (v := 1) C dL_law_1123 1124 rfl (by decide) ?_
  refine j_iadd C dL_law_1124 1125 rfl ?_
  refine j_sld C X dL_law_1125 1126 rfl (sl_in hi (by decide) (by decide)) h1 ?_
  refine j_aload_n C dL_law_1126 1127 rfl rfl 0 rfl ?_
  refine j_iload_n C dL_law_1127 1128 rfl rfl 3 rfl ?_
  refine j_iconst (v := 2) C dL_law_1128 1129 rfl (by decide) ?_
  refine j_iadd C dL_law_1129 1130 rfl ?_
  refine j_sld C X dL_law_1130 1131 rfl (sl_in hi (by decide) (by decide)) h2 ?_
  refine j_cvLp (na := 2) C dL_law_1131 1134 rfl (c_X6_hope τ b ss mhd mas mbf isv mtp tz mtk mfr mtt mvl miw mld mrw rc mso msz mnu mhw mhh mhm mbo bg mak man maa mip v1 v2 (rt_cg R)) gL_law_X6_hope rfl rfl rfl qd_X6_hope rfl ⟨by decide, by decide⟩ ⟨by decide, by decide⟩ rfl (Nat.le_of_ble_eq_true rfl) ((wX τ a rws isv rc) ++ (wT τ (fun j => a (10 + j)) nlw nkd nbt nph ncn nno nct nsc nrn nlg ndn nzz) ++ (wT τ (fun j => a (20 + j)) tlw tkd tbt tph tcn tno tct tsc trn tlg tdn tzz) ++ (wT τ (fun j => a (30 + j)) slw skd sbt sph scn sno sct ssc srn slg sdn szz) ++ (wP τ (fun j => a (40 + j)) bs tz so fr tt ft) ++ (wA τ (fun j => a (50 + j)) bo bg ak an aa ip) ++ (wSS τ a sit ssr ssi) ++ (wHH τ a shw shn shs shz)) 41 15 rfl rfl (fun _ => rfl) (by decide +kernel) (by decide +kernel) (by decide +kernel) (List.Perm.refl _) 6 0 rfl rfl (fun _ => ((wX τ a rws isv rc) ++ (wT τ (fun j => a (10 + j)) nlw nkd nbt nph ncn nno nct nsc nrn nlg ndn nzz) ++ (wT τ (fun j => a (20 + j)) tlw tkd tbt tph tcn tno tct tsc trn tlg tdn tzz) ++ (wT τ (fun j => a (30 + j)) slw skd sbt sph scn sno sct ssc srn slg sdn szz) ++ (wP τ (fun j => a (40 + j)) bs tz so fr tt ft) ++ (wA τ (fun j => a (50 + j)) bo bg ak an aa ip) ++ (wSS τ a sit ssr ssi) ++ (wHH τ a shw shn shs shz) ++ (wM τ b ss mhd mas mbf isv mtp tz mtk mfr mtt mvl miw mld mrw rc mso msz mnu mhw mhh mhm mbo bg mak man maa mip))) (fun _ => List.Perm.refl _) (fun r2 u2 hX2 => ?_)
  obtain rfl := (Prod.mk.inj hX2).1
  have E := e_hope  R v1 v2
  refine j_lcmp C dL_law_1134 1135 rfl ?_
  refine j_if_eq C dL_law_1135 1645 rfl 1138 rfl (fun _ => ?_) (fun c => absurd (cmp_self E) c)
  exact nx _ _ _ _ _ _ _ _ _ _ _ _ _ _ _ _ _ _ _ _ _ _ _ _ _ _ _ _ _ _ _ _ _ _ _ _ _ _ _ _ _ _ _ _ _ _ _ _ _ _ _ _ _ _ _ _ _ _ _ _ _ _ _ _ _ _ _ _ _ _ _ _ _ _ _ _ _ _ _ _ _ ⟨R, hV, ⟨hrc, hrw⟩, hT, hB, hS, hH⟩
set_option maxHeartbeats 4000000 in
set_option maxRecDepth 100000 in
theorem Lw_prove {τ : SX} {κ : KX} {a b : Nat → Nat} {sb L : Nat} {xs : Nat → Int32} {i : Int32} (C : Cx τ κ cL_law RL wsL_law room_1 4) (X : SB κ sb L xs) (hi : 0 ≤ i.toInt ∧ i.toInt + 5 ≤ L ∧ L ≤ 2560) {v1 v2 v3 v4 : Int32} (h1 : xs (i + 1).toNatClampNeg = v1) (h2 : xs (i + 2).toNatClampNeg = v2) (h3 : xs (i + 3).toNatClampNeg = v3) (h4 : xs (i + 4).toNatClampNeg = v4) (nx : NX τ κ a b sb i) (rws : Nat → Int32) (isv rc : Int32) (nlw nkd nbt nph ncn nno : Nat → Int32) (nct nsc nrn nlg ndn nzz : Int32) (tlw tkd tbt tph tcn tno : Nat → Int32) (tct tsc trn tlg tdn tzz : Int32) (slw skd sbt sph scn sno : Nat → Int32) (sct ssc srn slg sdn szz : Int32) (bs : Nat → Int32) (tz so fr tt ft : Int32) (bo : Nat → Int32) (bg ak an aa ip : Int32) (sit : Nat → Nat → Int64) (ssr ssi shw shn shs shz ss mhd mas mbf mtp : Nat → Int32) (mtk mfr mtt mvl miw : Int32) (mld mrw mso msz mnu mhw mhh mhm mbo : Nat → Int32) (mak man maa mip : Int32) (hI : INV rws isv rc nlw nkd nbt nph ncn nno nct nsc nrn nlg ndn nzz slw skd sbt sph scn sno sct ssc srn slg sdn szz bs tz bo bg sit ssr ssi shw shn shs shz ss mhd mtp mrw mso msz mnu mhw mhh mhm mbo) : J τ κ 56 1325 (LWs τ a b rws isv rc nlw nkd nbt nph ncn nno nct nsc nrn nlg ndn nzz tlw tkd tbt tph tcn tno tct tsc trn tlg tdn tzz slw skd sbt sph scn sno sct ssc srn slg sdn szz bs tz so fr tt ft bo bg ak an aa ip sit ssr ssi shw shn shs shz ss mhd mas mbf mtp mtk mfr mtt mvl miw mld mrw mso msz mnu mhw mhh mhm mbo mak man maa mip) (LVs sb a b i) 1140 [] := by
  obtain ⟨R, hV, ⟨hrc, hrw⟩, hT, hB, hS, hH⟩ := hI
  refine j_aload_n C dL_law_1140 1141 rfl rfl 1 rfl ?_
  refine j_aload_n C dL_law_1141 1142 rfl rfl 0 rfl ?_
  refine j_iload_n C dL_law_1142 1143 rfl rfl 3 rfl ?_
  refine j_iconst (v := 1) C dL_law_1143 1144 rfl (by decide) ?_
  refine j_iadd C dL_law_1144 1145 rfl ?_
  refine j_sld C X dL_law_1145 1146 rfl (sl_in hi (by decide) (by decide)) h1 ?_
  refine j_aload_n C dL_law_1146 1147 rfl rfl 0 rfl ?_
  refine j_iload_n C dL_law_1147 1148 rfl rfl 3 rfl ?_
  refine j_iconst (v := 2) C dL_law_1148 1149 rfl (by decide) ?_
  refine j_iadd C dL_law_1149 1150 rfl ?_
  refine j_sld C X dL_law_1150 1151 rfl (sl_in hi (by decide) (by decide)) h2 ?_
  refine j_cvIp (na := 2) C dL_law_1151 1154 rfl (c_X5_prove τ a rws isv rc nlw nkd nbt nph ncn nno nct nsc nrn nlg ndn nzz tlw tkd tbt tph tcn tno tct tsc trn tlg tdn tzz v1 v2 hrc.1 hrc.2 R.2.2.1.1 R.2.2.1.2) gL_law_X5_prove rfl rfl rfl qd_X5_prove rfl ⟨by decide, by decide⟩ ⟨by decide, by decide⟩ rfl (Nat.le_of_ble_eq_true rfl) ((wT τ (fun j => a (30 + j)) slw skd sbt sph scn sno sct ssc srn slg sdn szz) ++ (wP τ (fun j => a (40 + j)) bs tz so fr tt ft) ++ (wA τ (fun j => a (50 + j)) bo bg ak an aa ip) ++ (wSS τ a sit ssr ssi) ++ (wHH τ a shw shn shs shz) ++ (wM τ b ss mhd mas mbf isv mtp tz mtk mfr mtt mvl miw mld mrw rc mso msz mnu mhw mhh mhm mbo bg mak man maa mip)) 38 18 rfl rfl (fun _ => rfl) (by decide +kernel) (by decide +kernel) (by decide +kernel) (pm_0_1_2 _ _ _ _ _ _ _ _ _) 5 0 rfl rfl (fun u => ((wX τ a u.1 isv u.2.1) ++ (wT τ (fun j => a (10 + j)) nlw nkd nbt nph ncn nno nct nsc nrn nlg ndn nzz) ++ (wT τ (fun j => a (20 + j)) u.2.2.1 u.2.2.2.1 u.2.2.2.2.1 u.2.2.2.2.2.1 u.2.2.2.2.2.2.1 u.2.2.2.2.2.2.2.1 u.2.2.2.2.2.2.2.2.1 u.2.2.2.2.2.2.2.2.2.1 u.2.2.2.2.2.2.2.2.2.2.1 u.2.2.2.2.2.2.2.2.2.2.2.1 u.2.2.2.2.2.2.2.2.2.2.2.2.1 u.2.2.2.2.2.2.2.2.2.2.2.2.2) ++ (wT τ (fun j => a (30 + j)) slw skd sbt sph scn sno sct ssc srn slg sdn szz) ++ (wP τ (fun j => a (40 + j)) bs tz so fr tt ft) ++ (wA τ (fun j => a (50 + j)) bo bg ak an aa ip) ++ (wSS τ a sit ssr ssi) ++ (wHH τ a shw shn shs shz) ++ (wM τ b ss mhd mas mbf isv mtp tz mtk mfr mtt mvl miw mld mrw rc mso msz mnu mhw mhh mhm mbo bg mak man maa mip))) (fun _ => pm_0_1_2 _ _ _ _ _ _ _ _ _) (fun r1 u1 hX1 hn1 => ?_)
  obtain ⟨rws_1, rc_1, tlw_1, tkd_1, tbt_1, tph_1, tcn_1, tno_1, tct_1, tsc_1, trn_1, tlg_1, tdn_1, tzz_1⟩ := u1
  refine j_aload_n C dL_law_1154 1155 rfl rfl 2 rfl ?_
  refine j_aload_n C dL_law_1155 1156 rfl rfl 0 rfl ?_
  refine j_iload_n C dL_law_1156 1157 rfl rfl 3 rfl ?_
  refine j_iconst (v := 1) C dL_law_1157 1158 rfl (by decide) ?_
  refine j_iadd C dL_law_1158 1159 rfl ?_
  refine j_sld C X dL_law_1159 1160 rfl (sl_in hi (by decide) (by decide)) h1 ?_
  refine j_aload_n C dL_law_1160 1161 rfl rfl 0 rfl ?_
  refine j_iload_n C dL_law_1161 1162 rfl rfl 3 rfl ?_
  refine j_iconst (v := 2) C dL_law_1162 1163 rfl (by decide) ?_
  refine j_iadd C dL_law_1163 1164 rfl ?_
  refine j_sld C X dL_law_1164 1165 rfl (sl_in hi (by decide) (by decide)) h2 ?_
  refine j_cvIp (na := 2) C dL_law_1165 1168 rfl (c_X6_prove τ b ss mhd mas mbf isv mtp tz mtk mfr mtt mvl miw mld mrw rc mso msz mnu mhw mhh mhm mbo bg mak man maa mip v1 v2 (rt_ok R)) gL_law_X6_prove rfl rfl rfl qd_X6_prove rfl ⟨by decide, by decide⟩ ⟨by decide, by decide⟩ rfl (Nat.le_of_ble_eq_true rfl) ((wX τ a rws_1 isv rc_1) ++ (wT τ (fun j => a (10 + j)) nlw nkd nbt nph ncn nno nct nsc nrn nlg ndn nzz) ++ (wT τ (fun j => a (20 + j)) tlw_1 tkd_1 tbt_1 tph_1 tcn_1 tno_1 tct_1 tsc_1 trn_1 tlg_1 tdn_1 tzz_1) ++ (wT τ (fun j => a (30 + j)) slw skd sbt sph scn sno sct ssc srn slg sdn szz) ++ (wP τ (fun j => a (40 + j)) bs tz so fr tt ft) ++ (wA τ (fun j => a (50 + j)) bo bg ak an aa ip) ++ (wSS τ a sit ssr ssi) ++ (wHH τ a shw shn shs shz)) 41 15 rfl rfl (fun _ => rfl) (by decide +kernel) (by decide +kernel) (by decide +kernel) (List.Perm.refl _) 6 0 rfl rfl (fun u => ((wX τ a rws_1 isv rc_1) ++ (wT τ (fun j => a (10 + j)) nlw nkd nbt nph ncn nno nct nsc nrn nlg ndn nzz) ++ (wT τ (fun j => a (20 + j)) tlw_1 tkd_1 tbt_1 tph_1 tcn_1 tno_1 tct_1 tsc_1 trn_1 tlg_1 tdn_1 tzz_1) ++ (wT τ (fun j => a (30 + j)) slw skd sbt sph scn sno sct ssc srn slg sdn szz) ++ (wP τ (fun j => a (40 + j)) bs tz so fr tt ft) ++ (wA τ (fun j => a (50 + j)) bo bg ak an aa ip) ++ (wSS τ a sit ssr ssi) ++ (wHH τ a shw shn shs shz) ++ (wM τ b u.1 mhd u.2.1 mbf isv mtp tz mtk mfr mtt mvl miw mld u.2.2.1 u.2.2.2 mso msz mnu mhw mhh mhm mbo bg mak man maa mip))) (fun _ => List.Perm.refl _) (fun r2 u2 hX2 hn2 => ?_)
  obtain ⟨ss_2, mas_2, mrw_2, mrn_2⟩ := u2
  have E := e_prove (mas := mas) (tlw := tlw) (tkd := tkd) (tbt := tbt) (tph := tph) (tcn := tcn) (tno := tno) (tct := tct) (tsc := tsc) (trn := trn) (tlg := tlg) (tdn := tdn) (tzz := tzz) R rfl hrc hrw v1 v2
  rw [hX1, hX2] at E
  obtain ⟨E1, E2, E3, E4, E5⟩ := E
  have E3 : rc_1 = mrn_2 := E3
  subst E3
  refine j_icmp_eq C dL_law_1168 1645 rfl 1171 rfl (fun _ => ?_) (fun c => absurd E1 c)
  exact nx _ _ _ _ _ _ _ _ _ _ _ _ _ _ _ _ _ _ _ _ _ _ _ _ _ _ _ _ _ _ _ _ _ _ _ _ _ _ _ _ _ _ _ _ _ _ _ _ _ _ _ _ _ _ _ _ _ _ _ _ _ _ _ _ _ _ _ _ _ _ _ _ _ _ _ _ _ _ _ _ _ ⟨(rt_same R E2), hV, ⟨E4, E5⟩, hT, hB, hS, hH⟩
set_option maxHeartbeats 4000000 in
set_option maxRecDepth 100000 in
theorem Lw_row {τ : SX} {κ : KX} {a b : Nat → Nat} {sb L : Nat} {xs : Nat → Int32} {i : Int32} (C : Cx τ κ cL_law RL wsL_law room_1 4) (X : SB κ sb L xs) (hi : 0 ≤ i.toInt ∧ i.toInt + 5 ≤ L ∧ L ≤ 2560) {v1 v2 v3 v4 : Int32} (h1 : xs (i + 1).toNatClampNeg = v1) (h2 : xs (i + 2).toNatClampNeg = v2) (h3 : xs (i + 3).toNatClampNeg = v3) (h4 : xs (i + 4).toNatClampNeg = v4) (nx : NX τ κ a b sb i) (rws : Nat → Int32) (isv rc : Int32) (nlw nkd nbt nph ncn nno : Nat → Int32) (nct nsc nrn nlg ndn nzz : Int32) (tlw tkd tbt tph tcn tno : Nat → Int32) (tct tsc trn tlg tdn tzz : Int32) (slw skd sbt sph scn sno : Nat → Int32) (sct ssc srn slg sdn szz : Int32) (bs : Nat → Int32) (tz so fr tt ft : Int32) (bo : Nat → Int32) (bg ak an aa ip : Int32) (sit : Nat → Nat → Int64) (ssr ssi shw shn shs shz ss mhd mas mbf mtp : Nat → Int32) (mtk mfr mtt mvl miw : Int32) (mld mrw mso msz mnu mhw mhh mhm mbo : Nat → Int32) (mak man maa mip : Int32) (hI : INV rws isv rc nlw nkd nbt nph ncn nno nct nsc nrn nlg ndn nzz slw skd sbt sph scn sno sct ssc srn slg sdn szz bs tz bo bg sit ssr ssi shw shn shs shz ss mhd mtp mrw mso msz mnu mhw mhh mhm mbo) : J τ κ 56 1325 (LWs τ a b rws isv rc nlw nkd nbt nph ncn nno nct nsc nrn nlg ndn nzz tlw tkd tbt tph tcn tno tct tsc trn tlg tdn tzz slw skd sbt sph scn sno sct ssc srn slg sdn szz bs tz so fr tt ft bo bg ak an aa ip sit ssr ssi shw shn shs shz ss mhd mas mbf mtp mtk mfr mtt mvl miw mld mrw mso msz mnu mhw mhh mhm mbo mak man maa mip) (LVs sb a b i) 1173 [] := by
  obtain ⟨R, hV, ⟨hrc, hrw⟩, hT, hB, hS, hH⟩ := hI
  refine j_aload_n C dL_law_1173 1174 rfl rfl 1 rfl ?_
  refine j_aload_n C dL_law_1174 1175 rfl rfl 0 rfl ?_
  refine j_iload_n C dL_law_1175 1176 rfl rfl 3 rfl ?_
  refine j_iconst (v := 1) C dL_law_1176 1177 rfl (by decide) ?_
  refine j_iadd C dL_law_1177 1178 rfl ?_
  refine j_sld C X dL_law_1178 1179 rfl (sl_in hi (by decide) (by decide)) h1 ?_
  refine j_aload_n C dL_law_1179 1180 rfl rfl 0 rfl ?_
  refine j_iload_n C dL_law_1180 1181 rfl rfl 3 rfl ?_
  refine j_iconst (v := 2) C dL_law_1181 1182 rfl (by decide) ?_
  refine j_iadd C dL_law_1182 1183 rfl ?_
  refine j_sld C X dL_law_1183 1184 rfl (sl_in hi (by decide) (by decide)) h2 ?_
  refine j_cvIp (na := 2) C dL_law_1184 1187 rfl (c_X5_row τ a rws isv rc v1 v2 hrc.1 hrc.2) gL_law_X5_row rfl rfl rfl qd_X5_row rfl ⟨by decide, by decide⟩ ⟨by decide, by decide⟩ rfl (Nat.le_of_ble_eq_true rfl) ((wT τ (fun j => a (10 + j)) nlw nkd nbt nph ncn nno nct nsc nrn nlg ndn nzz) ++ (wT τ (fun j => a (20 + j)) tlw tkd tbt tph tcn tno tct tsc trn tlg tdn tzz) ++ (wT τ (fun j => a (30 + j)) slw skd sbt sph scn sno sct ssc srn slg sdn szz) ++ (wP τ (fun j => a (40 + j)) bs tz so fr tt ft) ++ (wA τ (fun j => a (50 + j)) bo bg ak an aa ip) ++ (wSS τ a sit ssr ssi) ++ (wHH τ a shw shn shs shz) ++ (wM τ b ss mhd mas mbf isv mtp tz mtk mfr mtt mvl miw mld mrw rc mso msz mnu mhw mhh mhm mbo bg mak man maa mip)) 52 4 rfl rfl (fun _ => rfl) (by decide +kernel) (by decide +kernel) (by decide +kernel) (pm_0 _ _ _ _ _ _ _ _ _) 5 0 rfl rfl (fun _ => ((wX τ a rws isv rc) ++ (wT τ (fun j => a (10 + j)) nlw nkd nbt nph ncn nno nct nsc nrn nlg ndn nzz) ++ (wT τ (fun j => a (20 + j)) tlw tkd tbt tph tcn tno tct tsc trn tlg tdn tzz) ++ (wT τ (fun j => a (30 + j)) slw skd sbt sph scn sno sct ssc srn slg sdn szz) ++ (wP τ (fun j => a (40 + j)) bs tz so fr tt ft) ++ (wA τ (fun j => a (50 + j)) bo bg ak an aa ip) ++ (wSS τ a sit ssr ssi) ++ (wHH τ a shw shn shs shz) ++ (wM τ b ss mhd mas mbf isv mtp tz mtk mfr mtt mvl miw mld mrw rc mso msz mnu mhw mhh mhm mbo bg mak man maa mip))) (fun _ => pm_0 _ _ _ _ _ _ _ _ _) (fun r1 u1 hX1 hn1 => ?_)
  obtain rfl := (Prod.mk.inj hX1).1
  refine j_aload_n C dL_law_1187 1188 rfl rfl 2 rfl ?_
  refine j_aload_n C dL_law_1188 1189 rfl rfl 0 rfl ?_
  refine j_iload_n C dL_law_1189 1190 rfl rfl 3 rfl ?_
  refine j_iconst (v := 1) C dL_law_1190 1191 rfl (by decide) ?_
  refine j_iadd C dL_law_1191 1192 rfl ?_
  refine j_sld C X dL_law_1192 1193 rfl (sl_in hi (by decide) (by decide)) h1 ?_
  refine j_aload_n C dL_law_1193 1194 rfl rfl 0 rfl ?_
  refine j_iload_n C dL_law_1194 1195 rfl rfl 3 rfl ?_
  refine j_iconst (v := 2) C dL_law_1195 1196 rfl (by decide) ?_
  refine j_iadd C dL_law_1196 1197 rfl ?_
  refine j_sld C X dL_law_1197 1198 rfl (sl_in hi (by decide) (by decide)) h2 ?_
  refine j_cvIp (na := 2) C dL_law_1198 1201 rfl (c_X6_row τ b ss mhd mas mbf isv mtp tz mtk mfr mtt mvl miw mld mrw rc mso msz mnu mhw mhh mhm mbo bg mak man maa mip v1 v2 hrc.1 hrc.2) gL_law_X6_row rfl rfl rfl qd_X6_row rfl ⟨by decide, by decide⟩ ⟨by decide, by decide⟩ rfl (Nat.le_of_ble_eq_true rfl) ((wX τ a rws isv rc) ++ (wT τ (fun j => a (10 + j)) nlw nkd nbt nph ncn nno nct nsc nrn nlg ndn nzz) ++ (wT τ (fun j => a (20 + j)) tlw tkd tbt tph tcn tno tct tsc trn tlg tdn tzz) ++ (wT τ (fun j => a (30 + j)) slw skd sbt sph scn sno sct ssc srn slg sdn szz) ++ (wP τ (fun j => a (40 + j)) bs tz so fr tt ft) ++ (wA τ (fun j => a (50 + j)) bo bg ak an aa ip) ++ (wSS τ a sit ssr ssi) ++ (wHH τ a shw shn shs shz)) 41 15 rfl rfl (fun _ => rfl) (by decide +kernel) (by decide +kernel) (by decide +kernel) (List.Perm.refl _) 6 0 rfl rfl (fun _ => ((wX τ a rws isv rc) ++ (wT τ (fun j => a (10 + j)) nlw nkd nbt nph ncn nno nct nsc nrn nlg ndn nzz) ++ (wT τ (fun j => a (20 + j)) tlw tkd tbt tph tcn tno tct tsc trn tlg tdn tzz) ++ (wT τ (fun j => a (30 + j)) slw skd sbt sph scn sno sct ssc srn slg sdn szz) ++ (wP τ (fun j => a (40 + j)) bs tz so fr tt ft) ++ (wA τ (fun j => a (50 + j)) bo bg ak an aa ip) ++ (wSS τ a sit ssr ssi) ++ (wHH τ a shw shn shs shz) ++ (wM τ b ss mhd mas mbf isv mtp tz mtk mfr mtt mvl miw mld mrw rc mso msz mnu mhw mhh mhm mbo bg mak man maa mip))) (fun _ => List.Perm.refl _) (fun r2 u2 hX2 hn2 => ?_)
  obtain rfl := (Prod.mk.inj hX2).1
  have E := e_rowA  (rws := rws) (mrw := mrw) (rc := rc) hrc hrw v1 v2
  refine j_icmp_eq C dL_law_1201 1645 rfl 1204 rfl (fun _ => ?_) (fun c => absurd E c)
  exact nx _ _ _ _ _ _ _ _ _ _ _ _ _ _ _ _ _ _ _ _ _ _ _ _ _ _ _ _ _ _ _ _ _ _ _ _ _ _ _ _ _ _ _ _ _ _ _ _ _ _ _ _ _ _ _ _ _ _ _ _ _ _ _ _ _ _ _ _ _ _ _ _ _ _ _ _ _ _ _ _ _ ⟨R, hV, ⟨hrc, hrw⟩, hT, hB, hS, hH⟩
