/-! the law's calls, 5 -/
set_option maxHeartbeats 4000000 in
set_option maxRecDepth 100000 in
theorem Lw_alterRow {τ : SX} {κ : KX} {a b : Nat → Nat} {sb L : Nat} {xs : Nat → Int32} {i : Int32} (C : Cx τ κ cL_law RL wsL_law room_1 4) (X : SB κ sb L xs) (hi : 0 ≤ i.toInt ∧ i.toInt + 5 ≤ L ∧ L ≤ 2560) {v1 v2 v3 v4 : Int32} (h1 : xs (i + 1).toNatClampNeg = v1) (h2 : xs (i + 2).toNatClampNeg = v2) (h3 : xs (i + 3).toNatClampNeg = v3) (h4 : xs (i + 4).toNatClampNeg = v4) (nx : NX τ κ a b sb i) (rws : Nat → Int32) (isv rc : Int32) (nlw nkd nbt nph ncn nno : Nat → Int32) (nct nsc nrn nlg ndn nzz : Int32) (tlw tkd tbt tph tcn tno : Nat → Int32) (tct tsc trn tlg tdn tzz : Int32) (slw skd sbt sph scn sno : Nat → Int32) (sct ssc srn slg sdn szz : Int32) (bs : Nat → Int32) (tz so fr tt ft : Int32) (bo : Nat → Int32) (bg ak an aa ip : Int32) (sit : Nat → Nat → Int64) (ssr ssi shw shn shs shz ss mhd mas mbf mtp : Nat → Int32) (mtk mfr mtt mvl miw : Int32) (mld mrw mso msz mnu mhw mhh mhm mbo : Nat → Int32) (mak man maa mip : Int32) (hI : INV rws isv rc nlw nkd nbt nph ncn nno nct nsc nrn nlg ndn nzz slw skd sbt sph scn sno sct ssc srn slg sdn szz bs tz bo bg sit ssr ssi shw shn shs shz ss mhd mtp mrw mso msz mnu mhw mhh mhm mbo) : J τ κ 56 1325 (LWs τ a b rws isv rc nlw nkd nbt nph ncn nno nct nsc nrn nlg ndn nzz tlw tkd tbt tph tcn tno tct tsc trn tlg tdn tzz slw skd sbt sph scn sno sct ssc srn slg sdn szz bs tz so fr tt ft bo bg ak an aa ip sit ssr ssi shw shn shs shz ss mhd mas mbf mtp mtk mfr mtt mvl miw mld mrw mso msz mnu mhw mhh mhm mbo mak man maa mip) (LVs sb a b i) 1206 [] := by
  obtain ⟨R, hV, ⟨hrc, hrw⟩, hT, hB, hS, hH⟩ := hI
  refine j_aload_n C dL_law_1206 1207 rfl rfl 1 rfl ?_
  refine j_aload_n C dL_law_1207 1208 rfl rfl 0 rfl ?_
  refine j_iload_n C dL_law_1208 1209 rfl rfl 3 rfl ?_
  refine j_iconst (v := 1) C dL_law_1209 1210 rfl (by decide) ?_
  refine j_iadd C dL_law_1210 1211 rfl ?_
  refine j_sld C X dL_law_1211 1212 rfl (sl_in hi (by decide) (by decide)) h1 ?_
  refine j_aload_n C dL_law_1212 1213 rfl rfl 0 rfl ?_
  refine j_iload_n C dL_law_1213 1214 rfl rfl 3 rfl ?_
  refine j_iconst (v := 2) C dL_law_1214 1215 rfl (by decide) ?_
  refine j_iadd C dL_law_1215 1216 rfl ?_
  refine j_sld C X dL_law_1216 1217 rfl (sl_in hi (by decide) (by decide)) h2 ?_
  refine j_aload_n C dL_law_1217 1218 rfl rfl 0 rfl ?_
  refine j_iload_n C dL_law_1218 1219 rfl rfl 3 rfl ?_
  refine j_iconst (v := 3) C dL_law_1219 1220 rfl (by decide) ?_
  refine j_iadd C dL_law_1220 1221 rfl ?_
  refine j_sld C X dL_law_1221 1222 rfl (sl_in hi (by decide) (by decide)) h3 ?_
  refine j_cvIp (na := 3) C dL_law_1222 1225 rfl (c_X5_alterRow τ a rws isv rc v1 v2 v3 hrc.1 hrc.2) gL_law_X5_alterRow rfl rfl rfl qd_X5_alterRow rfl ⟨by decide, by decide⟩ ⟨by decide, by decide⟩ rfl (Nat.le_of_ble_eq_true rfl) ((wT τ (fun j => a (10 + j)) nlw nkd nbt nph ncn nno nct nsc nrn nlg ndn nzz) ++ (wT τ (fun j => a (20 + j)) tlw tkd tbt tph tcn tno tct tsc trn tlg tdn tzz) ++ (wT τ (fun j => a (30 + j)) slw skd sbt sph scn sno sct ssc srn slg sdn szz) ++ (wP τ (fun j => a (40 + j)) bs tz so fr tt ft) ++ (wA τ (fun j => a (50 + j)) bo bg ak an aa ip) ++ (wSS τ a sit ssr ssi) ++ (wHH τ a shw shn shs shz) ++ (wM τ b ss mhd mas mbf isv mtp tz mtk mfr mtt mvl miw mld mrw rc mso msz mnu mhw mhh mhm mbo bg mak man maa mip)) 52 4 rfl rfl (fun _ => rfl) (by decide +kernel) (by decide +kernel) (by decide +kernel) (pm_0 _ _ _ _ _ _ _ _ _) 5 0 rfl rfl (fun u => ((wX τ a u isv rc) ++ (wT τ (fun j => a (10 + j)) nlw nkd nbt nph ncn nno nct nsc nrn nlg ndn nzz) ++ (wT τ (fun j => a (20 + j)) tlw tkd tbt tph tcn tno tct tsc trn tlg tdn tzz) ++ (wT τ (fun j => a (30 + j)) slw skd sbt sph scn sno sct ssc srn slg sdn szz) ++ (wP τ (fun j => a (40 + j)) bs tz so fr tt ft) ++ (wA τ (fun j => a (50 + j)) bo bg ak an aa ip) ++ (wSS τ a sit ssr ssi) ++ (wHH τ a shw shn shs shz) ++ (wM τ b ss mhd mas mbf isv mtp tz mtk mfr mtt mvl miw mld mrw rc mso msz mnu mhw mhh mhm mbo bg mak man maa mip))) (fun _ => pm_0 _ _ _ _ _ _ _ _ _) (fun r1 u1 hX1 hn1 => ?_)
  refine j_aload_n C dL_law_1225 1226 rfl rfl 2 rfl ?_
  refine j_aload_n C dL_law_1226 1227 rfl rfl 0 rfl ?_
  refine j_iload_n C dL_law_1227 1228 rfl rfl 3 rfl ?_
  refine j_iconst (v := 1) C dL_law_1228 1229 rfl (by decide) ?_
  refine j_iadd C dL_law_1229 1230 rfl ?_
  refine j_sld C X dL_law_1230 1231 rfl (sl_in hi (by decide) (by decide)) h1 ?_
  refine j_aload_n C dL_law_1231 1232 rfl rfl 0 rfl ?_
  refine j_iload_n C dL_law_1232 1233 rfl rfl 3 rfl ?_
  refine j_iconst (v := 2) C dL_law_1233 1234 rfl (by decide) ?_
  refine j_iadd C dL_law_1234 1235 rfl ?_
  refine j_sld C X dL_law_1235 1236 rfl (sl_in hi (by decide) (by decide)) h2 ?_
  refine j_aload_n C dL_law_1236 1237 rfl rfl 0 rfl ?_
  refine j_iload_n C dL_law_1237 1238 rfl rfl 3 rfl ?_
  refine j_iconst (v := 3) C dL_law_1238 1239 rfl (by decide) ?_
  refine j_iadd C dL_law_1239 1240 rfl ?_
  refine j_sld C X dL_law_1240 1241 rfl (sl_in hi (by decide) (by decide)) h3 ?_
  refine j_cvIp (na := 3) C dL_law_1241 1244 rfl (c_X6_alterRow τ b ss mhd mas mbf isv mtp tz mtk mfr mtt mvl miw mld mrw rc mso msz mnu mhw mhh mhm mbo bg mak man maa mip v1 v2 v3 hrc.1 hrc.2) gL_law_X6_alterRow rfl rfl rfl qd_X6_alterRow rfl ⟨by decide, by decide⟩ ⟨by decide, by decide⟩ rfl (Nat.le_of_ble_eq_true rfl) ((wX τ a u1 isv rc) ++ (wT τ (fun j => a (10 + j)) nlw nkd nbt nph ncn nno nct nsc nrn nlg ndn nzz) ++ (wT τ (fun j => a (20 + j)) tlw tkd tbt tph tcn tno tct tsc trn tlg tdn tzz) ++ (wT τ (fun j => a (30 + j)) slw skd sbt sph scn sno sct ssc srn slg sdn szz) ++ (wP τ (fun j => a (40 + j)) bs tz so fr tt ft) ++ (wA τ (fun j => a (50 + j)) bo bg ak an aa ip) ++ (wSS τ a sit ssr ssi) ++ (wHH τ a shw shn shs shz)) 41 15 rfl rfl (fun _ => rfl) (by decide +kernel) (by decide +kernel) (by decide +kernel) (List.Perm.refl _) 6 0 rfl rfl (fun u => ((wX τ a u1 isv rc) ++ (wT τ (fun j => a (10 + j)) nlw nkd nbt nph ncn nno nct nsc nrn nlg ndn nzz) ++ (wT τ (fun j => a (20 + j)) tlw tkd tbt tph tcn tno tct tsc trn tlg tdn tzz) ++ (wT τ (fun j => a (30 + j)) slw skd sbt sph scn sno sct ssc srn slg sdn szz) ++ (wP τ (fun j => a (40 + j)) bs tz so fr tt ft) ++ (wA τ (fun j => a (50 + j)) bo bg ak an aa ip) ++ (wSS τ a sit ssr ssi) ++ (wHH τ a shw shn shs shz) ++ (wM τ b ss mhd mas mbf isv mtp tz mtk mfr mtt mvl miw mld u rc mso msz mnu mhw mhh mhm mbo bg mak man maa mip))) (fun _ => List.Perm.refl _) (fun r2 u2 hX2 hn2 => ?_)
  have E := e_alterRow  (rws := rws) (mrw := mrw) (rc := rc) hrc hrw v1 v2 v3
  rw [hX1, hX2] at E
  refine j_icmp_eq C dL_law_1244 1645 rfl 1247 rfl (fun _ => ?_) (fun c => absurd E.1 c)
  exact nx _ _ _ _ _ _ _ _ _ _ _ _ _ _ _ _ _ _ _ _ _ _ _ _ _ _ _ _ _ _ _ _ _ _ _ _ _ _ _ _ _ _ _ _ _ _ _ _ _ _ _ _ _ _ _ _ _ _ _ _ _ _ _ _ _ _ _ _ _ _ _ _ _ _ _ _ _ _ _ _ _ ⟨R, hV, ⟨hrc, E.2⟩, hT, hB, hS, hH⟩
set_option maxHeartbeats 4000000 in
set_option maxRecDepth 100000 in
theorem Lw_judge {τ : SX} {κ : KX} {a b : Nat → Nat} {sb L : Nat} {xs : Nat → Int32} {i : Int32} (C : Cx τ κ cL_law RL wsL_law room_1 4) (X : SB κ sb L xs) (hi : 0 ≤ i.toInt ∧ i.toInt + 5 ≤ L ∧ L ≤ 2560) {v1 v2 v3 v4 : Int32} (h1 : xs (i + 1).toNatClampNeg = v1) (h2 : xs (i + 2).toNatClampNeg = v2) (h3 : xs (i + 3).toNatClampNeg = v3) (h4 : xs (i + 4).toNatClampNeg = v4) (nx : NX τ κ a b sb i) (rws : Nat → Int32) (isv rc : Int32) (nlw nkd nbt nph ncn nno : Nat → Int32) (nct nsc nrn nlg ndn nzz : Int32) (tlw tkd tbt tph tcn tno : Nat → Int32) (tct tsc trn tlg tdn tzz : Int32) (slw skd sbt sph scn sno : Nat → Int32) (sct ssc srn slg sdn szz : Int32) (bs : Nat → Int32) (tz so fr tt ft : Int32) (bo : Nat → Int32) (bg ak an aa ip : Int32) (sit : Nat → Nat → Int64) (ssr ssi shw shn shs shz ss mhd mas mbf mtp : Nat → Int32) (mtk mfr mtt mvl miw : Int32) (mld mrw mso msz mnu mhw mhh mhm mbo : Nat → Int32) (mak man maa mip : Int32) (hI : INV rws isv rc nlw nkd nbt nph ncn nno nct nsc nrn nlg ndn nzz slw skd sbt sph scn sno sct ssc srn slg sdn szz bs tz bo bg sit ssr ssi shw shn shs shz ss mhd mtp mrw mso msz mnu mhw mhh mhm mbo) : J τ κ 56 1325 (LWs τ a b rws isv rc nlw nkd nbt nph ncn nno nct nsc nrn nlg ndn nzz tlw tkd tbt tph tcn tno tct tsc trn tlg tdn tzz slw skd sbt sph scn sno sct ssc srn slg sdn szz bs tz so fr tt ft bo bg ak an aa ip sit ssr ssi shw shn shs shz ss mhd mas mbf mtp mtk mfr mtt mvl miw mld mrw mso msz mnu mhw mhh mhm mbo mak man maa mip) (LVs sb a b i) 1249 [] := by
  obtain ⟨R, hV, ⟨hrc, hrw⟩, hT, hB, hS, hH⟩ := hI
  refine j_aload_n C dL_law_1249 1250 rfl rfl 1 rfl ?_
  refine j_aload_n C dL_law_1250 1251 rfl rfl 0 rfl ?_
  refine j_iload_n C dL_law_1251 1252 rfl rfl 3 rfl ?_
  refine j_iconst (v := 1) C dL_law_1252 1253 rfl (by decide) ?_
  refine j_iadd C dL_law_1253 1254 rfl ?_
  refine j_sld C X dL_law_1254 1255 rfl (sl_in hi (by decide) (by decide)) h1 ?_
  refine j_cvIp (na := 1) C dL_law_1255 1258 rfl (c_X5_judge τ a rws isv rc nlw nkd nbt nph ncn nno nct nsc nrn nlg ndn nzz tlw tkd tbt tph tcn tno tct tsc trn tlg tdn tzz v1 hrc.1 hrc.2 R.2.2.1.1 R.2.2.1.2) gL_law_X5_judge rfl rfl rfl qd_X5_judge rfl ⟨by decide, by decide⟩ ⟨by decide, by decide⟩ rfl (Nat.le_of_ble_eq_true rfl) ((wT τ (fun j => a (30 + j)) slw skd sbt sph scn sno sct ssc srn slg sdn szz) ++ (wP τ (fun j => a (40 + j)) bs tz so fr tt ft) ++ (wA τ (fun j => a (50 + j)) bo bg ak an aa ip) ++ (wSS τ a sit ssr ssi) ++ (wHH τ a shw shn shs shz) ++ (wM τ b ss mhd mas mbf isv mtp tz mtk mfr mtt mvl miw mld mrw rc mso msz mnu mhw mhh mhm mbo bg mak man maa mip)) 38 18 rfl rfl (fun _ => rfl) (by decide +kernel) (by decide +kernel) (by decide +kernel) (pm_0_1_2 _ _ _ _ _ _ _ _ _) 5 0 rfl rfl (fun u => ((wX τ a rws isv rc) ++ (wT τ (fun j => a (10 + j)) nlw nkd nbt nph ncn nno nct nsc nrn nlg ndn nzz) ++ (wT τ (fun j => a (20 + j)) u.1 u.2.1 u.2.2.1 u.2.2.2.1 u.2.2.2.2.1 u.2.2.2.2.2.1 u.2.2.2.2.2.2.1 u.2.2.2.2.2.2.2.1 u.2.2.2.2.2.2.2.2.1 u.2.2.2.2.2.2.2.2.2.1 u.2.2.2.2.2.2.2.2.2.2.1 u.2.2.2.2.2.2.2.2.2.2.2) ++ (wT τ (fun j => a (30 + j)) slw skd sbt sph scn sno sct ssc srn slg sdn szz) ++ (wP τ (fun j => a (40 + j)) bs tz so fr tt ft) ++ (wA τ (fun j => a (50 + j)) bo bg ak an aa ip) ++ (wSS τ a sit ssr ssi) ++ (wHH τ a shw shn shs shz) ++ (wM τ b ss mhd mas mbf isv mtp tz mtk mfr mtt mvl miw mld mrw rc mso msz mnu mhw mhh mhm mbo bg mak man maa mip))) (fun _ => pm_0_1_2 _ _ _ _ _ _ _ _ _) (fun r1 u1 hX1 hn1 => ?_)
  obtain ⟨tlw_1, tkd_1, tbt_1, tph_1, tcn_1, tno_1, tct_1, tsc_1, trn_1, tlg_1, tdn_1, tzz_1⟩ := u1
  refine j_aload_n C dL_law_1258 1259 rfl rfl 2 rfl ?_
  refine j_aload_n C dL_law_1259 1260 rfl rfl 0 rfl ?_
  refine j_iload_n C dL_law_1260 1261 rfl rfl 3 rfl ?_
  refine j_iconst (v := 1) C dL_law_1261 1262 rfl (by decide) ?_
  refine j_iadd C dL_law_1262 1263 rfl ?_
  refine j_sld C X dL_law_1263 1264 rfl (sl_in hi (by decide) (by decide)) h1 ?_
  refine j_cvIp (na := 1) C dL_law_1264 1267 rfl (c_X6_judge τ b ss mhd mas mbf isv mtp tz mtk mfr mtt mvl miw mld mrw rc mso msz mnu mhw mhh mhm mbo bg mak man maa mip v1 (rt_ok R) hrc.1 hrc.2) gL_law_X6_judge rfl rfl rfl qd_X6_judge rfl ⟨by decide, by decide⟩ ⟨by decide, by decide⟩ rfl (Nat.le_of_ble_eq_true rfl) ((wX τ a rws isv rc) ++ (wT τ (fun j => a (10 + j)) nlw nkd nbt nph ncn nno nct nsc nrn nlg ndn nzz) ++ (wT τ (fun j => a (20 + j)) tlw_1 tkd_1 tbt_1 tph_1 tcn_1 tno_1 tct_1 tsc_1 trn_1 tlg_1 tdn_1 tzz_1) ++ (wT τ (fun j => a (30 + j)) slw skd sbt sph scn sno sct ssc srn slg sdn szz) ++ (wP τ (fun j => a (40 + j)) bs tz so fr tt ft) ++ (wA τ (fun j => a (50 + j)) bo bg ak an aa ip) ++ (wSS τ a sit ssr ssi) ++ (wHH τ a shw shn shs shz)) 41 15 rfl rfl (fun _ => rfl) (by decide +kernel) (by decide +kernel) (by decide +kernel) (List.Perm.refl _) 6 0 rfl rfl (fun u => ((wX τ a rws isv rc) ++ (wT τ (fun j => a (10 + j)) nlw nkd nbt nph ncn nno nct nsc nrn nlg ndn nzz) ++ (wT τ (fun j => a (20 + j)) tlw_1 tkd_1 tbt_1 tph_1 tcn_1 tno_1 tct_1 tsc_1 trn_1 tlg_1 tdn_1 tzz_1) ++ (wT τ (fun j => a (30 + j)) slw skd sbt sph scn sno sct ssc srn slg sdn szz) ++ (wP τ (fun j => a (40 + j)) bs tz so fr tt ft) ++ (wA τ (fun j => a (50 + j)) bo bg ak an aa ip) ++ (wSS τ a sit ssr ssi) ++ (wHH τ a shw shn shs shz) ++ (wM τ b u.1 mhd u.2 mbf isv mtp tz mtk mfr mtt mvl miw mld mrw rc mso msz mnu mhw mhh mhm mbo bg mak man maa mip))) (fun _ => List.Perm.refl _) (fun r2 u2 hX2 hn2 => ?_)
  obtain ⟨ss_2, mas_2⟩ := u2
  have E := e_judge (mas := mas) (tlw := tlw) (tkd := tkd) (tbt := tbt) (tph := tph) (tcn := tcn) (tno := tno) (tct := tct) (tsc := tsc) (trn := trn) (tlg := tlg) (tdn := tdn) (tzz := tzz) R rfl hrc hrw v1
  rw [hX1, hX2] at E
  refine j_icmp_eq C dL_law_1267 1645 rfl 1270 rfl (fun _ => ?_) (fun c => absurd E.1 c)
  exact nx _ _ _ _ _ _ _ _ _ _ _ _ _ _ _ _ _ _ _ _ _ _ _ _ _ _ _ _ _ _ _ _ _ _ _ _ _ _ _ _ _ _ _ _ _ _ _ _ _ _ _ _ _ _ _ _ _ _ _ _ _ _ _ _ _ _ _ _ _ _ _ _ _ _ _ _ _ _ _ _ _ ⟨(rt_same R E.2), hV, ⟨hrc, hrw⟩, hT, hB, hS, hH⟩
set_option maxHeartbeats 4000000 in
set_option maxRecDepth 100000 in
theorem Lw_minds {τ : SX} {κ : KX} {a b : Nat → Nat} {sb L : Nat} {xs : Nat → Int32} {i : Int32} (C : Cx τ κ cL_law RL wsL_law room_1 4) (X : SB κ sb L xs) (hi : 0 ≤ i.toInt ∧ i.toInt + 5 ≤ L ∧ L ≤ 2560) {v1 v2 v3 v4 : Int32} (h1 : xs (i + 1).toNatClampNeg = v1) (h2 : xs (i + 2).toNatClampNeg = v2) (h3 : xs (i + 3).toNatClampNeg = v3) (h4 : xs (i + 4).toNatClampNeg = v4) (nx : NX τ κ a b sb i) (rws : Nat → Int32) (isv rc : Int32) (nlw nkd nbt nph ncn nno : Nat → Int32) (nct nsc nrn nlg ndn nzz : Int32) (tlw tkd tbt tph tcn tno : Nat → Int32) (tct tsc trn tlg tdn tzz : Int32) (slw skd sbt sph scn sno : Nat → Int32) (sct ssc srn slg sdn szz : Int32) (bs : Nat → Int32) (tz so fr tt ft : Int32) (bo : Nat → Int32) (bg ak an aa ip : Int32) (sit : Nat → Nat → Int64) (ssr ssi shw shn shs shz ss mhd mas mbf mtp : Nat → Int32) (mtk mfr mtt mvl miw : Int32) (mld mrw mso msz mnu mhw mhh mhm mbo : Nat → Int32) (mak man maa mip : Int32) (hI : INV rws isv rc nlw nkd nbt nph ncn nno nct nsc nrn nlg ndn nzz slw skd sbt sph scn sno sct ssc srn slg sdn szz bs tz bo bg sit ssr ssi shw shn shs shz ss mhd mtp mrw mso msz mnu mhw mhh mhm mbo) : J τ κ 56 1325 (LWs τ a b rws isv rc nlw nkd nbt nph ncn nno nct nsc nrn nlg ndn nzz tlw tkd tbt tph tcn tno tct tsc trn tlg tdn tzz slw skd sbt sph scn sno sct ssc srn slg sdn szz bs tz so fr tt ft bo bg ak an aa ip sit ssr ssi shw shn shs shz ss mhd mas mbf mtp mtk mfr mtt mvl miw mld mrw mso msz mnu mhw mhh mhm mbo mak man maa mip) (LVs sb a b i) 1272 [] := by
  obtain ⟨R, hV, ⟨hrc, hrw⟩, hT, hB, hS, hH⟩ := hI
  refine j_aload_n C dL_law_1272 1273 rfl rfl 1 rfl ?_
  refine j_aload_n C dL_law_1273 1274 rfl rfl 0 rfl ?_
  refine j_iload_n C dL_law_1274 1275 rfl rfl 3 rfl ?_
  refine j_iconst (v := 1) C dL_law_1275 1276 rfl (by decide) ?_
  refine j_iadd C dL_law_1276 1277 rfl ?_
  refine j_sld C X dL_law_1277 1278 rfl (sl_in hi (by decide) (by decide)) h1 ?_
  refine j_aload_n C dL_law_1278 1279 rfl rfl 0 rfl ?_
  refine j_iload_n C dL_law_1279 1280 rfl rfl 3 rfl ?_
  refine j_iconst (v := 2) C dL_law_1280 1281 rfl (by decide) ?_
  refine j_iadd C dL_law_1281 1282 rfl ?_
  refine j_sld C X dL_law_1282 1283 rfl (sl_in hi (by decide) (by decide)) h2 ?_
  refine j_aload_n C dL_law_1283 1284 rfl rfl 0 rfl ?_
  refine j_iload_n C dL_law_1284 1285 rfl rfl 3 rfl ?_
  refine j_iconst (v := 3) C dL_law_1285 1286 rfl (by decide) ?_
  refine j_iadd C dL_law_1286 1287 rfl ?_
  refine j_sld C X dL_law_1287 1288 rfl (sl_in hi (by decide) (by decide)) h3 ?_
  refine j_aload_n C dL_law_1288 1289 rfl rfl 0 rfl ?_
  refine j_iload_n C dL_law_1289 1290 rfl rfl 3 rfl ?_
  refine j_iconst (v := 4) C dL_law_1290 1291 rfl (by decide) ?_
  refine j_iadd C dL_law_1291 1292 rfl ?_
  refine j_sld C X dL_law_1292 1293 rfl (sl_in hi (by decide) (by decide)) h4 ?_
  refine j_cvIp (na := 4) C dL_law_1293 1296 rfl (c_X5_minds τ a rws isv rc nlw nkd nbt nph ncn nno nct nsc nrn nlg ndn nzz sit ssr ssi v1 v2 v3 v4 hrc.1 hrc.2 R.2.2.1.1 R.2.2.1.2 hS.1) gL_law_X5_minds rfl rfl rfl qd_X5_minds rfl ⟨by decide, by decide⟩ ⟨by decide, by decide⟩ rfl (Nat.le_of_ble_eq_true rfl) ((wT τ (fun j => a (20 + j)) tlw tkd tbt tph tcn tno tct tsc trn tlg tdn tzz) ++ (wT τ (fun j => a (30 + j)) slw skd sbt sph scn sno sct ssc srn slg sdn szz) ++ (wP τ (fun j => a (40 + j)) bs tz so fr tt ft) ++ (wA τ (fun j => a (50 + j)) bo bg ak an aa ip) ++ (wHH τ a shw shn shs shz) ++ (wM τ b ss mhd mas mbf isv mtp tz mtk mfr mtt mvl miw mld mrw rc mso msz mnu mhw mhh mhm mbo bg mak man maa mip)) 37 19 rfl rfl (fun _ => rfl) (by decide +kernel) (by decide +kernel) (by decide +kernel) (pm_0_1_6 _ _ _ _ _ _ _ _ _) 5 0 rfl rfl (fun u => ((wX τ a rws isv rc) ++ (wT τ (fun j => a (10 + j)) nlw nkd nbt u ncn nno nct nsc nrn nlg ndn nzz) ++ (wT τ (fun j => a (20 + j)) tlw tkd tbt tph tcn tno tct tsc trn tlg tdn tzz) ++ (wT τ (fun j => a (30 + j)) slw skd sbt sph scn sno sct ssc srn slg sdn szz) ++ (wP τ (fun j => a (40 + j)) bs tz so fr tt ft) ++ (wA τ (fun j => a (50 + j)) bo bg ak an aa ip) ++ (wSS τ a sit ssr ssi) ++ (wHH τ a shw shn shs shz) ++ (wM τ b ss mhd mas mbf isv mtp tz mtk mfr mtt mvl miw mld mrw rc mso msz mnu mhw mhh mhm mbo bg mak man maa mip))) (fun _ => pm_0_1_6 _ _ _ _ _ _ _ _ _) (fun r1 u1 hX1 hn1 => ?_)
  refine j_aload_n C dL_law_1296 1297 rfl rfl 2 rfl ?_
  refine j_aload_n C dL_law_1297 1298 rfl rfl 0 rfl ?_
  refine j_iload_n C dL_law_1298 1299 rfl rfl 3 rfl ?_
  refine j_iconst (v := 1) C dL_law_1299 1300 rfl (by decide) ?_
  refine j_iadd C dL_law_1300 1301 rfl ?_
  refine j_sld C X dL_law_1301 1302 rfl (sl_in hi (by decide) (by decide)) h1 ?_
  refine j_aload_n C dL_law_1302 1303 rfl rfl 0 rfl ?_
  refine j_iload_n C dL_law_1303 1304 rfl rfl 3 rfl ?_
  refine j_iconst (v := 2) C dL_law_1304 1305 rfl (by decide) ?_
  refine j_iadd C dL_law_1305 1306 rfl ?_
  refine j_sld C X dL_law_1306 1307 rfl (sl_in hi (by decide) (by decide)) h2 ?_
  refine j_aload_n C dL_law_1307 1308 rfl rfl 0 rfl ?_
  refine j_iload_n C dL_law_1308 1309 rfl rfl 3 rfl ?_
  refine j_iconst (v := 3) C dL_law_1309 1310 rfl (by decide) ?_
  refine j_iadd C dL_law_1310 1311 rfl ?_
  refine j_sld C X dL_law_1311 1312 rfl (sl_in hi (by decide) (by decide)) h3 ?_
  refine j_aload_n C dL_law_1312 1313 rfl rfl 0 rfl ?_
  refine j_iload_n C dL_law_1313 1314 rfl rfl 3 rfl ?_
  refine j_iconst (v := 4) C dL_law_1314 1315 rfl (by decide) ?_
  refine j_iadd C dL_law_1315 1316 rfl ?_
  refine j_sld C X dL_law_1316 1317 rfl (sl_in hi (by decide) (by decide)) h4 ?_
  refine j_cvIp (na := 4) C dL_law_1317 1320 rfl (c_X6_minds τ b ss mhd mas mbf isv mtp tz mtk mfr mtt mvl miw mld mrw rc mso msz mnu mhw mhh mhm mbo bg mak man maa mip v1 v2 v3 v4 (rt_ok R) hS.2.1) gL_law_X6_minds rfl rfl rfl qd_X6_minds rfl ⟨by decide, by decide⟩ ⟨by decide, by decide⟩ rfl (Nat.le_of_ble_eq_true rfl) ((wX τ a rws isv rc) ++ (wT τ (fun j => a (10 + j)) nlw nkd nbt u1 ncn nno nct nsc nrn nlg ndn nzz) ++ (wT τ (fun j => a (20 + j)) tlw tkd tbt tph tcn tno tct tsc trn tlg tdn tzz) ++ (wT τ (fun j => a (30 + j)) slw skd sbt sph scn sno sct ssc srn slg sdn szz) ++ (wP τ (fun j => a (40 + j)) bs tz so fr tt ft) ++ (wA τ (fun j => a (50 + j)) bo bg ak an aa ip) ++ (wSS τ a sit ssr ssi) ++ (wHH τ a shw shn shs shz)) 41 15 rfl rfl (fun _ => rfl) (by decide +kernel) (by decide +kernel) (by decide +kernel) (List.Perm.refl _) 6 0 rfl rfl (fun u => ((wX τ a rws isv rc) ++ (wT τ (fun j => a (10 + j)) nlw nkd nbt u1 ncn nno nct nsc nrn nlg ndn nzz) ++ (wT τ (fun j => a (20 + j)) tlw tkd tbt tph tcn tno tct tsc trn tlg tdn tzz) ++ (wT τ (fun j => a (30 + j)) slw skd sbt sph scn sno sct ssc srn slg sdn szz) ++ (wP τ (fun j => a (40 + j)) bs tz so fr tt ft) ++ (wA τ (fun j => a (50 + j)) bo bg ak an aa ip) ++ (wSS τ a sit ssr ssi) ++ (wHH τ a shw shn shs shz) ++ (wM τ b u mhd mas mbf isv mtp tz mtk mfr mtt mvl miw mld mrw rc mso msz mnu mhw mhh mhm mbo bg mak man maa mip))) (fun _ => List.Perm.refl _) (fun r2 u2 hX2 hn2 => ?_)
  have E := e_minds  R hS v1 v2 v3 v4
  rw [hX1, hX2] at E
  refine j_icmp_eq C dL_law_1320 1645 rfl 1323 rfl (fun _ => ?_) (fun c => absurd E.1 c)
  exact nx _ _ _ _ _ _ _ _ _ _ _ _ _ _ _ _ _ _ _ _ _ _ _ _ _ _ _ _ _ _ _ _ _ _ _ _ _ _ _ _ _ _ _ _ _ _ _ _ _ _ _ _ _ _ _ _ _ _ _ _ _ _ _ _ _ _ _ _ _ _ _ _ _ _ _ _ _ _ _ _ _ ⟨E.2, hV, ⟨hrc, hrw⟩, hT, hB, hS, hH⟩
set_option maxHeartbeats 4000000 in
set_option maxRecDepth 100000 in
theorem Lw_sheet {τ : SX} {κ : KX} {a b : Nat → Nat} {sb L : Nat} {xs : Nat → Int32} {i : Int32} (C : Cx τ κ cL_law RL wsL_law room_1 4) (X : SB κ sb L xs) (hi : 0 ≤ i.toInt ∧ i.toInt + 5 ≤ L ∧ L ≤ 2560) {v1 v2 v3 v4 : Int32} (h1 : xs (i + 1).toNatClampNeg = v1) (h2 : xs (i + 2).toNatClampNeg = v2) (h3 : xs (i + 3).toNatClampNeg = v3) (h4 : xs (i + 4).toNatClampNeg = v4) (nx : NX τ κ a b sb i) (rws : Nat → Int32) (isv rc : Int32) (nlw nkd nbt nph ncn nno : Nat → Int32) (nct nsc nrn nlg ndn nzz : Int32) (tlw tkd tbt tph tcn tno : Nat → Int32) (tct tsc trn tlg tdn tzz : Int32) (slw skd sbt sph scn sno : Nat → Int32) (sct ssc srn slg sdn szz : Int32) (bs : Nat → Int32) (tz so fr tt ft : Int32) (bo : Nat → Int32) (bg ak an aa ip : Int32) (sit : Nat → Nat → Int64) (ssr ssi shw shn shs shz ss mhd mas mbf mtp : Nat → Int32) (mtk mfr mtt mvl miw : Int32) (mld mrw mso msz mnu mhw mhh mhm mbo : Nat → Int32) (mak man maa mip : Int32) (hI : INV rws isv rc nlw nkd nbt nph ncn nno nct nsc nrn nlg ndn nzz slw skd sbt sph scn sno sct ssc srn slg sdn szz bs tz bo bg sit ssr ssi shw shn shs shz ss mhd mtp mrw mso msz mnu mhw mhh mhm mbo) : J τ κ 56 1325 (LWs τ a b rws isv rc nlw nkd nbt nph ncn nno nct nsc nrn nlg ndn nzz tlw tkd tbt tph tcn tno tct tsc trn tlg tdn tzz slw skd sbt sph scn sno sct ssc srn slg sdn szz bs tz so fr tt ft bo bg ak an aa ip sit ssr ssi shw shn shs shz ss mhd mas mbf mtp mtk mfr mtt mvl miw mld mrw mso msz mnu mhw mhh mhm mbo mak man maa mip) (LVs sb a b i) 1325 [] := by
  obtain ⟨R, hV, ⟨hrc, hrw⟩, hT, hB, hS, hH⟩ := hI
  refine j_aload_n C dL_law_1325 1326 rfl rfl 1 rfl ?_
  refine j_aload_n C dL_law_1326 1327 rfl rfl 0 rfl ?_
  refine j_iload_n C dL_law_1327 1328 rfl rfl 3 rfl ?_
  refine j_iconst (v := 1) C dL_law_1328 1329 rfl (by decide) ?_
  refine j_iadd C dL_law_1329 1330 rfl ?_
  refine j_sld C X dL_law_1330 1331 rfl (sl_in hi (by decide) (by decide)) h1 ?_
  refine j_aload_n C dL_law_1331 1332 rfl rfl 0 rfl ?_
  refine j_iload_n C dL_law_1332 1333 rfl rfl 3 rfl ?_
  refine j_iconst (v := 2) C dL_law_1333 1334 rfl (by decide) ?_
  refine j_iadd C dL_law_1334 1335 rfl ?_
  refine j_sld C X dL_law_1335 1336 rfl (sl_in hi (by decide) (by decide)) h2 ?_
  refine j_aload_n C dL_law_1336 1337 rfl rfl 0 rfl ?_
  refine j_iload_n C dL_law_1337 1338 rfl rfl 3 rfl ?_
  refine j_iconst (v := 3) C dL_law_1338 1339 rfl (by decide) ?_
  refine j_iadd C dL_law_1339 1340 rfl ?_
  refine j_sld C X dL_law_1340 1341 rfl (sl_in hi (by decide) (by decide)) h3 ?_
  refine j_cvIp (na := 3) C dL_law_1341 1344 rfl (c_X5_sheet τ a rws isv rc sit ssr ssi v1 v2 v3 hrc.1 hrc.2 hS.1) gL_law_X5_sheet rfl rfl rfl qd_X5_sheet rfl ⟨by decide, by decide⟩ ⟨by decide, by decide⟩ rfl (Nat.le_of_ble_eq_true rfl) ((wT τ (fun j => a (10 + j)) nlw nkd nbt nph ncn nno nct nsc nrn nlg ndn nzz) ++ (wT τ (fun j => a (20 + j)) tlw tkd tbt tph tcn tno tct tsc trn tlg tdn tzz) ++ (wT τ (fun j => a (30 + j)) slw skd sbt sph scn sno sct ssc srn slg sdn szz) ++ (wP τ (fun j => a (40 + j)) bs tz so fr tt ft) ++ (wA τ (fun j => a (50 + j)) bo bg ak an aa ip) ++ (wHH τ a shw shn shs shz) ++ (wM τ b ss mhd mas mbf isv mtp tz mtk mfr mtt mvl miw mld mrw rc mso msz mnu mhw mhh mhm mbo bg mak man maa mip)) 44 12 rfl rfl (fun _ => rfl) (by decide +kernel) (by decide +kernel) (by decide +kernel) (pm_0_6 _ _ _ _ _ _ _ _ _) 5 0 rfl rfl (fun u => ((wX τ a rws isv rc) ++ (wT τ (fun j => a (10 + j)) nlw nkd nbt nph ncn nno nct nsc nrn nlg ndn nzz) ++ (wT τ (fun j => a (20 + j)) tlw tkd tbt tph tcn tno tct tsc trn tlg tdn tzz) ++ (wT τ (fun j => a (30 + j)) slw skd sbt sph scn sno sct ssc srn slg sdn szz) ++ (wP τ (fun j => a (40 + j)) bs tz so fr tt ft) ++ (wA τ (fun j => a (50 + j)) bo bg ak an aa ip) ++ (wSS τ a u.1 u.2.1 u.2.2) ++ (wHH τ a shw shn shs shz) ++ (wM τ b ss mhd mas mbf isv mtp tz mtk mfr mtt mvl miw mld mrw rc mso msz mnu mhw mhh mhm mbo bg mak man maa mip))) (fun _ => pm_0_6 _ _ _ _ _ _ _ _ _) (fun r1 u1 hX1 hn1 => ?_)
  obtain ⟨sit_1, ssr_1, ssi_1⟩ := u1
  refine j_aload_n C dL_law_1344 1345 rfl rfl 2 rfl ?_
  refine j_aload_n C dL_law_1345 1346 rfl rfl 0 rfl ?_
  refine j_iload_n C dL_law_1346 1347 rfl rfl 3 rfl ?_
  refine j_iconst (v := 1) C dL_law_1347 1348 rfl (by decide) ?_
  refine j_iadd C dL_law_1348 1349 rfl ?_
  refine j_sld C X dL_law_1349 1350 rfl (sl_in hi (by decide) (by decide)) h1 ?_
  refine j_aload_n C dL_law_1350 1351 rfl rfl 0 rfl ?_
  refine j_iload_n C dL_law_1351 1352 rfl rfl 3 rfl ?_
  refine j_iconst (v := 2) C dL_law_1352 1353 rfl (by decide) ?_
  refine j_iadd C dL_law_1353 1354 rfl ?_
  refine j_sld C X dL_law_1354 1355 rfl (sl_in hi (by decide) (by decide)) h2 ?_
  refine j_aload_n C dL_law_1355 1356 rfl rfl 0 rfl ?_
  refine j_iload_n C dL_law_1356 1357 rfl rfl 3 rfl ?_
  refine j_iconst (v := 3) C dL_law_1357 1358 rfl (by decide) ?_
  refine j_iadd C dL_law_1358 1359 rfl ?_
  refine j_sld C X dL_law_1359 1360 rfl (sl_in hi (by decide) (by decide)) h3 ?_
  refine j_cvIp (na := 3) C dL_law_1360 1363 rfl (c_X6_sheet τ b ss mhd mas mbf isv mtp tz mtk mfr mtt mvl miw mld mrw rc mso msz mnu mhw mhh mhm mbo bg mak man maa mip v1 v2 v3 ) gL_law_X6_sheet rfl rfl rfl qd_X6_sheet rfl ⟨by decide, by decide⟩ ⟨by decide, by decide⟩ rfl (Nat.le_of_ble_eq_true rfl) ((wX τ a rws isv rc) ++ (wT τ (fun j => a (10 + j)) nlw nkd nbt nph ncn nno nct nsc nrn nlg ndn nzz) ++ (wT τ (fun j => a (20 + j)) tlw tkd tbt tph tcn tno tct tsc trn tlg tdn tzz) ++ (wT τ (fun j => a (30 + j)) slw skd sbt sph scn sno sct ssc srn slg sdn szz) ++ (wP τ (fun j => a (40 + j)) bs tz so fr tt ft) ++ (wA τ (fun j => a (50 + j)) bo bg ak an aa ip) ++ (wSS τ a sit_1 ssr_1 ssi_1) ++ (wHH τ a shw shn shs shz)) 41 15 rfl rfl (fun _ => rfl) (by decide +kernel) (by decide +kernel) (by decide +kernel) (List.Perm.refl _) 6 0 rfl rfl (fun u => ((wX τ a rws isv rc) ++ (wT τ (fun j => a (10 + j)) nlw nkd nbt nph ncn nno nct nsc nrn nlg ndn nzz) ++ (wT τ (fun j => a (20 + j)) tlw tkd tbt tph tcn tno tct tsc trn tlg tdn tzz) ++ (wT τ (fun j => a (30 + j)) slw skd sbt sph scn sno sct ssc srn slg sdn szz) ++ (wP τ (fun j => a (40 + j)) bs tz so fr tt ft) ++ (wA τ (fun j => a (50 + j)) bo bg ak an aa ip) ++ (wSS τ a sit_1 ssr_1 ssi_1) ++ (wHH τ a shw shn shs shz) ++ (wM τ b ss mhd mas mbf isv mtp tz mtk mfr mtt mvl miw mld mrw rc u.1 u.2.1 u.2.2 mhw mhh mhm mbo bg mak man maa mip))) (fun _ => List.Perm.refl _) (fun r2 u2 hX2 hn2 => ?_)
  obtain ⟨mso_2, msz_2, mnu_2⟩ := u2
  have E := e_sheet  hS v1 v2 v3
  rw [hX1, hX2] at E
  refine j_icmp_eq C dL_law_1363 1645 rfl 1366 rfl (fun _ => ?_) (fun c => absurd E.1 c)
  exact nx _ _ _ _ _ _ _ _ _ _ _ _ _ _ _ _ _ _ _ _ _ _ _ _ _ _ _ _ _ _ _ _ _ _ _ _ _ _ _ _ _ _ _ _ _ _ _ _ _ _ _ _ _ _ _ _ _ _ _ _ _ _ _ _ _ _ _ _ _ _ _ _ _ _ _ _ _ _ _ _ _ ⟨R, hV, ⟨hrc, hrw⟩, hT, hB, E.2, hH⟩
set_option maxHeartbeats 4000000 in
set_option maxRecDepth 100000 in
theorem Lw_put {τ : SX} {κ : KX} {a b : Nat → Nat} {sb L : Nat} {xs : Nat → Int32} {i : Int32} (C : Cx τ κ cL_law RL wsL_law room_1 4) (X : SB κ sb L xs) (hi : 0 ≤ i.toInt ∧ i.toInt + 5 ≤ L ∧ L ≤ 2560) {v1 v2 v3 v4 : Int32} (h1 : xs (i + 1).toNatClampNeg = v1) (h2 : xs (i + 2).toNatClampNeg = v2) (h3 : xs (i + 3).toNatClampNeg = v3) (h4 : xs (i + 4).toNatClampNeg = v4) (nx : NX τ κ a b sb i) (rws : Nat → Int32) (isv rc : Int32) (nlw nkd nbt nph ncn nno : Nat → Int32) (nct nsc nrn nlg ndn nzz : Int32) (tlw tkd tbt tph tcn tno : Nat → Int32) (tct tsc trn tlg tdn tzz : Int32) (slw skd sbt sph scn sno : Nat → Int32) (sct ssc srn slg sdn szz : Int32) (bs : Nat → Int32) (tz so fr tt ft : Int32) (bo : Nat → Int32) (bg ak an aa ip : Int32) (sit : Nat → Nat → Int64) (ssr ssi shw shn shs shz ss mhd mas mbf mtp : Nat → Int32) (mtk mfr mtt mvl miw : Int32) (mld mrw mso msz mnu mhw mhh mhm mbo : Nat → Int32) (mak man maa mip : Int32) (hI : INV rws isv rc nlw nkd nbt nph ncn nno nct nsc nrn nlg ndn nzz slw skd sbt sph scn sno sct ssc srn slg sdn szz bs tz bo bg sit ssr ssi shw shn shs shz ss mhd mtp mrw mso msz mnu mhw mhh mhm mbo) : J τ κ 56 1325 (LWs τ a b rws isv rc nlw nkd nbt nph ncn nno nct nsc nrn nlg ndn nzz tlw tkd tbt tph tcn tno tct tsc trn tlg tdn tzz slw skd sbt sph scn sno sct ssc srn slg sdn szz bs tz so fr tt ft bo bg ak an aa ip sit ssr ssi shw shn shs shz ss mhd mas mbf mtp mtk mfr mtt mvl miw mld mrw mso msz mnu mhw mhh mhm mbo mak man maa mip) (LVs sb a b i) 1368 [] := by
  obtain ⟨R, hV, ⟨hrc, hrw⟩, hT, hB, hS, hH⟩ := hI
  refine j_aload_n C dL_law_1368 1369 rfl rfl 1 rfl ?_
  refine j_aload_n C dL_law_1369 1370 rfl rfl 0 rfl ?_
  refine j_iload_n C dL_law_1370 1371 rfl rfl 3 rfl ?_
  refine j_iconst (v := 1) C dL_law_1371 1372 rfl (by decide) ?_
  refine j_iadd C dL_law_1372 1373 rfl ?_
  refine j_sld C X dL_law_1373 1374 rfl (sl_in hi (by decide) (by decide)) h1 ?_
  refine j_aload_n C dL_law_1374 1375 rfl rfl 0 rfl ?_
  refine j_iload_n C dL_law_1375 1376 rfl rfl 3 rfl ?_
  refine j_iconst (v := 2) C dL_law_1376 1377 rfl (by decide) ?_
  refine j_iadd C dL_law_1377 1378 rfl ?_
  refine j_sld C X dL_law_1378 1379 rfl (sl_in hi (by decide) (by decide)) h2 ?_
  refine j_aload_n C dL_law_1379 1380 rfl rfl 0 rfl ?_
  refine j_iload_n C dL_law_1380 1381 rfl rfl 3 rfl ?_
  refine j_iconst (v := 3) C dL_law_1381 1382 rfl (by decide) ?_
  refine j_iadd C dL_law_1382 1383 rfl ?_
  refine j_sld C X dL_law_1383 1384 rfl (sl_in hi (by decide) (by decide)) h3 ?_
  refine j_cvIp (na := 3) C dL_law_1384 1387 rfl (c_X5_put τ a rws isv rc sit ssr ssi v1 v2 v3 hrc.1 hrc.2 hS.1) gL_law_X5_put rfl rfl rfl qd_X5_put rfl ⟨by decide, by decide⟩ ⟨by decide, by decide⟩ rfl (Nat.le_of_ble_eq_true rfl) ((wT τ (fun j => a (10 + j)) nlw nkd nbt nph ncn nno nct nsc nrn nlg ndn nzz) ++ (wT τ (fun j => a (20 + j)) tlw tkd tbt tph tcn tno tct tsc trn tlg tdn tzz) ++ (wT τ (fun j => a (30 + j)) slw skd sbt sph scn sno sct ssc srn slg sdn szz) ++ (wP τ (fun j => a (40 + j)) bs tz so fr tt ft) ++ (wA τ (fun j => a (50 + j)) bo bg ak an aa ip) ++ (wHH τ a shw shn shs shz) ++ (wM τ b ss mhd mas mbf isv mtp tz mtk mfr mtt mvl miw mld mrw rc mso msz mnu mhw mhh mhm mbo bg mak man maa mip)) 44 12 rfl rfl (fun _ => rfl) (by decide +kernel) (by decide +kernel) (by decide +kernel) (pm_0_6 _ _ _ _ _ _ _ _ _) 5 0 rfl rfl (fun u => ((wX τ a rws isv rc) ++ (wT τ (fun j => a (10 + j)) nlw nkd nbt nph ncn nno nct nsc nrn nlg ndn nzz) ++ (wT τ (fun j => a (20 + j)) tlw tkd tbt tph tcn tno tct tsc trn tlg tdn tzz) ++ (wT τ (fun j => a (30 + j)) slw skd sbt sph scn sno sct ssc srn slg sdn szz) ++ (wP τ (fun j => a (40 + j)) bs tz so fr tt ft) ++ (wA τ (fun j => a (50 + j)) bo bg ak an aa ip) ++ (wSS τ a u ssr ssi) ++ (wHH τ a shw shn shs shz) ++ (wM τ b ss mhd mas mbf isv mtp tz mtk mfr mtt mvl miw mld mrw rc mso msz mnu mhw mhh mhm mbo bg mak man maa mip))) (fun _ => pm_0_6 _ _ _ _ _ _ _ _ _) (fun r1 u1 hX1 hn1 => ?_)
  refine j_aload_n C dL_law_1387 1388 rfl rfl 2 rfl ?_
  refine j_aload_n C dL_law_1388 1389 rfl rfl 0 rfl ?_
  refine j_iload_n C dL_law_1389 1390 rfl rfl 3 rfl ?_
  refine j_iconst (v := 1) C dL_law_1390 1391 rfl (by decide) ?_
  refine j_iadd C dL_law_1391 1392 rfl ?_
  refine j_sld C X dL_law_1392 1393 rfl (sl_in hi (by decide) (by decide)) h1 ?_
  refine j_aload_n C dL_law_1393 1394 rfl rfl 0 rfl ?_
  refine j_iload_n C dL_law_1394 1395 rfl rfl 3 rfl ?_
  refine j_iconst (v := 2) C dL_law_1395 1396 rfl (by decide) ?_
  refine j_iadd C dL_law_1396 1397 rfl ?_
  refine j_sld C X dL_law_1397 1398 rfl (sl_in hi (by decide) (by decide)) h2 ?_
  refine j_aload_n C dL_law_1398 1399 rfl rfl 0 rfl ?_
  refine j_iload_n C dL_law_1399 1400 rfl rfl 3 rfl ?_
  refine j_iconst (v := 3) C dL_law_1400 1401 rfl (by decide) ?_
  refine j_iadd C dL_law_1401 1402 rfl ?_
  refine j_sld C X dL_law_1402 1403 rfl (sl_in hi (by decide) (by decide)) h3 ?_
  refine j_cvIp (na := 3) C dL_law_1403 1406 rfl (c_X6_put τ b ss mhd mas mbf isv mtp tz mtk mfr mtt mvl miw mld mrw rc mso msz mnu mhw mhh mhm mbo bg mak man maa mip v1 v2 v3 hS.2.1) gL_law_X6_put rfl rfl rfl qd_X6_put rfl ⟨by decide, by decide⟩ ⟨by decide, by decide⟩ rfl (Nat.le_of_ble_eq_true rfl) ((wX τ a rws isv rc) ++ (wT τ (fun j => a (10 + j)) nlw nkd nbt nph ncn nno nct nsc nrn nlg ndn nzz) ++ (wT τ (fun j => a (20 + j)) tlw tkd tbt tph tcn tno tct tsc trn tlg tdn tzz) ++ (wT τ (fun j => a (30 + j)) slw skd sbt sph scn sno sct ssc srn slg sdn szz) ++ (wP τ (fun j => a (40 + j)) bs tz so fr tt ft) ++ (wA τ (fun j => a (50 + j)) bo bg ak an aa ip) ++ (wSS τ a u1 ssr ssi) ++ (wHH τ a shw shn shs shz)) 41 15 rfl rfl (fun _ => rfl) (by decide +kernel) (by decide +kernel) (by decide +kernel) (List.Perm.refl _) 6 0 rfl rfl (fun u => ((wX τ a rws isv rc) ++ (wT τ (fun j => a (10 + j)) nlw nkd nbt nph ncn nno nct nsc nrn nlg ndn nzz) ++ (wT τ (fun j => a (20 + j)) tlw tkd tbt tph tcn tno tct tsc trn tlg tdn tzz) ++ (wT τ (fun j => a (30 + j)) slw skd sbt sph scn sno sct ssc srn slg sdn szz) ++ (wP τ (fun j => a (40 + j)) bs tz so fr tt ft) ++ (wA τ (fun j => a (50 + j)) bo bg ak an aa ip) ++ (wSS τ a u1 ssr ssi) ++ (wHH τ a shw shn shs shz) ++ (wM τ b ss mhd mas mbf isv mtp tz mtk mfr mtt mvl miw mld mrw rc mso msz u mhw mhh mhm mbo bg mak man maa mip))) (fun _ => List.Perm.refl _) (fun r2 u2 hX2 hn2 => ?_)
  have E := e_put  hS v1 v2 v3
  rw [hX1, hX2] at E
  refine j_icmp_eq C dL_law_1406 1645 rfl 1409 rfl (fun _ => ?_) (fun c => absurd E.1 c)
  exact nx _ _ _ _ _ _ _ _ _ _ _ _ _ _ _ _ _ _ _ _ _ _ _ _ _ _ _ _ _ _ _ _ _ _ _ _ _ _ _ _ _ _ _ _ _ _ _ _ _ _ _ _ _ _ _ _ _ _ _ _ _ _ _ _ _ _ _ _ _ _ _ _ _ _ _ _ _ _ _ _ _ ⟨R, hV, ⟨hrc, hrw⟩, hT, hB, E.2, hH⟩
set_option maxHeartbeats 4000000 in
set_option maxRecDepth 100000 in
theorem Lw_item {τ : SX} {κ : KX} {a b : Nat → Nat} {sb L : Nat} {xs : Nat → Int32} {i : Int32} (C : Cx τ κ cL_law RL wsL_law room_1 4) (X : SB κ sb L xs) (hi : 0 ≤ i.toInt ∧ i.toInt + 5 ≤ L ∧ L ≤ 2560) {v1 v2 v3 v4 : Int32} (h1 : xs (i + 1).toNatClampNeg = v1) (h2 : xs (i + 2).toNatClampNeg = v2) (h3 : xs (i + 3).toNatClampNeg = v3) (h4 : xs (i + 4).toNatClampNeg = v4) (nx : NX τ κ a b sb i) (rws : Nat → Int32) (isv rc : Int32) (nlw nkd nbt nph ncn nno : Nat → Int32) (nct nsc nrn nlg ndn nzz : Int32) (tlw tkd tbt tph tcn tno : Nat → Int32) (tct tsc trn tlg tdn tzz : Int32) (slw skd sbt sph scn sno : Nat → Int32) (sct ssc srn slg sdn szz : Int32) (bs : Nat → Int32) (tz so fr tt ft : Int32) (bo : Nat → Int32) (bg ak an aa ip : Int32) (sit : Nat → Nat → Int64) (ssr ssi shw shn shs shz ss mhd mas mbf mtp : Nat → Int32) (mtk mfr mtt mvl miw : Int32) (mld mrw mso msz mnu mhw mhh mhm mbo : Nat → Int32) (mak man maa mip : Int32) (hI : INV rws isv rc nlw nkd nbt nph ncn nno nct nsc nrn nlg ndn nzz slw skd sbt sph scn sno sct ssc srn slg sdn szz bs tz bo bg sit ssr ssi shw shn shs shz ss mhd mtp mrw mso msz mnu mhw mhh mhm mbo) : J τ κ 56 1325 (LWs τ a b rws isv rc nlw nkd nbt nph ncn nno nct nsc nrn nlg ndn nzz tlw tkd tbt tph tcn tno tct tsc trn tlg tdn tzz slw skd sbt sph scn sno sct ssc srn slg sdn szz bs tz so fr tt ft bo bg ak an aa ip sit ssr ssi shw shn shs shz ss mhd mas mbf mtp mtk mfr mtt mvl miw mld mrw mso msz mnu mhw mhh mhm mbo mak man maa mip) (LVs sb a b i) 1411 [] := by
  obtain ⟨R, hV, ⟨hrc, hrw⟩, hT, hB, hS, hH⟩ := hI
  refine j_aload_n C dL_law_1411 1412 rfl rfl 1 rfl ?_
  refine j_aload_n C dL_law_1412 1413 rfl rfl 0 rfl ?_
  refine j_iload_n C dL_law_1413 1414 rfl rfl 3 rfl ?_
  refine j_iconst (v := 1) C dL_law_1414 1415 rfl (by decide) ?_
  refine j_iadd C dL_law_1415 1416 rfl ?_
  refine j_sld C X dL_law_1416 1417 rfl (sl_in hi (by decide) (by decide)) h1 ?_
  refine j_aload_n C dL_law_1417 1418 rfl rfl 0 rfl ?_
  refine j_iload_n C dL_law_1418 1419 rfl rfl 3 rfl ?_
  refine j_iconst (v := 2) C dL_law_1419 1420 rfl (by decide) ?_
  refine j_iadd C dL_law_1420 1421 rfl ?_
  refine j_sld C X dL_law_1421 1422 rfl (sl_in hi (by decide) (by decide)) h2 ?_
  refine j_aload_n C dL_law_1422 1423 rfl rfl 0 rfl ?_
  refine j_iload_n C dL_law_1423 1424 rfl rfl 3 rfl ?_
  refine j_iconst (v := 3) C dL_law_1424 1425 rfl (by decide) ?_
  refine j_iadd C dL_law_1425 1426 rfl ?_
  refine j_sld C X dL_law_1426 1427 rfl (sl_in hi (by decide) (by decide)) h3 ?_
  refine j_cvIp (na := 3) C dL_law_1427 1430 rfl (c_X5_item τ a rws isv rc sit ssr ssi v1 v2 v3 hrc.1 hrc.2 hS.1) gL_law_X5_item rfl rfl rfl qd_X5_item rfl ⟨by decide, by decide⟩ ⟨by decide, by decide⟩ rfl (Nat.le_of_ble_eq_true rfl) ((wT τ (fun j => a (10 + j)) nlw nkd nbt nph ncn nno nct nsc nrn nlg ndn nzz) ++ (wT τ (fun j => a (20 + j)) tlw tkd tbt tph tcn tno tct tsc trn tlg tdn tzz) ++ (wT τ (fun j => a (30 + j)) slw skd sbt sph scn sno sct ssc srn slg sdn szz) ++ (wP τ (fun j => a (40 + j)) bs tz so fr tt ft) ++ (wA τ (fun j => a (50 + j)) bo bg ak an aa ip) ++ (wHH τ a shw shn shs shz) ++ (wM τ b ss mhd mas mbf isv mtp tz mtk mfr mtt mvl miw mld mrw rc mso msz mnu mhw mhh mhm mbo bg mak man maa mip)) 44 12 rfl rfl (fun _ => rfl) (by decide +kernel) (by decide +kernel) (by decide +kernel) (pm_0_6 _ _ _ _ _ _ _ _ _) 5 0 rfl rfl (fun _ => ((wX τ a rws isv rc) ++ (wT τ (fun j => a (10 + j)) nlw nkd nbt nph ncn nno nct nsc nrn nlg ndn nzz) ++ (wT τ (fun j => a (20 + j)) tlw tkd tbt tph tcn tno tct tsc trn tlg tdn tzz) ++ (wT τ (fun j => a (30 + j)) slw skd sbt sph scn sno sct ssc srn slg sdn szz) ++ (wP τ (fun j => a (40 + j)) bs tz so fr tt ft) ++ (wA τ (fun j => a (50 + j)) bo bg ak an aa ip) ++ (wSS τ a sit ssr ssi) ++ (wHH τ a shw shn shs shz) ++ (wM τ b ss mhd mas mbf isv mtp tz mtk mfr mtt mvl miw mld mrw rc mso msz mnu mhw mhh mhm mbo bg mak man maa mip))) (fun _ => pm_0_6 _ _ _ _ _ _ _ _ _) (fun r1 u1 hX1 hn1 => ?_)
  obtain rfl := (Prod.mk.inj hX1).1
  refine j_aload_n C dL_law_1430 1431 rfl rfl 2 rfl ?_
  refine j_aload_n C dL_law_1431 1432 rfl rfl 0 rfl ?_
  refine j_iload_n C dL_law_1432 1433 rfl rfl 3 rfl ?_
  refine j_iconst (v := 1) C dL_law_1433 1434 rfl (by decide) ?_
  refine j_iadd C dL_law_1434 1435 rfl ?_
  refine j_sld C X dL_law_1435 1436 rfl (sl_in hi (by decide) (by decide)) h1 ?_
  refine j_aload_n C dL_law_1436 1437 rfl rfl 0 rfl ?_
  refine j_iload_n C dL_law_1437 1438 rfl rfl 3 rfl ?_
  refine j_iconst (v := 2) C dL_law_1438 1439 rfl (by decide) ?_
  refine j_iadd C dL_law_1439 1440 rfl ?_
  refine j_sld C X dL_law_1440 1441 rfl (sl_in hi (by decide) (by decide)) h2 ?_
  refine j_aload_n C dL_law_1441 1442 rfl rfl 0 rfl ?_
  refine j_iload_n C dL_law_1442 1443 rfl rfl 3 rfl ?_
  refine j_iconst (v := 3) C dL_law_1443 1444 rfl (by decide) ?_
  refine j_iadd C dL_law_1444 1445 rfl ?_
  refine j_sld C X dL_law_1445 1446 rfl (sl_in hi (by decide) (by decide)) h3 ?_
  refine j_cvIp (na := 3) C dL_law_1446 1449 rfl (c_X6_item τ b ss mhd mas mbf isv mtp tz mtk mfr mtt mvl miw mld mrw rc mso msz mnu mhw mhh mhm mbo bg mak man maa mip v1 v2 v3 hS.2.1) gL_law_X6_item rfl rfl rfl qd_X6_item rfl ⟨by decide, by decide⟩ ⟨by decide, by decide⟩ rfl (Nat.le_of_ble_eq_true rfl) ((wX τ a rws isv rc) ++ (wT τ (fun j => a (10 + j)) nlw nkd nbt nph ncn nno nct nsc nrn nlg ndn nzz) ++ (wT τ (fun j => a (20 + j)) tlw tkd tbt tph tcn tno tct tsc trn tlg tdn tzz) ++ (wT τ (fun j => a (30 + j)) slw skd sbt sph scn sno sct ssc srn slg sdn szz) ++ (wP τ (fun j => a (40 + j)) bs tz so fr tt ft) ++ (wA τ (fun j => a (50 + j)) bo bg ak an aa ip) ++ (wSS τ a sit ssr ssi) ++ (wHH τ a shw shn shs shz)) 41 15 rfl rfl (fun _ => rfl) (by decide +kernel) (by decide +kernel) (by decide +kernel) (List.Perm.refl _) 6 0 rfl rfl (fun _ => ((wX τ a rws isv rc) ++ (wT τ (fun j => a (10 + j)) nlw nkd nbt nph ncn nno nct nsc nrn nlg ndn nzz) ++ (wT τ (fun j => a (20 + j)) tlw tkd tbt tph tcn tno tct tsc trn tlg tdn tzz) ++ (wT τ (fun j => a (30 + j)) slw skd sbt sph scn sno sct ssc srn slg sdn szz) ++ (wP τ (fun j => a (40 + j)) bs tz so fr tt ft) ++ (wA τ (fun j => a (50 + j)) bo bg ak an aa ip) ++ (wSS τ a sit ssr ssi) ++ (wHH τ a shw shn shs shz) ++ (wM τ b ss mhd mas mbf isv mtp tz mtk mfr mtt mvl miw mld mrw rc mso msz mnu mhw mhh mhm mbo bg mak man maa mip))) (fun _ => List.Perm.refl _) (fun r2 u2 hX2 hn2 => ?_)
  obtain rfl := (Prod.mk.inj hX2).1
  have E := e_item  hS v1 v2 v3
  refine j_icmp_eq C dL_law_1449 1645 rfl 1452 rfl (fun _ => ?_) (fun c => absurd E c)
  exact nx _ _ _ _ _ _ _ _ _ _ _ _ _ _ _ _ _ _ _ _ _ _ _ _ _ _ _ _ _ _ _ _ _ _ _ _ _ _ _ _ _ _ _ _ _ _ _ _ _ _ _ _ _ _ _ _ _ _ _ _ _ _ _ _ _ _ _ _ _ _ _ _ _ _ _ _ _ _ _ _ _ ⟨R, hV, ⟨hrc, hrw⟩, hT, hB, hS, hH⟩
set_option maxHeartbeats 4000000 in
set_option maxRecDepth 100000 in
theorem Lw_shelf {τ : SX} {κ : KX} {a b : Nat → Nat} {sb L : Nat} {xs : Nat → Int32} {i : Int32} (C : Cx τ κ cL_law RL wsL_law room_1 4) (X : SB κ sb L xs) (hi : 0 ≤ i.toInt ∧ i.toInt + 5 ≤ L ∧ L ≤ 2560) {v1 v2 v3 v4 : Int32} (h1 : xs (i + 1).toNatClampNeg = v1) (h2 : xs (i + 2).toNatClampNeg = v2) (h3 : xs (i + 3).toNatClampNeg = v3) (h4 : xs (i + 4).toNatClampNeg = v4) (nx : NX τ κ a b sb i) (rws : Nat → Int32) (isv rc : Int32) (nlw nkd nbt nph ncn nno : Nat → Int32) (nct nsc nrn nlg ndn nzz : Int32) (tlw tkd tbt tph tcn tno : Nat → Int32) (tct tsc trn tlg tdn tzz : Int32) (slw skd sbt sph scn sno : Nat → Int32) (sct ssc srn slg sdn szz : Int32) (bs : Nat → Int32) (tz so fr tt ft : Int32) (bo : Nat → Int32) (bg ak an aa ip : Int32) (sit : Nat → Nat → Int64) (ssr ssi shw shn shs shz ss mhd mas mbf mtp : Nat → Int32) (mtk mfr mtt mvl miw : Int32) (mld mrw mso msz mnu mhw mhh mhm mbo : Nat → Int32) (mak man maa mip : Int32) (hI : INV rws isv rc nlw nkd nbt nph ncn nno nct nsc nrn nlg ndn nzz slw skd sbt sph scn sno sct ssc srn slg sdn szz bs tz bo bg sit ssr ssi shw shn shs shz ss mhd mtp mrw mso msz mnu mhw mhh mhm mbo) : J τ κ 56 1325 (LWs τ a b rws isv rc nlw nkd nbt nph ncn nno nct nsc nrn nlg ndn nzz tlw tkd tbt tph tcn tno tct tsc trn tlg tdn tzz slw skd sbt sph scn sno sct ssc srn slg sdn szz bs tz so fr tt ft bo bg ak an aa ip sit ssr ssi shw shn shs shz ss mhd mas mbf mtp mtk mfr mtt mvl miw mld mrw mso msz mnu mhw mhh mhm mbo mak man maa mip) (LVs sb a b i) 1454 [] := by
  obtain ⟨R, hV, ⟨hrc, hrw⟩, hT, hB, hS, hH⟩ := hI
  refine j_aload_n C dL_law_1454 1455 rfl rfl 1 rfl ?_
  refine j_aload_n C dL_law_1455 1456 rfl rfl 0 rfl ?_
  refine j_iload_n C dL_law_1456 1457 rfl rfl 3 rfl ?_
  refine j_iconst (v := 1) C dL_law_1457 1458 rfl (by decide) ?_
  refine j_iadd C dL_law_1458 1459 rfl ?_
  refine j_sld C X dL_law_1459 1460 rfl (sl_in hi (by decide) (by decide)) h1 ?_
  refine j_aload_n C dL_law_1460 1461 rfl rfl 0 rfl ?_
  refine j_iload_n C dL_law_1461 1462 rfl rfl 3 rfl ?_
  refine j_iconst (v := 2) C dL_law_1462 1463 rfl (by decide) ?_
  refine j_iadd C dL_law_1463 1464 rfl ?_
  refine j_sld C X dL_law_1464 1465 rfl (sl_in hi (by decide) (by decide)) h2 ?_
  refine j_aload_n C dL_law_1465 1466 rfl rfl 0 rfl ?_
  refine j_iload_n C dL_law_1466 1467 rfl rfl 3 rfl ?_
  refine j_iconst (v := 3) C dL_law_1467 1468 rfl (by decide) ?_
  refine j_iadd C dL_law_1468 1469 rfl ?_
  refine j_sld C X dL_law_1469 1470 rfl (sl_in hi (by decide) (by decide)) h3 ?_
  refine j_cvIp (na := 3) C dL_law_1470 1473 rfl (c_X5_shelf τ a rws isv rc nlw nkd nbt nph ncn nno nct nsc nrn nlg ndn nzz sit ssr ssi shw shn shs shz v1 v2 v3 hrc.1 hrc.2 R.2.2.1.1 R.2.2.1.2 hS.1) gL_law_X5_shelf rfl rfl rfl qd_X5_shelf rfl ⟨by decide, by decide⟩ ⟨by decide, by decide⟩ rfl (Nat.le_of_ble_eq_true rfl) ((wT τ (fun j => a (20 + j)) tlw tkd tbt tph tcn tno tct tsc trn tlg tdn tzz) ++ (wT τ (fun j => a (30 + j)) slw skd sbt sph scn sno sct ssc srn slg sdn szz) ++ (wP τ (fun j => a (40 + j)) bs tz so fr tt ft) ++ (wA τ (fun j => a (50 + j)) bo bg ak an aa ip) ++ (wM τ b ss mhd mas mbf isv mtp tz mtk mfr mtt mvl miw mld mrw rc mso msz mnu mhw mhh mhm mbo bg mak man maa mip)) 33 23 rfl rfl (fun _ => rfl) (by decide +kernel) (by decide +kernel) (by decide +kernel) (pm_0_1_6_7 _ _ _ _ _ _ _ _ _) 5 0 rfl rfl (fun u => ((wX τ a rws isv rc) ++ (wT τ (fun j => a (10 + j)) nlw nkd nbt nph ncn nno nct nsc nrn nlg ndn nzz) ++ (wT τ (fun j => a (20 + j)) tlw tkd tbt tph tcn tno tct tsc trn tlg tdn tzz) ++ (wT τ (fun j => a (30 + j)) slw skd sbt sph scn sno sct ssc srn slg sdn szz) ++ (wP τ (fun j => a (40 + j)) bs tz so fr tt ft) ++ (wA τ (fun j => a (50 + j)) bo bg ak an aa ip) ++ (wSS τ a sit ssr ssi) ++ (wHH τ a u.1 u.2.1 u.2.2.1 u.2.2.2) ++ (wM τ b ss mhd mas mbf isv mtp tz mtk mfr mtt mvl miw mld mrw rc mso msz mnu mhw mhh mhm mbo bg mak man maa mip))) (fun _ => pm_0_1_6_7 _ _ _ _ _ _ _ _ _) (fun r1 u1 hX1 hn1 => ?_)
  obtain ⟨shw_1, shn_1, shs_1, shz_1⟩ := u1
  refine j_aload_n C dL_law_1473 1474 rfl rfl 2 rfl ?_
  refine j_aload_n C dL_law_1474 1475 rfl rfl 0 rfl ?_
  refine j_iload_n C dL_law_1475 1476 rfl rfl 3 rfl ?_
  refine j_iconst (v := 1) C dL_law_1476 1477 rfl (by decide) ?_
  refine j_iadd C dL_law_1477 1478 rfl ?_
  refine j_sld C X dL_law_1478 1479 rfl (sl_in hi (by decide) (by decide)) h1 ?_
  refine j_aload_n C dL_law_1479 1480 rfl rfl 0 rfl ?_
  refine j_iload_n C dL_law_1480 1481 rfl rfl 3 rfl ?_
  refine j_iconst (v := 2) C dL_law_1481 1482 rfl (by decide) ?_
  refine j_iadd C dL_law_1482 1483 rfl ?_
  refine j_sld C X dL_law_1483 1484 rfl (sl_in hi (by decide) (by decide)) h2 ?_
  refine j_aload_n C dL_law_1484 1485 rfl rfl 0 rfl ?_
  refine j_iload_n C dL_law_1485 1486 rfl rfl 3 rfl ?_
  refine j_iconst (v := 3) C dL_law_1486 1487 rfl (by decide) ?_
  refine j_iadd C dL_law_1487 1488 rfl ?_
  refine j_sld C X dL_law_1488 1489 rfl (sl_in hi (by decide) (by decide)) h3 ?_
  refine j_cvIp (na := 3) C dL_law_1489 1492 rfl (c_X6_shelf τ b ss mhd mas mbf isv mtp tz mtk mfr mtt mvl miw mld mrw rc mso msz mnu mhw mhh mhm mbo bg mak man maa mip v1 v2 v3 (rt_ok R)) gL_law_X6_shelf rfl rfl rfl qd_X6_shelf rfl ⟨by decide, by decide⟩ ⟨by decide, by decide⟩ rfl (Nat.le_of_ble_eq_true rfl) ((wX τ a rws isv rc) ++ (wT τ (fun j => a (10 + j)) nlw nkd nbt nph ncn nno nct nsc nrn nlg ndn nzz) ++ (wT τ (fun j => a (20 + j)) tlw tkd tbt tph tcn tno tct tsc trn tlg tdn tzz) ++ (wT τ (fun j => a (30 + j)) slw skd sbt sph scn sno sct ssc srn slg sdn szz) ++ (wP τ (fun j => a (40 + j)) bs tz so fr tt ft) ++ (wA τ (fun j => a (50 + j)) bo bg ak an aa ip) ++ (wSS τ a sit ssr ssi) ++ (wHH τ a shw_1 shn_1 shs_1 shz_1)) 41 15 rfl rfl (fun _ => rfl) (by decide +kernel) (by decide +kernel) (by decide +kernel) (List.Perm.refl _) 6 0 rfl rfl (fun u => ((wX τ a rws isv rc) ++ (wT τ (fun j => a (10 + j)) nlw nkd nbt nph ncn nno nct nsc nrn nlg ndn nzz) ++ (wT τ (fun j => a (20 + j)) tlw tkd tbt tph tcn tno tct tsc trn tlg tdn tzz) ++ (wT τ (fun j => a (30 + j)) slw skd sbt sph scn sno sct ssc srn slg sdn szz) ++ (wP τ (fun j => a (40 + j)) bs tz so fr tt ft) ++ (wA τ (fun j => a (50 + j)) bo bg ak an aa ip) ++ (wSS τ a sit ssr ssi) ++ (wHH τ a shw_1 shn_1 shs_1 shz_1) ++ (wM τ b ss mhd mas mbf isv mtp tz mtk mfr mtt mvl miw mld mrw rc mso msz mnu u.1 u.2.1 u.2.2 mbo bg mak man maa mip))) (fun _ => List.Perm.refl _) (fun r2 u2 hX2 hn2 => ?_)
  obtain ⟨mhw_2, mhh_2, mhm_2⟩ := u2
  have E := e_shelf  R hS hH v1 v2 v3
  rw [hX1, hX2] at E
  refine j_icmp_eq C dL_law_1492 1645 rfl 1495 rfl (fun _ => ?_) (fun c => absurd E.1 c)
  exact nx _ _ _ _ _ _ _ _ _ _ _ _ _ _ _ _ _ _ _ _ _ _ _ _ _ _ _ _ _ _ _ _ _ _ _ _ _ _ _ _ _ _ _ _ _ _ _ _ _ _ _ _ _ _ _ _ _ _ _ _ _ _ _ _ _ _ _ _ _ _ _ _ _ _ _ _ _ _ _ _ _ ⟨R, hV, ⟨hrc, hrw⟩, hT, hB, hS, E.2⟩
set_option maxHeartbeats 4000000 in
set_option maxRecDepth 100000 in
theorem Lw_taken {τ : SX} {κ : KX} {a b : Nat → Nat} {sb L : Nat} {xs : Nat → Int32} {i : Int32} (C : Cx τ κ cL_law RL wsL_law room_1 4) (X : SB κ sb L xs) (hi : 0 ≤ i.toInt ∧ i.toInt + 5 ≤ L ∧ L ≤ 2560) {v1 v2 v3 v4 : Int32} (h1 : xs (i + 1).toNatClampNeg = v1) (h2 : xs (i + 2).toNatClampNeg = v2) (h3 : xs (i + 3).toNatClampNeg = v3) (h4 : xs (i + 4).toNatClampNeg = v4) (nx : NX τ κ a b sb i) (rws : Nat → Int32) (isv rc : Int32) (nlw nkd nbt nph ncn nno : Nat → Int32) (nct nsc nrn nlg ndn nzz : Int32) (tlw tkd tbt tph tcn tno : Nat → Int32) (tct tsc trn tlg tdn tzz : Int32) (slw skd sbt sph scn sno : Nat → Int32) (sct ssc srn slg sdn szz : Int32) (bs : Nat → Int32) (tz so fr tt ft : Int32) (bo : Nat → Int32) (bg ak an aa ip : Int32) (sit : Nat → Nat → Int64) (ssr ssi shw shn shs shz ss mhd mas mbf mtp : Nat → Int32) (mtk mfr mtt mvl miw : Int32) (mld mrw mso msz mnu mhw mhh mhm mbo : Nat → Int32) (mak man maa mip : Int32) (hI : INV rws isv rc nlw nkd nbt nph ncn nno nct nsc nrn nlg ndn nzz slw skd sbt sph scn sno sct ssc srn slg sdn szz bs tz bo bg sit ssr ssi shw shn shs shz ss mhd mtp mrw mso msz mnu mhw mhh mhm mbo) : J τ κ 56 1325 (LWs τ a b rws isv rc nlw nkd nbt nph ncn nno nct nsc nrn nlg ndn nzz tlw tkd tbt tph tcn tno tct tsc trn tlg tdn tzz slw skd sbt sph scn sno sct ssc srn slg sdn szz bs tz so fr tt ft bo bg ak an aa ip sit ssr ssi shw shn shs shz ss mhd mas mbf mtp mtk mfr mtt mvl miw mld mrw mso msz mnu mhw mhh mhm mbo mak man maa mip) (LVs sb a b i) 1497 [] := by
  obtain ⟨R, hV, ⟨hrc, hrw⟩, hT, hB, hS, hH⟩ := hI
  refine j_aload_n C dL_law_1497 1498 rfl rfl 1 rfl ?_
  refine j_aload_n C dL_law_1498 1499 rfl rfl 0 rfl ?_
  refine j_iload_n C dL_law_1499 1500 rfl rfl 3 rfl ?_
  refine j_iconst (v := 1) C dL_law_1500 1501 rfl (by decide) ?_
  refine j_iadd C dL_law_1501 1502 rfl ?_
  refine j_sld C X dL_law_1502 1503 rfl (sl_in hi (by decide) (by decide)) h1 ?_
  refine j_aload_n C dL_law_1503 1504 rfl rfl 0 rfl ?_
  refine j_iload_n C dL_law_1504 1505 rfl rfl 3 rfl ?_
  refine j_iconst (v := 2) C dL_law_1505 1506 rfl (by decide) ?_
  refine j_iadd C dL_law_1506 1507 rfl ?_
  refine j_sld C X dL_law_1507 1508 rfl (sl_in hi (by decide) (by decide)) h2 ?_
  refine j_cvIp (na := 2) C dL_law_1508 1511 rfl (c_X5_taken τ a rws isv rc nlw nkd nbt nph ncn nno nct nsc nrn nlg ndn nzz shw shn shs shz v1 v2 hrc.1 hrc.2 R.2.2.1.1 R.2.2.1.2) gL_law_X5_taken rfl rfl rfl qd_X5_taken rfl ⟨by decide, by decide⟩ ⟨by decide, by decide⟩ rfl (Nat.le_of_ble_eq_true rfl) ((wT τ (fun j => a (20 + j)) tlw tkd tbt tph tcn tno tct tsc trn tlg tdn tzz) ++ (wT τ (fun j => a (30 + j)) slw skd sbt sph scn sno sct ssc srn slg sdn szz) ++ (wP τ (fun j => a (40 + j)) bs tz so fr tt ft) ++ (wA τ (fun j => a (50 + j)) bo bg ak an aa ip) ++ (wSS τ a sit ssr ssi) ++ (wM τ b ss mhd mas mbf isv mtp tz mtk mfr mtt mvl miw mld mrw rc mso msz mnu mhw mhh mhm mbo bg mak man maa mip)) 41 15 rfl rfl (fun _ => rfl) (by decide +kernel) (by decide +kernel) (by decide +kernel) (pm_0_1_7 _ _ _ _ _ _ _ _ _) 5 0 rfl rfl (fun _ => ((wX τ a rws isv rc) ++ (wT τ (fun j => a (10 + j)) nlw nkd nbt nph ncn nno nct nsc nrn nlg ndn nzz) ++ (wT τ (fun j => a (20 + j)) tlw tkd tbt tph tcn tno tct tsc trn tlg tdn tzz) ++ (wT τ (fun j => a (30 + j)) slw skd sbt sph scn sno sct ssc srn slg sdn szz) ++ (wP τ (fun j => a (40 + j)) bs tz so fr tt ft) ++ (wA τ (fun j => a (50 + j)) bo bg ak an aa ip) ++ (wSS τ a sit ssr ssi) ++ (wHH τ a shw shn shs shz) ++ (wM τ b ss mhd mas mbf isv mtp tz mtk mfr mtt mvl miw mld mrw rc mso msz mnu mhw mhh mhm mbo bg mak man maa mip))) (fun _ => pm_0_1_7 _ _ _ _ _ _ _ _ _) (fun r1 u1 hX1 hn1 => ?_)
  obtain rfl := (Prod.mk.inj hX1).1
  refine j_aload_n C dL_law_1511 1512 rfl rfl 2 rfl ?_
  refine j_aload_n C dL_law_1512 1513 rfl rfl 0 rfl ?_
  refine j_iload_n C dL_law_1513 1514 rfl rfl 3 rfl ?_
  refine j_iconst (v := 1) C dL_law_1514 1515 rfl (by decide) ?_
  refine j_iadd C dL_law_1515 1516 rfl ?_
  refine j_sld C X dL_law_1516 1517 rfl (sl_in hi (by decide) (by decide)) h1 ?_
  refine j_aload_n C dL_law_1517 1518 rfl rfl 0 rfl ?_
  refine j_iload_n C dL_law_1518 1519 rfl rfl 3 rfl ?_
  refine j_iconst (v := 2) C dL_law_1519 1520 rfl (by decide) ?_
  refine j_iadd C dL_law_1520 1521 rfl ?_
  refine j_sld C X dL_law_1521 1522 rfl (sl_in hi (by decide) (by decide)) h2 ?_
  refine j_cvIp (na := 2) C dL_law_1522 1525 rfl (c_X6_taken τ b ss mhd mas mbf isv mtp tz mtk mfr mtt mvl miw mld mrw rc mso msz mnu mhw mhh mhm mbo bg mak man maa mip v1 v2 (rt_ok R)) gL_law_X6_taken rfl rfl rfl qd_X6_taken rfl ⟨by decide, by decide⟩ ⟨by decide, by decide⟩ rfl (Nat.le_of_ble_eq_true rfl) ((wX τ a rws isv rc) ++ (wT τ (fun j => a (10 + j)) nlw nkd nbt nph ncn nno nct nsc nrn nlg ndn nzz) ++ (wT τ (fun j => a (20 + j)) tlw tkd tbt tph tcn tno tct tsc trn tlg tdn tzz) ++ (wT τ (fun j => a (30 + j)) slw skd sbt sph scn sno sct ssc srn slg sdn szz) ++ (wP τ (fun j => a (40 + j)) bs tz so fr tt ft) ++ (wA τ (fun j => a (50 + j)) bo bg ak an aa ip) ++ (wSS τ a sit ssr ssi) ++ (wHH τ a shw shn shs shz)) 41 15 rfl rfl (fun _ => rfl) (by decide +kernel) (by decide +kernel) (by decide +kernel) (List.Perm.refl _) 6 0 rfl rfl (fun _ => ((wX τ a rws isv rc) ++ (wT τ (fun j => a (10 + j)) nlw nkd nbt nph ncn nno nct nsc nrn nlg ndn nzz) ++ (wT τ (fun j => a (20 + j)) tlw tkd tbt tph tcn tno tct tsc trn tlg tdn tzz) ++ (wT τ (fun j => a (30 + j)) slw skd sbt sph scn sno sct ssc srn slg sdn szz) ++ (wP τ (fun j => a (40 + j)) bs tz so fr tt ft) ++ (wA τ (fun j => a (50 + j)) bo bg ak an aa ip) ++ (wSS τ a sit ssr ssi) ++ (wHH τ a shw shn shs shz) ++ (wM τ b ss mhd mas mbf isv mtp tz mtk mfr mtt mvl miw mld mrw rc mso msz mnu mhw mhh mhm mbo bg mak man maa mip))) (fun _ => List.Perm.refl _) (fun r2 u2 hX2 hn2 => ?_)
  obtain rfl := (Prod.mk.inj hX2).1
  have E := e_taken  R hH v1 v2
  refine j_icmp_eq C dL_law_1525 1645 rfl 1528 rfl (fun _ => ?_) (fun c => absurd E c)
  exact nx _ _ _ _ _ _ _ _ _ _ _ _ _ _ _ _ _ _ _ _ _ _ _ _ _ _ _ _ _ _ _ _ _ _ _ _ _ _ _ _ _ _ _ _ _ _ _ _ _ _ _ _ _ _ _ _ _ _ _ _ _ _ _ _ _ _ _ _ _ _ _ _ _ _ _ _ _ _ _ _ _ ⟨R, hV, ⟨hrc, hrw⟩, hT, hB, hS, hH⟩
