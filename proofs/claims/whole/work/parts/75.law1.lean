/-! the law's calls, 1 -/
set_option maxHeartbeats 4000000 in
set_option maxRecDepth 100000 in
theorem Lw_feed {τ : SX} {κ : KX} {a b : Nat → Nat} {sb L : Nat} {xs : Nat → Int32} {i : Int32} (C : Cx τ κ cL_law RL wsL_law room_1 4) (X : SB κ sb L xs) (hi : 0 ≤ i.toInt ∧ i.toInt + 5 ≤ L ∧ L ≤ 2560) {v1 v2 v3 v4 : Int32} (h1 : xs (i + 1).toNatClampNeg = v1) (h2 : xs (i + 2).toNatClampNeg = v2) (h3 : xs (i + 3).toNatClampNeg = v3) (h4 : xs (i + 4).toNatClampNeg = v4) (nx : NX τ κ a b sb i) (rws : Nat → Int32) (isv rc : Int32) (nlw nkd nbt nph ncn nno : Nat → Int32) (nct nsc nrn nlg ndn nzz : Int32) (tlw tkd tbt tph tcn tno : Nat → Int32) (tct tsc trn tlg tdn tzz : Int32) (slw skd sbt sph scn sno : Nat → Int32) (sct ssc srn slg sdn szz : Int32) (bs : Nat → Int32) (tz so fr tt ft : Int32) (bo : Nat → Int32) (bg ak an aa ip : Int32) (sit : Nat → Nat → Int64) (ssr ssi shw shn shs shz ss mhd mas mbf mtp : Nat → Int32) (mtk mfr mtt mvl miw : Int32) (mld mrw mso msz mnu mhw mhh mhm mbo : Nat → Int32) (mak man maa mip : Int32) (hI : INV rws isv rc nlw nkd nbt nph ncn nno nct nsc nrn nlg ndn nzz slw skd sbt sph scn sno sct ssc srn slg sdn szz bs tz bo bg sit ssr ssi shw shn shs shz ss mhd mtp mrw mso msz mnu mhw mhh mhm mbo) : J τ κ 56 1325 (LWs τ a b rws isv rc nlw nkd nbt nph ncn nno nct nsc nrn nlg ndn nzz tlw tkd tbt tph tcn tno tct tsc trn tlg tdn tzz slw skd sbt sph scn sno sct ssc srn slg sdn szz bs tz so fr tt ft bo bg ak an aa ip sit ssr ssi shw shn shs shz ss mhd mas mbf mtp mtk mfr mtt mvl miw mld mrw mso msz mnu mhw mhh mhm mbo mak man maa mip) (LVs sb a b i) 228 [] := by
  obtain ⟨R, hV, ⟨hrc, hrw⟩, hT, hB, hS, hH⟩ := hI
  refine j_aload_n C dL_law_228 229 rfl rfl 1 rfl ?_
  refine j_aload_n C dL_law_229 230 rfl rfl 0 rfl ?_
  refine j_iload_n C dL_law_230 231 rfl rfl 3 rfl ?_
  refine j_iconst (v := 1) C dL_law_231 232 rfl (by decide) ?_
  refine j_iadd C dL_law_232 233 rfl ?_
  refine j_sld C X dL_law_233 234 rfl (sl_in hi (by decide) (by decide)) h1 ?_
  refine j_i2l C dL_law_234 235 rfl ?_
  refine j_bipush (v := 32) C dL_law_235 237 rfl (by decide) ?_
  refine j_lshl C dL_law_237 238 rfl ?_
  refine j_aload_n C dL_law_238 239 rfl rfl 0 rfl ?_
  refine j_iload_n C dL_law_239 240 rfl rfl 3 rfl ?_
  refine j_iconst (v := 2) C dL_law_240 241 rfl (by decide) ?_
  refine j_iadd C dL_law_241 242 rfl ?_
  refine j_sld C X dL_law_242 243 rfl (sl_in hi (by decide) (by decide)) h2 ?_
  refine j_i2l C dL_law_243 244 rfl ?_
  refine j_ldc2 (v := 4294967295) C dL_law_244 247 rfl kL_law_13 ?_
  refine j_land C dL_law_247 248 rfl ?_
  refine j_lor C dL_law_248 249 rfl ?_
  refine j_aload_n C dL_law_249 250 rfl rfl 0 rfl ?_
  refine j_iload_n C dL_law_250 251 rfl rfl 3 rfl ?_
  refine j_iconst (v := 3) C dL_law_251 252 rfl (by decide) ?_
  refine j_iadd C dL_law_252 253 rfl ?_
  refine j_sld C X dL_law_253 254 rfl (sl_in hi (by decide) (by decide)) h3 ?_
  refine j_cvIp (na := 2) C dL_law_254 257 rfl (c_X5_feed τ a rws isv rc bs tz so fr tt ft ((v1.toInt64 <<< (((32 : Int32)).toInt64 &&& 63)) ||| (v2.toInt64 &&& 4294967295)) v3 hrc.1 hrc.2 hT.1.1 hT.1.2) gL_law_X5_feed rfl rfl rfl qd_X5_feed rfl ⟨by decide, by decide⟩ ⟨by decide, by decide⟩ rfl (Nat.le_of_ble_eq_true rfl) ((wT τ (fun j => a (10 + j)) nlw nkd nbt nph ncn nno nct nsc nrn nlg ndn nzz) ++ (wT τ (fun j => a (20 + j)) tlw tkd tbt tph tcn tno tct tsc trn tlg tdn tzz) ++ (wT τ (fun j => a (30 + j)) slw skd sbt sph scn sno sct ssc srn slg sdn szz) ++ (wA τ (fun j => a (50 + j)) bo bg ak an aa ip) ++ (wSS τ a sit ssr ssi) ++ (wHH τ a shw shn shs shz) ++ (wM τ b ss mhd mas mbf isv mtp tz mtk mfr mtt mvl miw mld mrw rc mso msz mnu mhw mhh mhm mbo bg mak man maa mip)) 50 6 rfl rfl (fun _ => rfl) (by decide +kernel) (by decide +kernel) (by decide +kernel) (pm_0_4 _ _ _ _ _ _ _ _ _) 5 0 rfl rfl (fun u => ((wX τ a rws isv rc) ++ (wT τ (fun j => a (10 + j)) nlw nkd nbt nph ncn nno nct nsc nrn nlg ndn nzz) ++ (wT τ (fun j => a (20 + j)) tlw tkd tbt tph tcn tno tct tsc trn tlg tdn tzz) ++ (wT τ (fun j => a (30 + j)) slw skd sbt sph scn sno sct ssc srn slg sdn szz) ++ (wP τ (fun j => a (40 + j)) u.1 u.2 so fr tt ft) ++ (wA τ (fun j => a (50 + j)) bo bg ak an aa ip) ++ (wSS τ a sit ssr ssi) ++ (wHH τ a shw shn shs shz) ++ (wM τ b ss mhd mas mbf isv mtp tz mtk mfr mtt mvl miw mld mrw rc mso msz mnu mhw mhh mhm mbo bg mak man maa mip))) (fun _ => pm_0_4 _ _ _ _ _ _ _ _ _) (fun r1 u1 hX1 hn1 => ?_)
  obtain ⟨bs_1, tz_1⟩ := u1
  refine j_aload_n C dL_law_257 258 rfl rfl 2 rfl ?_
  refine j_aload_n C dL_law_258 259 rfl rfl 0 rfl ?_
  refine j_iload_n C dL_law_259 260 rfl rfl 3 rfl ?_
  refine j_iconst (v := 1) C dL_law_260 261 rfl (by decide) ?_
  refine j_iadd C dL_law_261 262 rfl ?_
  refine j_sld C X dL_law_262 263 rfl (sl_in hi (by decide) (by decide)) h1 ?_
  refine j_i2l C dL_law_263 264 rfl ?_
  refine j_bipush (v := 32) C dL_law_264 266 rfl (by decide) ?_
  refine j_lshl C dL_law_266 267 rfl ?_
  refine j_aload_n C dL_law_267 268 rfl rfl 0 rfl ?_
  refine j_iload_n C dL_law_268 269 rfl rfl 3 rfl ?_
  refine j_iconst (v := 2) C dL_law_269 270 rfl (by decide) ?_
  refine j_iadd C dL_law_270 271 rfl ?_
  refine j_sld C X dL_law_271 272 rfl (sl_in hi (by decide) (by decide)) h2 ?_
  refine j_i2l C dL_law_272 273 rfl ?_
  refine j_ldc2 (v := 4294967295) C dL_law_273 276 rfl kL_law_13 ?_
  refine j_land C dL_law_276 277 rfl ?_
  refine j_lor C dL_law_277 278 rfl ?_
  refine j_aload_n C dL_law_278 279 rfl rfl 0 rfl ?_
  refine j_iload_n C dL_law_279 280 rfl rfl 3 rfl ?_
  refine j_iconst (v := 3) C dL_law_280 281 rfl (by decide) ?_
  refine j_iadd C dL_law_281 282 rfl ?_
  refine j_sld C X dL_law_282 283 rfl (sl_in hi (by decide) (by decide)) h3 ?_
  refine j_cvIp (na := 2) C dL_law_283 286 rfl (c_X6_feed τ b ss mhd mas mbf isv mtp tz mtk mfr mtt mvl miw mld mrw rc mso msz mnu mhw mhh mhm mbo bg mak man maa mip ((v1.toInt64 <<< (((32 : Int32)).toInt64 &&& 63)) ||| (v2.toInt64 &&& 4294967295)) v3 hT.1) gL_law_X6_feed rfl rfl rfl qd_X6_feed rfl ⟨by decide, by decide⟩ ⟨by decide, by decide⟩ rfl (Nat.le_of_ble_eq_true rfl) ((wX τ a rws isv rc) ++ (wT τ (fun j => a (10 + j)) nlw nkd nbt nph ncn nno nct nsc nrn nlg ndn nzz) ++ (wT τ (fun j => a (20 + j)) tlw tkd tbt tph tcn tno tct tsc trn tlg tdn tzz) ++ (wT τ (fun j => a (30 + j)) slw skd sbt sph scn sno sct ssc srn slg sdn szz) ++ (wP τ (fun j => a (40 + j)) bs_1 tz_1 so fr tt ft) ++ (wA τ (fun j => a (50 + j)) bo bg ak an aa ip) ++ (wSS τ a sit ssr ssi) ++ (wHH τ a shw shn shs shz)) 41 15 rfl rfl (fun _ => rfl) (by decide +kernel) (by decide +kernel) (by decide +kernel) (List.Perm.refl _) 6 0 rfl rfl (fun u => ((wX τ a rws isv rc) ++ (wT τ (fun j => a (10 + j)) nlw nkd nbt nph ncn nno nct nsc nrn nlg ndn nzz) ++ (wT τ (fun j => a (20 + j)) tlw tkd tbt tph tcn tno tct tsc trn tlg tdn tzz) ++ (wT τ (fun j => a (30 + j)) slw skd sbt sph scn sno sct ssc srn slg sdn szz) ++ (wP τ (fun j => a (40 + j)) bs_1 tz_1 so fr tt ft) ++ (wA τ (fun j => a (50 + j)) bo bg ak an aa ip) ++ (wSS τ a sit ssr ssi) ++ (wHH τ a shw shn shs shz) ++ (wM τ b ss mhd mas mbf isv u.1 u.2 mtk mfr mtt mvl miw mld mrw rc mso msz mnu mhw mhh mhm mbo bg mak man maa mip))) (fun _ => List.Perm.refl _) (fun r2 u2 hX2 hn2 => ?_)
  obtain ⟨mtp_2, mtn_2⟩ := u2
  have E := e_feed  hT ((v1.toInt64 <<< ((32 : Int32).toInt64 &&& 63)) ||| (v2.toInt64 &&& 4294967295)) v3
  rw [hX1, hX2] at E
  obtain ⟨E1, E2, E3⟩ := E
  have E2 : tz_1 = mtn_2 := E2
  subst E2
  refine j_icmp_eq C dL_law_286 1645 rfl 289 rfl (fun _ => ?_) (fun c => absurd E1 c)
  exact nx _ _ _ _ _ _ _ _ _ _ _ _ _ _ _ _ _ _ _ _ _ _ _ _ _ _ _ _ _ _ _ _ _ _ _ _ _ _ _ _ _ _ _ _ _ _ _ _ _ _ _ _ _ _ _ _ _ _ _ _ _ _ _ _ _ _ _ _ _ _ _ _ _ _ _ _ _ _ _ _ _ ⟨R, hV, ⟨hrc, hrw⟩, E3, hB, hS, hH⟩
set_option maxHeartbeats 4000000 in
set_option maxRecDepth 100000 in
theorem Lw_town {τ : SX} {κ : KX} {a b : Nat → Nat} {sb L : Nat} {xs : Nat → Int32} {i : Int32} (C : Cx τ κ cL_law RL wsL_law room_1 4) (X : SB κ sb L xs) (hi : 0 ≤ i.toInt ∧ i.toInt + 5 ≤ L ∧ L ≤ 2560) {v1 v2 v3 v4 : Int32} (h1 : xs (i + 1).toNatClampNeg = v1) (h2 : xs (i + 2).toNatClampNeg = v2) (h3 : xs (i + 3).toNatClampNeg = v3) (h4 : xs (i + 4).toNatClampNeg = v4) (nx : NX τ κ a b sb i) (rws : Nat → Int32) (isv rc : Int32) (nlw nkd nbt nph ncn nno : Nat → Int32) (nct nsc nrn nlg ndn nzz : Int32) (tlw tkd tbt tph tcn tno : Nat → Int32) (tct tsc trn tlg tdn tzz : Int32) (slw skd sbt sph scn sno : Nat → Int32) (sct ssc srn slg sdn szz : Int32) (bs : Nat → Int32) (tz so fr tt ft : Int32) (bo : Nat → Int32) (bg ak an aa ip : Int32) (sit : Nat → Nat → Int64) (ssr ssi shw shn shs shz ss mhd mas mbf mtp : Nat → Int32) (mtk mfr mtt mvl miw : Int32) (mld mrw mso msz mnu mhw mhh mhm mbo : Nat → Int32) (mak man maa mip : Int32) (hI : INV rws isv rc nlw nkd nbt nph ncn nno nct nsc nrn nlg ndn nzz slw skd sbt sph scn sno sct ssc srn slg sdn szz bs tz bo bg sit ssr ssi shw shn shs shz ss mhd mtp mrw mso msz mnu mhw mhh mhm mbo) : J τ κ 56 1325 (LWs τ a b rws isv rc nlw nkd nbt nph ncn nno nct nsc nrn nlg ndn nzz tlw tkd tbt tph tcn tno tct tsc trn tlg tdn tzz slw skd sbt sph scn sno sct ssc srn slg sdn szz bs tz so fr tt ft bo bg ak an aa ip sit ssr ssi shw shn shs shz ss mhd mas mbf mtp mtk mfr mtt mvl miw mld mrw mso msz mnu mhw mhh mhm mbo mak man maa mip) (LVs sb a b i) 291 [] := by
  obtain ⟨R, hV, ⟨hrc, hrw⟩, hT, hB, hS, hH⟩ := hI
  refine j_aload_n C dL_law_291 292 rfl rfl 1 rfl ?_
  refine j_cvIp (na := 0) C dL_law_292 295 rfl (c_X5_town τ a rws isv rc nlw nkd nbt nph ncn nno nct nsc nrn nlg ndn nzz tlw tkd tbt tph tcn tno tct tsc trn tlg tdn tzz bs tz so fr tt ft hrc.1 hrc.2 R.2.2.1.1 R.2.2.1.2 hT.1.1 hT.1.2) gL_law_X5_town rfl rfl rfl qd_X5_town rfl ⟨by decide, by decide⟩ ⟨by decide, by decide⟩ rfl (Nat.le_of_ble_eq_true rfl) ((wT τ (fun j => a (30 + j)) slw skd sbt sph scn sno sct ssc srn slg sdn szz) ++ (wA τ (fun j => a (50 + j)) bo bg ak an aa ip) ++ (wSS τ a sit ssr ssi) ++ (wHH τ a shw shn shs shz) ++ (wM τ b ss mhd mas mbf isv mtp tz mtk mfr mtt mvl miw mld mrw rc mso msz mnu mhw mhh mhm mbo bg mak man maa mip)) 36 20 rfl rfl (fun _ => rfl) (by decide +kernel) (by decide +kernel) (by decide +kernel) (pm_0_1_2_4 _ _ _ _ _ _ _ _ _) 5 0 rfl rfl (fun u => ((wX τ a rws isv u.1) ++ (wT τ (fun j => a (10 + j)) u.2.1 u.2.2.1 u.2.2.2.1 u.2.2.2.2.1 u.2.2.2.2.2.1 u.2.2.2.2.2.2.1 u.2.2.2.2.2.2.2.1 u.2.2.2.2.2.2.2.2.1 u.2.2.2.2.2.2.2.2.2.1 u.2.2.2.2.2.2.2.2.2.2.1 u.2.2.2.2.2.2.2.2.2.2.2.1 nzz) ++ (wT τ (fun j => a (20 + j)) u.2.2.2.2.2.2.2.2.2.2.2.2.1 u.2.2.2.2.2.2.2.2.2.2.2.2.2.1 u.2.2.2.2.2.2.2.2.2.2.2.2.2.2.1 u.2.2.2.2.2.2.2.2.2.2.2.2.2.2.2.1 u.2.2.2.2.2.2.2.2.2.2.2.2.2.2.2.2.1 u.2.2.2.2.2.2.2.2.2.2.2.2.2.2.2.2.2.1 u.2.2.2.2.2.2.2.2.2.2.2.2.2.2.2.2.2.2.1 u.2.2.2.2.2.2.2.2.2.2.2.2.2.2.2.2.2.2.2.1 u.2.2.2.2.2.2.2.2.2.2.2.2.2.2.2.2.2.2.2.2.1 u.2.2.2.2.2.2.2.2.2.2.2.2.2.2.2.2.2.2.2.2.2.1 u.2.2.2.2.2.2.2.2.2.2.2.2.2.2.2.2.2.2.2.2.2.2.1 u.2.2.2.2.2.2.2.2.2.2.2.2.2.2.2.2.2.2.2.2.2.2.2.1) ++ (wT τ (fun j => a (30 + j)) slw skd sbt sph scn sno sct ssc srn slg sdn szz) ++ (wP τ (fun j => a (40 + j)) bs u.2.2.2.2.2.2.2.2.2.2.2.2.2.2.2.2.2.2.2.2.2.2.2.2.1 u.2.2.2.2.2.2.2.2.2.2.2.2.2.2.2.2.2.2.2.2.2.2.2.2.2.1 u.2.2.2.2.2.2.2.2.2.2.2.2.2.2.2.2.2.2.2.2.2.2.2.2.2.2.1 u.2.2.2.2.2.2.2.2.2.2.2.2.2.2.2.2.2.2.2.2.2.2.2.2.2.2.2.1 u.2.2.2.2.2.2.2.2.2.2.2.2.2.2.2.2.2.2.2.2.2.2.2.2.2.2.2.2) ++ (wA τ (fun j => a (50 + j)) bo bg ak an aa ip) ++ (wSS τ a sit ssr ssi) ++ (wHH τ a shw shn shs shz) ++ (wM τ b ss mhd mas mbf isv mtp tz mtk mfr mtt mvl miw mld mrw rc mso msz mnu mhw mhh mhm mbo bg mak man maa mip))) (fun _ => pm_0_1_2_4 _ _ _ _ _ _ _ _ _) (fun r1 u1 hX1 hn1 => ?_)
  obtain ⟨rc_1, nlw_1, nkd_1, nbt_1, nph_1, ncn_1, nno_1, nct_1, nsc_1, nrn_1, nlg_1, ndn_1, tlw_1, tkd_1, tbt_1, tph_1, tcn_1, tno_1, tct_1, tsc_1, trn_1, tlg_1, tdn_1, tzz_1, tz_1, so_1, fr_1, tt_1, ft_1⟩ := u1
  refine j_aload_n C dL_law_295 296 rfl rfl 2 rfl ?_
  refine j_cvIp (na := 0) C dL_law_296 299 rfl (c_X6_town τ b ss mhd mas mbf isv mtp tz mtk mfr mtt mvl miw mld mrw rc mso msz mnu mhw mhh mhm mbo bg mak man maa mip hT.1 (rt_ok R)) gL_law_X6_town rfl rfl rfl qd_X6_town rfl ⟨by decide, by decide⟩ ⟨by decide, by decide⟩ rfl (Nat.le_of_ble_eq_true rfl) ((wX τ a rws isv rc_1) ++ (wT τ (fun j => a (10 + j)) nlw_1 nkd_1 nbt_1 nph_1 ncn_1 nno_1 nct_1 nsc_1 nrn_1 nlg_1 ndn_1 nzz) ++ (wT τ (fun j => a (20 + j)) tlw_1 tkd_1 tbt_1 tph_1 tcn_1 tno_1 tct_1 tsc_1 trn_1 tlg_1 tdn_1 tzz_1) ++ (wT τ (fun j => a (30 + j)) slw skd sbt sph scn sno sct ssc srn slg sdn szz) ++ (wP τ (fun j => a (40 + j)) bs tz_1 so_1 fr_1 tt_1 ft_1) ++ (wA τ (fun j => a (50 + j)) bo bg ak an aa ip) ++ (wSS τ a sit ssr ssi) ++ (wHH τ a shw shn shs shz)) 41 15 rfl rfl (fun _ => rfl) (by decide +kernel) (by decide +kernel) (by decide +kernel) (List.Perm.refl _) 6 0 rfl rfl (fun u => ((wX τ a rws isv rc_1) ++ (wT τ (fun j => a (10 + j)) nlw_1 nkd_1 nbt_1 nph_1 ncn_1 nno_1 nct_1 nsc_1 nrn_1 nlg_1 ndn_1 nzz) ++ (wT τ (fun j => a (20 + j)) tlw_1 tkd_1 tbt_1 tph_1 tcn_1 tno_1 tct_1 tsc_1 trn_1 tlg_1 tdn_1 tzz_1) ++ (wT τ (fun j => a (30 + j)) slw skd sbt sph scn sno sct ssc srn slg sdn szz) ++ (wP τ (fun j => a (40 + j)) bs tz_1 so_1 fr_1 tt_1 ft_1) ++ (wA τ (fun j => a (50 + j)) bo bg ak an aa ip) ++ (wSS τ a sit ssr ssi) ++ (wHH τ a shw shn shs shz) ++ (wM τ b u.1 mhd mas u.2.1 isv mtp u.2.2.1 u.2.2.2.1 u.2.2.2.2.1 u.2.2.2.2.2.1 u.2.2.2.2.2.2.1 u.2.2.2.2.2.2.2.1 mld mrw u.2.2.2.2.2.2.2.2 mso msz mnu mhw mhh mhm mbo bg mak man maa mip))) (fun _ => List.Perm.refl _) (fun r2 u2 hX2 hn2 => ?_)
  obtain ⟨ss_2, mbf_2, mtn_2, mtk_2, mfr_2, mtt_2, mvl_2, miw_2, mrn_2⟩ := u2
  have E := e_town (mbf := mbf) (tlw := tlw) (tkd := tkd) (tbt := tbt) (tph := tph) (tcn := tcn) (tno := tno) (rc := rc) R hT rfl
  rw [hX1, hX2] at E
  obtain ⟨E1, ⟨E2, E3⟩, ⟨E4, E5⟩, E6⟩ := E
  have E2 : rc_1 = mrn_2 := E2
  have E4 : tz_1 = 0 := E4
  have E5 : mtn_2 = 0 := E5
  have E3 : rc_1 = rc ∨ rc_1 = 0 := E3
  subst E2
  subst E4
  subst E5
  refine j_icmp_eq C dL_law_299 1645 rfl 302 rfl (fun _ => ?_) (fun c => absurd E1 c)
  exact nx _ _ _ _ _ _ _ _ _ _ _ _ _ _ _ _ _ _ _ _ _ _ _ _ _ _ _ _ _ _ _ _ _ _ _ _ _ _ _ _ _ _ _ _ _ _ _ _ _ _ _ _ _ _ _ _ _ _ _ _ _ _ _ _ _ _ _ _ _ _ _ _ _ _ _ _ _ _ _ _ _ ⟨E6, hV, (rows_z E3 hrc hrw), ⟨⟨by decide, by decide⟩, fun k hk => absurd hk (by rw [z0I]; omega)⟩, hB, hS, hH⟩
set_option maxHeartbeats 4000000 in
set_option maxRecDepth 100000 in
theorem Lw_set {τ : SX} {κ : KX} {a b : Nat → Nat} {sb L : Nat} {xs : Nat → Int32} {i : Int32} (C : Cx τ κ cL_law RL wsL_law room_1 4) (X : SB κ sb L xs) (hi : 0 ≤ i.toInt ∧ i.toInt + 5 ≤ L ∧ L ≤ 2560) {v1 v2 v3 v4 : Int32} (h1 : xs (i + 1).toNatClampNeg = v1) (h2 : xs (i + 2).toNatClampNeg = v2) (h3 : xs (i + 3).toNatClampNeg = v3) (h4 : xs (i + 4).toNatClampNeg = v4) (nx : NX τ κ a b sb i) (rws : Nat → Int32) (isv rc : Int32) (nlw nkd nbt nph ncn nno : Nat → Int32) (nct nsc nrn nlg ndn nzz : Int32) (tlw tkd tbt tph tcn tno : Nat → Int32) (tct tsc trn tlg tdn tzz : Int32) (slw skd sbt sph scn sno : Nat → Int32) (sct ssc srn slg sdn szz : Int32) (bs : Nat → Int32) (tz so fr tt ft : Int32) (bo : Nat → Int32) (bg ak an aa ip : Int32) (sit : Nat → Nat → Int64) (ssr ssi shw shn shs shz ss mhd mas mbf mtp : Nat → Int32) (mtk mfr mtt mvl miw : Int32) (mld mrw mso msz mnu mhw mhh mhm mbo : Nat → Int32) (mak man maa mip : Int32) (hI : INV rws isv rc nlw nkd nbt nph ncn nno nct nsc nrn nlg ndn nzz slw skd sbt sph scn sno sct ssc srn slg sdn szz bs tz bo bg sit ssr ssi shw shn shs shz ss mhd mtp mrw mso msz mnu mhw mhh mhm mbo) : J τ κ 56 1325 (LWs τ a b rws isv rc nlw nkd nbt nph ncn nno nct nsc nrn nlg ndn nzz tlw tkd tbt tph tcn tno tct tsc trn tlg tdn tzz slw skd sbt sph scn sno sct ssc srn slg sdn szz bs tz so fr tt ft bo bg ak an aa ip sit ssr ssi shw shn shs shz ss mhd mas mbf mtp mtk mfr mtt mvl miw mld mrw mso msz mnu mhw mhh mhm mbo mak man maa mip) (LVs sb a b i) 304 [] := by
  obtain ⟨R, hV, ⟨hrc, hrw⟩, hT, hB, hS, hH⟩ := hI
  refine j_aload_n C dL_law_304 305 rfl rfl 1 rfl ?_
  refine j_aload_n C dL_law_305 306 rfl rfl 0 rfl ?_
  refine j_iload_n C dL_law_306 307 rfl rfl 3 rfl ?_
  refine j_iconst (v := 1) C dL_law_307 308 rfl (by decide) ?_
  refine j_iadd C dL_law_308 309 rfl ?_
  refine j_sld C X dL_law_309 310 rfl (sl_in hi (by decide) (by decide)) h1 ?_
  refine j_aload_n C dL_law_310 311 rfl rfl 0 rfl ?_
  refine j_iload_n C dL_law_311 312 rfl rfl 3 rfl ?_
  refine j_iconst (v := 2) C dL_law_312 313 rfl (by decide) ?_
  refine j_iadd C dL_law_313 314 rfl ?_
  refine j_sld C X dL_law_314 315 rfl (sl_in hi (by decide) (by decide)) h2 ?_
  refine j_cvIp (na := 2) C dL_law_315 318 rfl (c_X5_set τ a rws isv rc nlw nkd nbt nph ncn nno nct nsc nrn nlg ndn nzz v1 v2 hrc.1 hrc.2 R.2.2.1.1 R.2.2.1.2) gL_law_X5_set rfl rfl rfl qd_X5_set rfl ⟨by decide, by decide⟩ ⟨by decide, by decide⟩ rfl (Nat.le_of_ble_eq_true rfl) ((wT τ (fun j => a (20 + j)) tlw tkd tbt tph tcn tno tct tsc trn tlg tdn tzz) ++ (wT τ (fun j => a (30 + j)) slw skd sbt sph scn sno sct ssc srn slg sdn szz) ++ (wP τ (fun j => a (40 + j)) bs tz so fr tt ft) ++ (wA τ (fun j => a (50 + j)) bo bg ak an aa ip) ++ (wSS τ a sit ssr ssi) ++ (wHH τ a shw shn shs shz) ++ (wM τ b ss mhd mas mbf isv mtp tz mtk mfr mtt mvl miw mld mrw rc mso msz mnu mhw mhh mhm mbo bg mak man maa mip)) 45 11 rfl rfl (fun _ => rfl) (by decide +kernel) (by decide +kernel) (by decide +kernel) (pm_0_1 _ _ _ _ _ _ _ _ _) 5 0 rfl rfl (fun u => ((wX τ a rws isv rc) ++ (wT τ (fun j => a (10 + j)) u nkd nbt nph ncn nno nct nsc nrn nlg ndn nzz) ++ (wT τ (fun j => a (20 + j)) tlw tkd tbt tph tcn tno tct tsc trn tlg tdn tzz) ++ (wT τ (fun j => a (30 + j)) slw skd sbt sph scn sno sct ssc srn slg sdn szz) ++ (wP τ (fun j => a (40 + j)) bs tz so fr tt ft) ++ (wA τ (fun j => a (50 + j)) bo bg ak an aa ip) ++ (wSS τ a sit ssr ssi) ++ (wHH τ a shw shn shs shz) ++ (wM τ b ss mhd mas mbf isv mtp tz mtk mfr mtt mvl miw mld mrw rc mso msz mnu mhw mhh mhm mbo bg mak man maa mip))) (fun _ => pm_0_1 _ _ _ _ _ _ _ _ _) (fun r1 u1 hX1 hn1 => ?_)
  refine j_aload_n C dL_law_318 319 rfl rfl 2 rfl ?_
  refine j_aload_n C dL_law_319 320 rfl rfl 0 rfl ?_
  refine j_iload_n C dL_law_320 321 rfl rfl 3 rfl ?_
  refine j_iconst (v := 1) C dL_law_321 322 rfl (by decide) ?_
  refine j_iadd C dL_law_322 323 rfl ?_
  refine j_sld C X dL_law_323 324 rfl (sl_in hi (by decide) (by decide)) h1 ?_
  refine j_aload_n C dL_law_324 325 rfl rfl 0 rfl ?_
  refine j_iload_n C dL_law_325 326 rfl rfl 3 rfl ?_
  refine j_iconst (v := 2) C dL_law_326 327 rfl (by decide) ?_
  refine j_iadd C dL_law_327 328 rfl ?_
  refine j_sld C X dL_law_328 329 rfl (sl_in hi (by decide) (by decide)) h2 ?_
  refine j_cvIp (na := 2) C dL_law_329 332 rfl (c_X6_set τ b ss mhd mas mbf isv mtp tz mtk mfr mtt mvl miw mld mrw rc mso msz mnu mhw mhh mhm mbo bg mak man maa mip v1 v2 (rt_ok R)) gL_law_X6_set rfl rfl rfl qd_X6_set rfl ⟨by decide, by decide⟩ ⟨by decide, by decide⟩ rfl (Nat.le_of_ble_eq_true rfl) ((wX τ a rws isv rc) ++ (wT τ (fun j => a (10 + j)) u1 nkd nbt nph ncn nno nct nsc nrn nlg ndn nzz) ++ (wT τ (fun j => a (20 + j)) tlw tkd tbt tph tcn tno tct tsc trn tlg tdn tzz) ++ (wT τ (fun j => a (30 + j)) slw skd sbt sph scn sno sct ssc srn slg sdn szz) ++ (wP τ (fun j => a (40 + j)) bs tz so fr tt ft) ++ (wA τ (fun j => a (50 + j)) bo bg ak an aa ip) ++ (wSS τ a sit ssr ssi) ++ (wHH τ a shw shn shs shz)) 41 15 rfl rfl (fun _ => rfl) (by decide +kernel) (by decide +kernel) (by decide +kernel) (List.Perm.refl _) 6 0 rfl rfl (fun u => ((wX τ a rws isv rc) ++ (wT τ (fun j => a (10 + j)) u1 nkd nbt nph ncn nno nct nsc nrn nlg ndn nzz) ++ (wT τ (fun j => a (20 + j)) tlw tkd tbt tph tcn tno tct tsc trn tlg tdn tzz) ++ (wT τ (fun j => a (30 + j)) slw skd sbt sph scn sno sct ssc srn slg sdn szz) ++ (wP τ (fun j => a (40 + j)) bs tz so fr tt ft) ++ (wA τ (fun j => a (50 + j)) bo bg ak an aa ip) ++ (wSS τ a sit ssr ssi) ++ (wHH τ a shw shn shs shz) ++ (wM τ b u mhd mas mbf isv mtp tz mtk mfr mtt mvl miw mld mrw rc mso msz mnu mhw mhh mhm mbo bg mak man maa mip))) (fun _ => List.Perm.refl _) (fun r2 u2 hX2 hn2 => ?_)
  have E := e_set  R v1 v2
  rw [hX1, hX2] at E
  refine j_icmp_eq C dL_law_332 1645 rfl 335 rfl (fun _ => ?_) (fun c => absurd E.1 c)
  exact nx _ _ _ _ _ _ _ _ _ _ _ _ _ _ _ _ _ _ _ _ _ _ _ _ _ _ _ _ _ _ _ _ _ _ _ _ _ _ _ _ _ _ _ _ _ _ _ _ _ _ _ _ _ _ _ _ _ _ _ _ _ _ _ _ _ _ _ _ _ _ _ _ _ _ _ _ _ _ _ _ _ ⟨E.2, hV, ⟨hrc, hrw⟩, hT, hB, hS, hH⟩
set_option maxHeartbeats 4000000 in
set_option maxRecDepth 100000 in
theorem Lw_lawOf {τ : SX} {κ : KX} {a b : Nat → Nat} {sb L : Nat} {xs : Nat → Int32} {i : Int32} (C : Cx τ κ cL_law RL wsL_law room_1 4) (X : SB κ sb L xs) (hi : 0 ≤ i.toInt ∧ i.toInt + 5 ≤ L ∧ L ≤ 2560) {v1 v2 v3 v4 : Int32} (h1 : xs (i + 1).toNatClampNeg = v1) (h2 : xs (i + 2).toNatClampNeg = v2) (h3 : xs (i + 3).toNatClampNeg = v3) (h4 : xs (i + 4).toNatClampNeg = v4) (nx : NX τ κ a b sb i) (rws : Nat → Int32) (isv rc : Int32) (nlw nkd nbt nph ncn nno : Nat → Int32) (nct nsc nrn nlg ndn nzz : Int32) (tlw tkd tbt tph tcn tno : Nat → Int32) (tct tsc trn tlg tdn tzz : Int32) (slw skd sbt sph scn sno : Nat → Int32) (sct ssc srn slg sdn szz : Int32) (bs : Nat → Int32) (tz so fr tt ft : Int32) (bo : Nat → Int32) (bg ak an aa ip : Int32) (sit : Nat → Nat → Int64) (ssr ssi shw shn shs shz ss mhd mas mbf mtp : Nat → Int32) (mtk mfr mtt mvl miw : Int32) (mld mrw mso msz mnu mhw mhh mhm mbo : Nat → Int32) (mak man maa mip : Int32) (hI : INV rws isv rc nlw nkd nbt nph ncn nno nct nsc nrn nlg ndn nzz slw skd sbt sph scn sno sct ssc srn slg sdn szz bs tz bo bg sit ssr ssi shw shn shs shz ss mhd mtp mrw mso msz mnu mhw mhh mhm mbo) : J τ κ 56 1325 (LWs τ a b rws isv rc nlw nkd nbt nph ncn nno nct nsc nrn nlg ndn nzz tlw tkd tbt tph tcn tno tct tsc trn tlg tdn tzz slw skd sbt sph scn sno sct ssc srn slg sdn szz bs tz so fr tt ft bo bg ak an aa ip sit ssr ssi shw shn shs shz ss mhd mas mbf mtp mtk mfr mtt mvl miw mld mrw mso msz mnu mhw mhh mhm mbo mak man maa mip) (LVs sb a b i) 337 [] := by
  obtain ⟨R, hV, ⟨hrc, hrw⟩, hT, hB, hS, hH⟩ := hI
  refine j_aload_n C dL_law_337 338 rfl rfl 1 rfl ?_
  refine j_aload_n C dL_law_338 339 rfl rfl 0 rfl ?_
  refine j_iload_n C dL_law_339 340 rfl rfl 3 rfl ?_
  refine j_iconst (v := 1) C dL_law_340 341 rfl (by decide) ?_
  refine j_iadd C dL_law_341 342 rfl ?_
  refine j_sld C X dL_law_342 343 rfl (sl_in hi (by decide) (by decide)) h1 ?_
  refine j_cvIp (na := 1) C dL_law_343 346 rfl (c_X5_lawOf τ a rws isv rc nlw nkd nbt nph ncn nno nct nsc nrn nlg ndn nzz v1 hrc.1 hrc.2 R.2.2.1.1 R.2.2.1.2) gL_law_X5_lawOf rfl rfl rfl qd_X5_lawOf rfl ⟨by decide, by decide⟩ ⟨by decide, by decide⟩ rfl (Nat.le_of_ble_eq_true rfl) ((wT τ (fun j => a (20 + j)) tlw tkd tbt tph tcn tno tct tsc trn tlg tdn tzz) ++ (wT τ (fun j => a (30 + j)) slw skd sbt sph scn sno sct ssc srn slg sdn szz) ++ (wP τ (fun j => a (40 + j)) bs tz so fr tt ft) ++ (wA τ (fun j => a (50 + j)) bo bg ak an aa ip) ++ (wSS τ a sit ssr ssi) ++ (wHH τ a shw shn shs shz) ++ (wM τ b ss mhd mas mbf isv mtp tz mtk mfr mtt mvl miw mld mrw rc mso msz mnu mhw mhh mhm mbo bg mak man maa mip)) 45 11 rfl rfl (fun _ => rfl) (by decide +kernel) (by decide +kernel) (by decide +kernel) (pm_0_1 _ _ _ _ _ _ _ _ _) 5 0 rfl rfl (fun _ => ((wX τ a rws isv rc) ++ (wT τ (fun j => a (10 + j)) nlw nkd nbt nph ncn nno nct nsc nrn nlg ndn nzz) ++ (wT τ (fun j => a (20 + j)) tlw tkd tbt tph tcn tno tct tsc trn tlg tdn tzz) ++ (wT τ (fun j => a (30 + j)) slw skd sbt sph scn sno sct ssc srn slg sdn szz) ++ (wP τ (fun j => a (40 + j)) bs tz so fr tt ft) ++ (wA τ (fun j => a (50 + j)) bo bg ak an aa ip) ++ (wSS τ a sit ssr ssi) ++ (wHH τ a shw shn shs shz) ++ (wM τ b ss mhd mas mbf isv mtp tz mtk mfr mtt mvl miw mld mrw rc mso msz mnu mhw mhh mhm mbo bg mak man maa mip))) (fun _ => pm_0_1 _ _ _ _ _ _ _ _ _) (fun r1 u1 hX1 hn1 => ?_)
  obtain rfl := (Prod.mk.inj hX1).1
  refine j_aload_n C dL_law_346 347 rfl rfl 2 rfl ?_
  refine j_aload_n C dL_law_347 348 rfl rfl 0 rfl ?_
  refine j_iload_n C dL_law_348 349 rfl rfl 3 rfl ?_
  refine j_iconst (v := 1) C dL_law_349 350 rfl (by decide) ?_
  refine j_iadd C dL_law_350 351 rfl ?_
  refine j_sld C X dL_law_351 352 rfl (sl_in hi (by decide) (by decide)) h1 ?_
  refine j_cvIp (na := 1) C dL_law_352 355 rfl (c_X6_lawOf τ b ss mhd mas mbf isv mtp tz mtk mfr mtt mvl miw mld mrw rc mso msz mnu mhw mhh mhm mbo bg mak man maa mip v1 ) gL_law_X6_lawOf rfl rfl rfl qd_X6_lawOf rfl ⟨by decide, by decide⟩ ⟨by decide, by decide⟩ rfl (Nat.le_of_ble_eq_true rfl) ((wX τ a rws isv rc) ++ (wT τ (fun j => a (10 + j)) nlw nkd nbt nph ncn nno nct nsc nrn nlg ndn nzz) ++ (wT τ (fun j => a (20 + j)) tlw tkd tbt tph tcn tno tct tsc trn tlg tdn tzz) ++ (wT τ (fun j => a (30 + j)) slw skd sbt sph scn sno sct ssc srn slg sdn szz) ++ (wP τ (fun j => a (40 + j)) bs tz so fr tt ft) ++ (wA τ (fun j => a (50 + j)) bo bg ak an aa ip) ++ (wSS τ a sit ssr ssi) ++ (wHH τ a shw shn shs shz)) 41 15 rfl rfl (fun _ => rfl) (by decide +kernel) (by decide +kernel) (by decide +kernel) (List.Perm.refl _) 6 0 rfl rfl (fun _ => ((wX τ a rws isv rc) ++ (wT τ (fun j => a (10 + j)) nlw nkd nbt nph ncn nno nct nsc nrn nlg ndn nzz) ++ (wT τ (fun j => a (20 + j)) tlw tkd tbt tph tcn tno tct tsc trn tlg tdn tzz) ++ (wT τ (fun j => a (30 + j)) slw skd sbt sph scn sno sct ssc srn slg sdn szz) ++ (wP τ (fun j => a (40 + j)) bs tz so fr tt ft) ++ (wA τ (fun j => a (50 + j)) bo bg ak an aa ip) ++ (wSS τ a sit ssr ssi) ++ (wHH τ a shw shn shs shz) ++ (wM τ b ss mhd mas mbf isv mtp tz mtk mfr mtt mvl miw mld mrw rc mso msz mnu mhw mhh mhm mbo bg mak man maa mip))) (fun _ => List.Perm.refl _) (fun r2 u2 hX2 hn2 => ?_)
  obtain rfl := (Prod.mk.inj hX2).1
  have E := e_lawOf  R v1
  refine j_icmp_eq C dL_law_355 1645 rfl 358 rfl (fun _ => ?_) (fun c => absurd E c)
  exact nx _ _ _ _ _ _ _ _ _ _ _ _ _ _ _ _ _ _ _ _ _ _ _ _ _ _ _ _ _ _ _ _ _ _ _ _ _ _ _ _ _ _ _ _ _ _ _ _ _ _ _ _ _ _ _ _ _ _ _ _ _ _ _ _ _ _ _ _ _ _ _ _ _ _ _ _ _ _ _ _ _ ⟨R, hV, ⟨hrc, hrw⟩, hT, hB, hS, hH⟩
set_option maxHeartbeats 4000000 in
set_option maxRecDepth 100000 in
theorem Lw_person {τ : SX} {κ : KX} {a b : Nat → Nat} {sb L : Nat} {xs : Nat → Int32} {i : Int32} (C : Cx τ κ cL_law RL wsL_law room_1 4) (X : SB κ sb L xs) (hi : 0 ≤ i.toInt ∧ i.toInt + 5 ≤ L ∧ L ≤ 2560) {v1 v2 v3 v4 : Int32} (h1 : xs (i + 1).toNatClampNeg = v1) (h2 : xs (i + 2).toNatClampNeg = v2) (h3 : xs (i + 3).toNatClampNeg = v3) (h4 : xs (i + 4).toNatClampNeg = v4) (nx : NX τ κ a b sb i) (rws : Nat → Int32) (isv rc : Int32) (nlw nkd nbt nph ncn nno : Nat → Int32) (nct nsc nrn nlg ndn nzz : Int32) (tlw tkd tbt tph tcn tno : Nat → Int32) (tct tsc trn tlg tdn tzz : Int32) (slw skd sbt sph scn sno : Nat → Int32) (sct ssc srn slg sdn szz : Int32) (bs : Nat → Int32) (tz so fr tt ft : Int32) (bo : Nat → Int32) (bg ak an aa ip : Int32) (sit : Nat → Nat → Int64) (ssr ssi shw shn shs shz ss mhd mas mbf mtp : Nat → Int32) (mtk mfr mtt mvl miw : Int32) (mld mrw mso msz mnu mhw mhh mhm mbo : Nat → Int32) (mak man maa mip : Int32) (hI : INV rws isv rc nlw nkd nbt nph ncn nno nct nsc nrn nlg ndn nzz slw skd sbt sph scn sno sct ssc srn slg sdn szz bs tz bo bg sit ssr ssi shw shn shs shz ss mhd mtp mrw mso msz mnu mhw mhh mhm mbo) : J τ κ 56 1325 (LWs τ a b rws isv rc nlw nkd nbt nph ncn nno nct nsc nrn nlg ndn nzz tlw tkd tbt tph tcn tno tct tsc trn tlg tdn tzz slw skd sbt sph scn sno sct ssc srn slg sdn szz bs tz so fr tt ft bo bg ak an aa ip sit ssr ssi shw shn shs shz ss mhd mas mbf mtp mtk mfr mtt mvl miw mld mrw mso msz mnu mhw mhh mhm mbo mak man maa mip) (LVs sb a b i) 360 [] := by
  obtain ⟨R, hV, ⟨hrc, hrw⟩, hT, hB, hS, hH⟩ := hI
  refine j_aload_n C dL_law_360 361 rfl rfl 1 rfl ?_
  refine j_aload_n C dL_law_361 362 rfl rfl 0 rfl ?_
  refine j_iload_n C dL_law_362 363 rfl rfl 3 rfl ?_
  refine j_iconst (v := 1) C dL_law_363 364 rfl (by decide) ?_
  refine j_iadd C dL_law_364 365 rfl ?_
  refine j_sld C X dL_law_365 366 rfl (sl_in hi (by decide) (by decide)) h1 ?_
  refine j_aload_n C dL_law_366 367 rfl rfl 0 rfl ?_
  refine j_iload_n C dL_law_367 368 rfl rfl 3 rfl ?_
  refine j_iconst (v := 2) C dL_law_368 369 rfl (by decide) ?_
  refine j_iadd C dL_law_369 370 rfl ?_
  refine j_sld C X dL_law_370 371 rfl (sl_in hi (by decide) (by decide)) h2 ?_
  refine j_aload_n C dL_law_371 372 rfl rfl 0 rfl ?_
  refine j_iload_n C dL_law_372 373 rfl rfl 3 rfl ?_
  refine j_iconst (v := 3) C dL_law_373 374 rfl (by decide) ?_
  refine j_iadd C dL_law_374 375 rfl ?_
  refine j_sld C X dL_law_375 376 rfl (sl_in hi (by decide) (by decide)) h3 ?_
  refine j_aload_n C dL_law_376 377 rfl rfl 0 rfl ?_
  refine j_iload_n C dL_law_377 378 rfl rfl 3 rfl ?_
  refine j_iconst (v := 4) C dL_law_378 379 rfl (by decide) ?_
  refine j_iadd C dL_law_379 380 rfl ?_
  refine j_sld C X dL_law_380 381 rfl (sl_in hi (by decide) (by decide)) h4 ?_
  refine j_cvIp (na := 4) C dL_law_381 384 rfl (c_X5_person τ a rws isv rc nlw nkd nbt nph ncn nno nct nsc nrn nlg ndn nzz v1 v2 v3 v4 hrc.1 hrc.2 R.2.2.1.1 R.2.2.1.2) gL_law_X5_person rfl rfl rfl qd_X5_person rfl ⟨by decide, by decide⟩ ⟨by decide, by decide⟩ rfl (Nat.le_of_ble_eq_true rfl) ((wT τ (fun j => a (20 + j)) tlw tkd tbt tph tcn tno tct tsc trn tlg tdn tzz) ++ (wT τ (fun j => a (30 + j)) slw skd sbt sph scn sno sct ssc srn slg sdn szz) ++ (wP τ (fun j => a (40 + j)) bs tz so fr tt ft) ++ (wA τ (fun j => a (50 + j)) bo bg ak an aa ip) ++ (wSS τ a sit ssr ssi) ++ (wHH τ a shw shn shs shz) ++ (wM τ b ss mhd mas mbf isv mtp tz mtk mfr mtt mvl miw mld mrw rc mso msz mnu mhw mhh mhm mbo bg mak man maa mip)) 45 11 rfl rfl (fun _ => rfl) (by decide +kernel) (by decide +kernel) (by decide +kernel) (pm_0_1 _ _ _ _ _ _ _ _ _) 5 0 rfl rfl (fun u => ((wX τ a rws isv rc) ++ (wT τ (fun j => a (10 + j)) nlw u.1 u.2.1 u.2.2.1 u.2.2.2.1 u.2.2.2.2.1 u.2.2.2.2.2 nsc nrn nlg ndn nzz) ++ (wT τ (fun j => a (20 + j)) tlw tkd tbt tph tcn tno tct tsc trn tlg tdn tzz) ++ (wT τ (fun j => a (30 + j)) slw skd sbt sph scn sno sct ssc srn slg sdn szz) ++ (wP τ (fun j => a (40 + j)) bs tz so fr tt ft) ++ (wA τ (fun j => a (50 + j)) bo bg ak an aa ip) ++ (wSS τ a sit ssr ssi) ++ (wHH τ a shw shn shs shz) ++ (wM τ b ss mhd mas mbf isv mtp tz mtk mfr mtt mvl miw mld mrw rc mso msz mnu mhw mhh mhm mbo bg mak man maa mip))) (fun _ => pm_0_1 _ _ _ _ _ _ _ _ _) (fun r1 u1 hX1 hn1 => ?_)
  obtain ⟨nkd_1, nbt_1, nph_1, ncn_1, nno_1, nct_1⟩ := u1
  refine j_aload_n C dL_law_384 385 rfl rfl 2 rfl ?_
  refine j_aload_n C dL_law_385 386 rfl rfl 0 rfl ?_
  refine j_iload_n C dL_law_386 387 rfl rfl 3 rfl ?_
  refine j_iconst (v := 1) C dL_law_387 388 rfl (by decide) ?_
  refine j_iadd C dL_law_388 389 rfl ?_
  refine j_sld C X dL_law_389 390 rfl (sl_in hi (by decide) (by decide)) h1 ?_
  refine j_aload_n C dL_law_390 391 rfl rfl 0 rfl ?_
  refine j_iload_n C dL_law_391 392 rfl rfl 3 rfl ?_
  refine j_iconst (v := 2) C dL_law_392 393 rfl (by decide) ?_
  refine j_iadd C dL_law_393 394 rfl ?_
  refine j_sld C X dL_law_394 395 rfl (sl_in hi (by decide) (by decide)) h2 ?_
  refine j_aload_n C dL_law_395 396 rfl rfl 0 rfl ?_
  refine j_iload_n C dL_law_396 397 rfl rfl 3 rfl ?_
  refine j_iconst (v := 3) C dL_law_397 398 rfl (by decide) ?_
  refine j_iadd C dL_law_398 399 rfl ?_
  refine j_sld C X dL_law_399 400 rfl (sl_in hi (by decide) (by decide)) h3 ?_
  refine j_aload_n C dL_law_400 401 rfl rfl 0 rfl ?_
  refine j_iload_n C dL_law_401 402 rfl rfl 3 rfl ?_
  refine j_iconst (v := 4) C dL_law_402 403 rfl (by decide) ?_
  refine j_iadd C dL_law_403 404 rfl ?_
  refine j_sld C X dL_law_404 405 rfl (sl_in hi (by decide) (by decide)) h4 ?_
  refine j_cvIp (na := 4) C dL_law_405 408 rfl (c_X6_person τ b ss mhd mas mbf isv mtp tz mtk mfr mtt mvl miw mld mrw rc mso msz mnu mhw mhh mhm mbo bg mak man maa mip v1 v2 v3 v4 (rt_ok R)) gL_law_X6_person rfl rfl rfl qd_X6_person rfl ⟨by decide, by decide⟩ ⟨by decide, by decide⟩ rfl (Nat.le_of_ble_eq_true rfl) ((wX τ a rws isv rc) ++ (wT τ (fun j => a (10 + j)) nlw nkd_1 nbt_1 nph_1 ncn_1 nno_1 nct_1 nsc nrn nlg ndn nzz) ++ (wT τ (fun j => a (20 + j)) tlw tkd tbt tph tcn tno tct tsc trn tlg tdn tzz) ++ (wT τ (fun j => a (30 + j)) slw skd sbt sph scn sno sct ssc srn slg sdn szz) ++ (wP τ (fun j => a (40 + j)) bs tz so fr tt ft) ++ (wA τ (fun j => a (50 + j)) bo bg ak an aa ip) ++ (wSS τ a sit ssr ssi) ++ (wHH τ a shw shn shs shz)) 41 15 rfl rfl (fun _ => rfl) (by decide +kernel) (by decide +kernel) (by decide +kernel) (List.Perm.refl _) 6 0 rfl rfl (fun u => ((wX τ a rws isv rc) ++ (wT τ (fun j => a (10 + j)) nlw nkd_1 nbt_1 nph_1 ncn_1 nno_1 nct_1 nsc nrn nlg ndn nzz) ++ (wT τ (fun j => a (20 + j)) tlw tkd tbt tph tcn tno tct tsc trn tlg tdn tzz) ++ (wT τ (fun j => a (30 + j)) slw skd sbt sph scn sno sct ssc srn slg sdn szz) ++ (wP τ (fun j => a (40 + j)) bs tz so fr tt ft) ++ (wA τ (fun j => a (50 + j)) bo bg ak an aa ip) ++ (wSS τ a sit ssr ssi) ++ (wHH τ a shw shn shs shz) ++ (wM τ b u mhd mas mbf isv mtp tz mtk mfr mtt mvl miw mld mrw rc mso msz mnu mhw mhh mhm mbo bg mak man maa mip))) (fun _ => List.Perm.refl _) (fun r2 u2 hX2 hn2 => ?_)
  have E := e_person  R v1 v2 v3 v4
  rw [hX1, hX2] at E
  refine j_icmp_eq C dL_law_408 1645 rfl 411 rfl (fun _ => ?_) (fun c => absurd E.1 c)
  exact nx _ _ _ _ _ _ _ _ _ _ _ _ _ _ _ _ _ _ _ _ _ _ _ _ _ _ _ _ _ _ _ _ _ _ _ _ _ _ _ _ _ _ _ _ _ _ _ _ _ _ _ _ _ _ _ _ _ _ _ _ _ _ _ _ _ _ _ _ _ _ _ _ _ _ _ _ _ _ _ _ _ ⟨E.2, hV, ⟨hrc, hrw⟩, hT, hB, hS, hH⟩
set_option maxHeartbeats 4000000 in
set_option maxRecDepth 100000 in
theorem Lw_of {τ : SX} {κ : KX} {a b : Nat → Nat} {sb L : Nat} {xs : Nat → Int32} {i : Int32} (C : Cx τ κ cL_law RL wsL_law room_1 4) (X : SB κ sb L xs) (hi : 0 ≤ i.toInt ∧ i.toInt + 5 ≤ L ∧ L ≤ 2560) {v1 v2 v3 v4 : Int32} (h1 : xs (i + 1).toNatClampNeg = v1) (h2 : xs (i + 2).toNatClampNeg = v2) (h3 : xs (i + 3).toNatClampNeg = v3) (h4 : xs (i + 4).toNatClampNeg = v4) (nx : NX τ κ a b sb i) (rws : Nat → Int32) (isv rc : Int32) (nlw nkd nbt nph ncn nno : Nat → Int32) (nct nsc nrn nlg ndn nzz : Int32) (tlw tkd tbt tph tcn tno : Nat → Int32) (tct tsc trn tlg tdn tzz : Int32) (slw skd sbt sph scn sno : Nat → Int32) (sct ssc srn slg sdn szz : Int32) (bs : Nat → Int32) (tz so fr tt ft : Int32) (bo : Nat → Int32) (bg ak an aa ip : Int32) (sit : Nat → Nat → Int64) (ssr ssi shw shn shs shz ss mhd mas mbf mtp : Nat → Int32) (mtk mfr mtt mvl miw : Int32) (mld mrw mso msz mnu mhw mhh mhm mbo : Nat → Int32) (mak man maa mip : Int32) (hI : INV rws isv rc nlw nkd nbt nph ncn nno nct nsc nrn nlg ndn nzz slw skd sbt sph scn sno sct ssc srn slg sdn szz bs tz bo bg sit ssr ssi shw shn shs shz ss mhd mtp mrw mso msz mnu mhw mhh mhm mbo) : J τ κ 56 1325 (LWs τ a b rws isv rc nlw nkd nbt nph ncn nno nct nsc nrn nlg ndn nzz tlw tkd tbt tph tcn tno tct tsc trn tlg tdn tzz slw skd sbt sph scn sno sct ssc srn slg sdn szz bs tz so fr tt ft bo bg ak an aa ip sit ssr ssi shw shn shs shz ss mhd mas mbf mtp mtk mfr mtt mvl miw mld mrw mso msz mnu mhw mhh mhm mbo mak man maa mip) (LVs sb a b i) 413 [] := by
  obtain ⟨R, hV, ⟨hrc, hrw⟩, hT, hB, hS, hH⟩ := hI
  refine j_aload_n C dL_law_413 414 rfl rfl 1 rfl ?_
  refine j_aload_n C dL_law_414 415 rfl rfl 0 rfl ?_
  refine j_iload_n C dL_law_415 416 rfl rfl 3 rfl ?_
  refine j_iconst (v := 1) C dL_law_416 417 rfl (by decide) ?_
  refine j_iadd C dL_law_417 418 rfl ?_
  refine j_sld C X dL_law_418 419 rfl (sl_in hi (by decide) (by decide)) h1 ?_
  refine j_aload_n C dL_law_419 420 rfl rfl 0 rfl ?_
  refine j_iload_n C dL_law_420 421 rfl rfl 3 rfl ?_
  refine j_iconst (v := 2) C dL_law_421 422 rfl (by decide) ?_
  refine j_iadd C dL_law_422 423 rfl ?_
  refine j_sld C X dL_law_423 424 rfl (sl_in hi (by decide) (by decide)) h2 ?_
  refine j_cvIp (na := 2) C dL_law_424 427 rfl (c_X5_of τ a rws isv rc nlw nkd nbt nph ncn nno nct nsc nrn nlg ndn nzz v1 v2 hrc.1 hrc.2 R.2.2.1.1 R.2.2.1.2) gL_law_X5_of rfl rfl rfl qd_X5_of rfl ⟨by decide, by decide⟩ ⟨by decide, by decide⟩ rfl (Nat.le_of_ble_eq_true rfl) ((wT τ (fun j => a (20 + j)) tlw tkd tbt tph tcn tno tct tsc trn tlg tdn tzz) ++ (wT τ (fun j => a (30 + j)) slw skd sbt sph scn sno sct ssc srn slg sdn szz) ++ (wP τ (fun j => a (40 + j)) bs tz so fr tt ft) ++ (wA τ (fun j => a (50 + j)) bo bg ak an aa ip) ++ (wSS τ a sit ssr ssi) ++ (wHH τ a shw shn shs shz) ++ (wM τ b ss mhd mas mbf isv mtp tz mtk mfr mtt mvl miw mld mrw rc mso msz mnu mhw mhh mhm mbo bg mak man maa mip)) 45 11 rfl rfl (fun _ => rfl) (by decide +kernel) (by decide +kernel) (by decide +kernel) (pm_0_1 _ _ _ _ _ _ _ _ _) 5 0 rfl rfl (fun _ => ((wX τ a rws isv rc) ++ (wT τ (fun j => a (10 + j)) nlw nkd nbt nph ncn nno nct nsc nrn nlg ndn nzz) ++ (wT τ (fun j => a (20 + j)) tlw tkd tbt tph tcn tno tct tsc trn tlg tdn tzz) ++ (wT τ (fun j => a (30 + j)) slw skd sbt sph scn sno sct ssc srn slg sdn szz) ++ (wP τ (fun j => a (40 + j)) bs tz so fr tt ft) ++ (wA τ (fun j => a (50 + j)) bo bg ak an aa ip) ++ (wSS τ a sit ssr ssi) ++ (wHH τ a shw shn shs shz) ++ (wM τ b ss mhd mas mbf isv mtp tz mtk mfr mtt mvl miw mld mrw rc mso msz mnu mhw mhh mhm mbo bg mak man maa mip))) (fun _ => pm_0_1 _ _ _ _ _ _ _ _ _) (fun r1 u1 hX1 hn1 => ?_)
  obtain rfl := (Prod.mk.inj hX1).1
  refine j_aload_n C dL_law_427 428 rfl rfl 2 rfl ?_
  refine j_aload_n C dL_law_428 429 rfl rfl 0 rfl ?_
  refine j_iload_n C dL_law_429 430 rfl rfl 3 rfl ?_
  refine j_iconst (v := 1) C dL_law_430 431 rfl (by decide) ?_
  refine j_iadd C dL_law_431 432 rfl ?_
  refine j_sld C X dL_law_432 433 rfl (sl_in hi (by decide) (by decide)) h1 ?_
  refine j_aload_n C dL_law_433 434 rfl rfl 0 rfl ?_
  refine j_iload_n C dL_law_434 435 rfl rfl 3 rfl ?_
  refine j_iconst (v := 2) C dL_law_435 436 rfl (by decide) ?_
  refine j_iadd C dL_law_436 437 rfl ?_
  refine j_sld C X dL_law_437 438 rfl (sl_in hi (by decide) (by decide)) h2 ?_
  refine j_cvIp (na := 2) C dL_law_438 441 rfl (c_X6_of τ b ss mhd mas mbf isv mtp tz mtk mfr mtt mvl miw mld mrw rc mso msz mnu mhw mhh mhm mbo bg mak man maa mip v1 v2 (rt_ok R)) gL_law_X6_of rfl rfl rfl qd_X6_of rfl ⟨by decide, by decide⟩ ⟨by decide, by decide⟩ rfl (Nat.le_of_ble_eq_true rfl) ((wX τ a rws isv rc) ++ (wT τ (fun j => a (10 + j)) nlw nkd nbt nph ncn nno nct nsc nrn nlg ndn nzz) ++ (wT τ (fun j => a (20 + j)) tlw tkd tbt tph tcn tno tct tsc trn tlg tdn tzz) ++ (wT τ (fun j => a (30 + j)) slw skd sbt sph scn sno sct ssc srn slg sdn szz) ++ (wP τ (fun j => a (40 + j)) bs tz so fr tt ft) ++ (wA τ (fun j => a (50 + j)) bo bg ak an aa ip) ++ (wSS τ a sit ssr ssi) ++ (wHH τ a shw shn shs shz)) 41 15 rfl rfl (fun _ => rfl) (by decide +kernel) (by decide +kernel) (by decide +kernel) (List.Perm.refl _) 6 0 rfl rfl (fun _ => ((wX τ a rws isv rc) ++ (wT τ (fun j => a (10 + j)) nlw nkd nbt nph ncn nno nct nsc nrn nlg ndn nzz) ++ (wT τ (fun j => a (20 + j)) tlw tkd tbt tph tcn tno tct tsc trn tlg tdn tzz) ++ (wT τ (fun j => a (30 + j)) slw skd sbt sph scn sno sct ssc srn slg sdn szz) ++ (wP τ (fun j => a (40 + j)) bs tz so fr tt ft) ++ (wA τ (fun j => a (50 + j)) bo bg ak an aa ip) ++ (wSS τ a sit ssr ssi) ++ (wHH τ a shw shn shs shz) ++ (wM τ b ss mhd mas mbf isv mtp tz mtk mfr mtt mvl miw mld mrw rc mso msz mnu mhw mhh mhm mbo bg mak man maa mip))) (fun _ => List.Perm.refl _) (fun r2 u2 hX2 hn2 => ?_)
  obtain rfl := (Prod.mk.inj hX2).1
  have E := e_of  R v1 v2
  refine j_icmp_eq C dL_law_441 1645 rfl 444 rfl (fun _ => ?_) (fun c => absurd E c)
  exact nx _ _ _ _ _ _ _ _ _ _ _ _ _ _ _ _ _ _ _ _ _ _ _ _ _ _ _ _ _ _ _ _ _ _ _ _ _ _ _ _ _ _ _ _ _ _ _ _ _ _ _ _ _ _ _ _ _ _ _ _ _ _ _ _ _ _ _ _ _ _ _ _ _ _ _ _ _ _ _ _ _ ⟨R, hV, ⟨hrc, hrw⟩, hT, hB, hS, hH⟩
set_option maxHeartbeats 4000000 in
set_option maxRecDepth 100000 in
theorem Lw_mind {τ : SX} {κ : KX} {a b : Nat → Nat} {sb L : Nat} {xs : Nat → Int32} {i : Int32} (C : Cx τ κ cL_law RL wsL_law room_1 4) (X : SB κ sb L xs) (hi : 0 ≤ i.toInt ∧ i.toInt + 5 ≤ L ∧ L ≤ 2560) {v1 v2 v3 v4 : Int32} (h1 : xs (i + 1).toNatClampNeg = v1) (h2 : xs (i + 2).toNatClampNeg = v2) (h3 : xs (i + 3).toNatClampNeg = v3) (h4 : xs (i + 4).toNatClampNeg = v4) (nx : NX τ κ a b sb i) (rws : Nat → Int32) (isv rc : Int32) (nlw nkd nbt nph ncn nno : Nat → Int32) (nct nsc nrn nlg ndn nzz : Int32) (tlw tkd tbt tph tcn tno : Nat → Int32) (tct tsc trn tlg tdn tzz : Int32) (slw skd sbt sph scn sno : Nat → Int32) (sct ssc srn slg sdn szz : Int32) (bs : Nat → Int32) (tz so fr tt ft : Int32) (bo : Nat → Int32) (bg ak an aa ip : Int32) (sit : Nat → Nat → Int64) (ssr ssi shw shn shs shz ss mhd mas mbf mtp : Nat → Int32) (mtk mfr mtt mvl miw : Int32) (mld mrw mso msz mnu mhw mhh mhm mbo : Nat → Int32) (mak man maa mip : Int32) (hI : INV rws isv rc nlw nkd nbt nph ncn nno nct nsc nrn nlg ndn nzz slw skd sbt sph scn sno sct ssc srn slg sdn szz bs tz bo bg sit ssr ssi shw shn shs shz ss mhd mtp mrw mso msz mnu mhw mhh mhm mbo) : J τ κ 56 1325 (LWs τ a b rws isv rc nlw nkd nbt nph ncn nno nct nsc nrn nlg ndn nzz tlw tkd tbt tph tcn tno tct tsc trn tlg tdn tzz slw skd sbt sph scn sno sct ssc srn slg sdn szz bs tz so fr tt ft bo bg ak an aa ip sit ssr ssi shw shn shs shz ss mhd mas mbf mtp mtk mfr mtt mvl miw mld mrw mso msz mnu mhw mhh mhm mbo mak man maa mip) (LVs sb a b i) 446 [] := by
  obtain ⟨R, hV, ⟨hrc, hrw⟩, hT, hB, hS, hH⟩ := hI
  refine j_aload_n C dL_law_446 447 rfl rfl 1 rfl ?_
  refine j_aload_n C dL_law_447 448 rfl rfl 0 rfl ?_
  refine j_iload_n C dL_law_448 449 rfl rfl 3 rfl ?_
  refine j_iconst (v := 1) C dL_law_449 450 rfl (by decide) ?_
  refine j_iadd C dL_law_450 451 rfl ?_
  refine j_sld C X dL_law_451 452 rfl (sl_in hi (by decide) (by decide)) h1 ?_
  refine j_aload_n C dL_law_452 453 rfl rfl 0 rfl ?_
  refine j_iload_n C dL_law_453 454 rfl rfl 3 rfl ?_
  refine j_iconst (v := 2) C dL_law_454 455 rfl (by decide) ?_
  refine j_iadd C dL_law_455 456 rfl ?_
  refine j_sld C X dL_law_456 457 rfl (sl_in hi (by decide) (by decide)) h2 ?_
  refine j_cvIp (na := 2) C dL_law_457 460 rfl (c_X5_mind τ a rws isv rc nlw nkd nbt nph ncn nno nct nsc nrn nlg ndn nzz v1 v2 hrc.1 hrc.2 R.2.2.1.1 R.2.2.1.2) gL_law_X5_mind rfl rfl rfl qd_X5_mind rfl ⟨by decide, by decide⟩ ⟨by decide, by decide⟩ rfl (Nat.le_of_ble_eq_true rfl) ((wT τ (fun j => a (20 + j)) tlw tkd tbt tph tcn tno tct tsc trn tlg tdn tzz) ++ (wT τ (fun j => a (30 + j)) slw skd sbt sph scn sno sct ssc srn slg sdn szz) ++ (wP τ (fun j => a (40 + j)) bs tz so fr tt ft) ++ (wA τ (fun j => a (50 + j)) bo bg ak an aa ip) ++ (wSS τ a sit ssr ssi) ++ (wHH τ a shw shn shs shz) ++ (wM τ b ss mhd mas mbf isv mtp tz mtk mfr mtt mvl miw mld mrw rc mso msz mnu mhw mhh mhm mbo bg mak man maa mip)) 45 11 rfl rfl (fun _ => rfl) (by decide +kernel) (by decide +kernel) (by decide +kernel) (pm_0_1 _ _ _ _ _ _ _ _ _) 5 0 rfl rfl (fun u => ((wX τ a rws isv rc) ++ (wT τ (fun j => a (10 + j)) nlw u nbt nph ncn nno nct nsc nrn nlg ndn nzz) ++ (wT τ (fun j => a (20 + j)) tlw tkd tbt tph tcn tno tct tsc trn tlg tdn tzz) ++ (wT τ (fun j => a (30 + j)) slw skd sbt sph scn sno sct ssc srn slg sdn szz) ++ (wP τ (fun j => a (40 + j)) bs tz so fr tt ft) ++ (wA τ (fun j => a (50 + j)) bo bg ak an aa ip) ++ (wSS τ a sit ssr ssi) ++ (wHH τ a shw shn shs shz) ++ (wM τ b ss mhd mas mbf isv mtp tz mtk mfr mtt mvl miw mld mrw rc mso msz mnu mhw mhh mhm mbo bg mak man maa mip))) (fun _ => pm_0_1 _ _ _ _ _ _ _ _ _) (fun r1 u1 hX1 hn1 => ?_)
  refine j_aload_n C dL_law_460 461 rfl rfl 2 rfl ?_
  refine j_aload_n C dL_law_461 462 rfl rfl 0 rfl ?_
  refine j_iload_n C dL_law_462 463 rfl rfl 3 rfl ?_
  refine j_iconst (v := 1) C dL_law_463 464 rfl (by decide) ?_
  refine j_iadd C dL_law_464 465 rfl ?_
  refine j_sld C X dL_law_465 466 rfl (sl_in hi (by decide) (by decide)) h1 ?_
  refine j_aload_n C dL_law_466 467 rfl rfl 0 rfl ?_
  refine j_iload_n C dL_law_467 468 rfl rfl 3 rfl ?_
  refine j_iconst (v := 2) C dL_law_468 469 rfl (by decide) ?_
  refine j_iadd C dL_law_469 470 rfl ?_
  refine j_sld C X dL_law_470 471 rfl (sl_in hi (by decide) (by decide)) h2 ?_
  refine j_cvIp (na := 2) C dL_law_471 474 rfl (c_X6_mind τ b ss mhd mas mbf isv mtp tz mtk mfr mtt mvl miw mld mrw rc mso msz mnu mhw mhh mhm mbo bg mak man maa mip v1 v2 (rt_ok R)) gL_law_X6_mind rfl rfl rfl qd_X6_mind rfl ⟨by decide, by decide⟩ ⟨by decide, by decide⟩ rfl (Nat.le_of_ble_eq_true rfl) ((wX τ a rws isv rc) ++ (wT τ (fun j => a (10 + j)) nlw u1 nbt nph ncn nno nct nsc nrn nlg ndn nzz) ++ (wT τ (fun j => a (20 + j)) tlw tkd tbt tph tcn tno tct tsc trn tlg tdn tzz) ++ (wT τ (fun j => a (30 + j)) slw skd sbt sph scn sno sct ssc srn slg sdn szz) ++ (wP τ (fun j => a (40 + j)) bs tz so fr tt ft) ++ (wA τ (fun j => a (50 + j)) bo bg ak an aa ip) ++ (wSS τ a sit ssr ssi) ++ (wHH τ a shw shn shs shz)) 41 15 rfl rfl (fun _ => rfl) (by decide +kernel) (by decide +kernel) (by decide +kernel) (List.Perm.refl _) 6 0 rfl rfl (fun u => ((wX τ a rws isv rc) ++ (wT τ (fun j => a (10 + j)) nlw u1 nbt nph ncn nno nct nsc nrn nlg ndn nzz) ++ (wT τ (fun j => a (20 + j)) tlw tkd tbt tph tcn tno tct tsc trn tlg tdn tzz) ++ (wT τ (fun j => a (30 + j)) slw skd sbt sph scn sno sct ssc srn slg sdn szz) ++ (wP τ (fun j => a (40 + j)) bs tz so fr tt ft) ++ (wA τ (fun j => a (50 + j)) bo bg ak an aa ip) ++ (wSS τ a sit ssr ssi) ++ (wHH τ a shw shn shs shz) ++ (wM τ b u mhd mas mbf isv mtp tz mtk mfr mtt mvl miw mld mrw rc mso msz mnu mhw mhh mhm mbo bg mak man maa mip))) (fun _ => List.Perm.refl _) (fun r2 u2 hX2 hn2 => ?_)
  have E := e_mind  R v1 v2
  rw [hX1, hX2] at E
  refine j_icmp_eq C dL_law_474 1645 rfl 477 rfl (fun _ => ?_) (fun c => absurd E.1 c)
  exact nx _ _ _ _ _ _ _ _ _ _ _ _ _ _ _ _ _ _ _ _ _ _ _ _ _ _ _ _ _ _ _ _ _ _ _ _ _ _ _ _ _ _ _ _ _ _ _ _ _ _ _ _ _ _ _ _ _ _ _ _ _ _ _ _ _ _ _ _ _ _ _ _ _ _ _ _ _ _ _ _ _ ⟨E.2, hV, ⟨hrc, hrw⟩, hT, hB, hS, hH⟩
set_option maxHeartbeats 4000000 in
set_option maxRecDepth 100000 in
theorem Lw_change {τ : SX} {κ : KX} {a b : Nat → Nat} {sb L : Nat} {xs : Nat → Int32} {i : Int32} (C : Cx τ κ cL_law RL wsL_law room_1 4) (X : SB κ sb L xs) (hi : 0 ≤ i.toInt ∧ i.toInt + 5 ≤ L ∧ L ≤ 2560) {v1 v2 v3 v4 : Int32} (h1 : xs (i + 1).toNatClampNeg = v1) (h2 : xs (i + 2).toNatClampNeg = v2) (h3 : xs (i + 3).toNatClampNeg = v3) (h4 : xs (i + 4).toNatClampNeg = v4) (nx : NX τ κ a b sb i) (rws : Nat → Int32) (isv rc : Int32) (nlw nkd nbt nph ncn nno : Nat → Int32) (nct nsc nrn nlg ndn nzz : Int32) (tlw tkd tbt tph tcn tno : Nat → Int32) (tct tsc trn tlg tdn tzz : Int32) (slw skd sbt sph scn sno : Nat → Int32) (sct ssc srn slg sdn szz : Int32) (bs : Nat → Int32) (tz so fr tt ft : Int32) (bo : Nat → Int32) (bg ak an aa ip : Int32) (sit : Nat → Nat → Int64) (ssr ssi shw shn shs shz ss mhd mas mbf mtp : Nat → Int32) (mtk mfr mtt mvl miw : Int32) (mld mrw mso msz mnu mhw mhh mhm mbo : Nat → Int32) (mak man maa mip : Int32) (hI : INV rws isv rc nlw nkd nbt nph ncn nno nct nsc nrn nlg ndn nzz slw skd sbt sph scn sno sct ssc srn slg sdn szz bs tz bo bg sit ssr ssi shw shn shs shz ss mhd mtp mrw mso msz mnu mhw mhh mhm mbo) : J τ κ 56 1325 (LWs τ a b rws isv rc nlw nkd nbt nph ncn nno nct nsc nrn nlg ndn nzz tlw tkd tbt tph tcn tno tct tsc trn tlg tdn tzz slw skd sbt sph scn sno sct ssc srn slg sdn szz bs tz so fr tt ft bo bg ak an aa ip sit ssr ssi shw shn shs shz ss mhd mas mbf mtp mtk mfr mtt mvl miw mld mrw mso msz mnu mhw mhh mhm mbo mak man maa mip) (LVs sb a b i) 479 [] := by
  obtain ⟨R, hV, ⟨hrc, hrw⟩, hT, hB, hS, hH⟩ := hI
  refine j_aload_n C dL_law_479 480 rfl rfl 1 rfl ?_
  refine j_aload_n C dL_law_480 481 rfl rfl 0 rfl ?_
  refine j_iload_n C dL_law_481 482 rfl rfl 3 rfl ?_
  refine j_iconst (v := 1) C dL_law_482 483 rfl (by decide) ?_
  refine j_iadd C dL_law_483 484 rfl ?_
  refine j_sld C X dL_law_484 485 rfl (sl_in hi (by decide) (by decide)) h1 ?_
  refine j_aload_n C dL_law_485 486 rfl rfl 0 rfl ?_
  refine j_iload_n C dL_law_486 487 rfl rfl 3 rfl ?_
  refine j_iconst (v := 2) C dL_law_487 488 rfl (by decide) ?_
  refine j_iadd C dL_law_488 489 rfl ?_
  refine j_sld C X dL_law_489 490 rfl (sl_in hi (by decide) (by decide)) h2 ?_
  refine j_aload_n C dL_law_490 491 rfl rfl 0 rfl ?_
  refine j_iload_n C dL_law_491 492 rfl rfl 3 rfl ?_
  refine j_iconst (v := 3) C dL_law_492 493 rfl (by decide) ?_
  refine j_iadd C dL_law_493 494 rfl ?_
  refine j_sld C X dL_law_494 495 rfl (sl_in hi (by decide) (by decide)) h3 ?_
  refine j_cvIp (na := 3) C dL_law_495 498 rfl (c_X5_change τ a rws isv rc nlw nkd nbt nph ncn nno nct nsc nrn nlg ndn nzz v1 v2 v3 hrc.1 hrc.2 R.2.2.1.1 R.2.2.1.2) gL_law_X5_change rfl rfl rfl qd_X5_change rfl ⟨by decide, by decide⟩ ⟨by decide, by decide⟩ rfl (Nat.le_of_ble_eq_true rfl) ((wT τ (fun j => a (20 + j)) tlw tkd tbt tph tcn tno tct tsc trn tlg tdn tzz) ++ (wT τ (fun j => a (30 + j)) slw skd sbt sph scn sno sct ssc srn slg sdn szz) ++ (wP τ (fun j => a (40 + j)) bs tz so fr tt ft) ++ (wA τ (fun j => a (50 + j)) bo bg ak an aa ip) ++ (wSS τ a sit ssr ssi) ++ (wHH τ a shw shn shs shz) ++ (wM τ b ss mhd mas mbf isv mtp tz mtk mfr mtt mvl miw mld mrw rc mso msz mnu mhw mhh mhm mbo bg mak man maa mip)) 45 11 rfl rfl (fun _ => rfl) (by decide +kernel) (by decide +kernel) (by decide +kernel) (pm_0_1 _ _ _ _ _ _ _ _ _) 5 0 rfl rfl (fun u => ((wX τ a rws isv rc) ++ (wT τ (fun j => a (10 + j)) nlw nkd u.1 u.2 ncn nno nct nsc nrn nlg ndn nzz) ++ (wT τ (fun j => a (20 + j)) tlw tkd tbt tph tcn tno tct tsc trn tlg tdn tzz) ++ (wT τ (fun j => a (30 + j)) slw skd sbt sph scn sno sct ssc srn slg sdn szz) ++ (wP τ (fun j => a (40 + j)) bs tz so fr tt ft) ++ (wA τ (fun j => a (50 + j)) bo bg ak an aa ip) ++ (wSS τ a sit ssr ssi) ++ (wHH τ a shw shn shs shz) ++ (wM τ b ss mhd mas mbf isv mtp tz mtk mfr mtt mvl miw mld mrw rc mso msz mnu mhw mhh mhm mbo bg mak man maa mip))) (fun _ => pm_0_1 _ _ _ _ _ _ _ _ _) (fun r1 u1 hX1 hn1 => ?_)
  obtain ⟨nbt_1, nph_1⟩ := u1
  refine j_aload_n C dL_law_498 499 rfl rfl 2 rfl ?_
  refine j_aload_n C dL_law_499 500 rfl rfl 0 rfl ?_
  refine j_iload_n C dL_law_500 501 rfl rfl 3 rfl ?_
  refine j_iconst (v := 1) C dL_law_501 502 rfl (by decide) ?_
  refine j_iadd C dL_law_502 503 rfl ?_
  refine j_sld C X dL_law_503 504 rfl (sl_in hi (by decide) (by decide)) h1 ?_
  refine j_aload_n C dL_law_504 505 rfl rfl 0 rfl ?_
  refine j_iload_n C dL_law_505 506 rfl rfl 3 rfl ?_
  refine j_iconst (v := 2) C dL_law_506 507 rfl (by decide) ?_
  refine j_iadd C dL_law_507 508 rfl ?_
  refine j_sld C X dL_law_508 509 rfl (sl_in hi (by decide) (by decide)) h2 ?_
  refine j_aload_n C dL_law_509 510 rfl rfl 0 rfl ?_
  refine j_iload_n C dL_law_510 511 rfl rfl 3 rfl ?_
  refine j_iconst (v := 3) C dL_law_511 512 rfl (by decide) ?_
  refine j_iadd C dL_law_512 513 rfl ?_
  refine j_sld C X dL_law_513 514 rfl (sl_in hi (by decide) (by decide)) h3 ?_
  refine j_cvIp (na := 3) C dL_law_514 517 rfl (c_X6_change τ b ss mhd mas mbf isv mtp tz mtk mfr mtt mvl miw mld mrw rc mso msz mnu mhw mhh mhm mbo bg mak man maa mip v1 v2 v3 (rt_ok R)) gL_law_X6_change rfl rfl rfl qd_X6_change rfl ⟨by decide, by decide⟩ ⟨by decide, by decide⟩ rfl (Nat.le_of_ble_eq_true rfl) ((wX τ a rws isv rc) ++ (wT τ (fun j => a (10 + j)) nlw nkd nbt_1 nph_1 ncn nno nct nsc nrn nlg ndn nzz) ++ (wT τ (fun j => a (20 + j)) tlw tkd tbt tph tcn tno tct tsc trn tlg tdn tzz) ++ (wT τ (fun j => a (30 + j)) slw skd sbt sph scn sno sct ssc srn slg sdn szz) ++ (wP τ (fun j => a (40 + j)) bs tz so fr tt ft) ++ (wA τ (fun j => a (50 + j)) bo bg ak an aa ip) ++ (wSS τ a sit ssr ssi) ++ (wHH τ a shw shn shs shz)) 41 15 rfl rfl (fun _ => rfl) (by decide +kernel) (by decide +kernel) (by decide +kernel) (List.Perm.refl _) 6 0 rfl rfl (fun u => ((wX τ a rws isv rc) ++ (wT τ (fun j => a (10 + j)) nlw nkd nbt_1 nph_1 ncn nno nct nsc nrn nlg ndn nzz) ++ (wT τ (fun j => a (20 + j)) tlw tkd tbt tph tcn tno tct tsc trn tlg tdn tzz) ++ (wT τ (fun j => a (30 + j)) slw skd sbt sph scn sno sct ssc srn slg sdn szz) ++ (wP τ (fun j => a (40 + j)) bs tz so fr tt ft) ++ (wA τ (fun j => a (50 + j)) bo bg ak an aa ip) ++ (wSS τ a sit ssr ssi) ++ (wHH τ a shw shn shs shz) ++ (wM τ b u mhd mas mbf isv mtp tz mtk mfr mtt mvl miw mld mrw rc mso msz mnu mhw mhh mhm mbo bg mak man maa mip))) (fun _ => List.Perm.refl _) (fun r2 u2 hX2 hn2 => ?_)
  have E := e_change  R v1 v2 v3
  rw [hX1, hX2] at E
  refine j_icmp_eq C dL_law_517 1645 rfl 520 rfl (fun _ => ?_) (fun c => absurd E.1 c)
  exact nx _ _ _ _ _ _ _ _ _ _ _ _ _ _ _ _ _ _ _ _ _ _ _ _ _ _ _ _ _ _ _ _ _ _ _ _ _ _ _ _ _ _ _ _ _ _ _ _ _ _ _ _ _ _ _ _ _ _ _ _ _ _ _ _ _ _ _ _ _ _ _ _ _ _ _ _ _ _ _ _ _ ⟨E.2, hV, ⟨hrc, hrw⟩, hT, hB, hS, hH⟩
