theorem L_s_347 : ab_ML "SeasonSeat" 347 M_tr_init.1 := Or.inr ⟨"SeasonSeat", ab_nm 1061 (by decide +kernel) rfl⟩
theorem L_tr_3 : Cond.methodLink "SeasonSeat$Trading" 3 objectInit ∈ ab_good := ab_gm 1064 (by decide +kernel) rfl
theorem L_tr_34 : ab_ML "SeasonSeat$Trading" 34 M_tr_afterRings.1 := Or.inl (ab_gm 1065 (by decide +kernel) rfl)
theorem L_tr_38 : ab_ML "SeasonSeat$Trading" 38 M_tr_favourite.1 := Or.inl (ab_gm 1069 (by decide +kernel) rfl)
theorem L_tr_45 : ab_ML "SeasonSeat$Trading" 45 M_tr_likingOf.1 := Or.inl (ab_gm 1073 (by decide +kernel) rfl)
theorem L_tr_48 : ab_ML "SeasonSeat$Trading" 48 M_s_seasonOf.1 := Or.inr ⟨"SeasonSeat", ab_nm 1077 (by decide +kernel) rfl⟩
theorem L_tr_51 : ab_ML "SeasonSeat$Trading" 51 M_ca_liking.1 := Or.inr ⟨"SeasonSeat", ab_nm 1078 (by decide +kernel) rfl⟩
theorem L_tr_41 : ab_ML "SeasonSeat$Trading" 41 M_tr_isOnRing.1 := Or.inl (ab_gm 1079 (by decide +kernel) rfl)
theorem F_tr_21 : ab_FL "SeasonSeat$Trading" 21 9 0 true := ⟨_, _, _, rfl, by decide, rfl, Or.inl ⟨ab_gm 1083 (by decide +kernel) rfl, fun _ => rfl⟩⟩
theorem FN_tr_21 : ∀ host : String, ∀ O n dd, Cond.fieldLinkNest "SeasonSeat$Trading" 21 O n dd host ∉ ab_nest := ab_nestno (by decide +kernel)
theorem F_tr_25 : ab_FL "SeasonSeat$Trading" 25 9 1 true := ⟨_, _, _, rfl, by decide, rfl, Or.inl ⟨ab_gm 1084 (by decide +kernel) rfl, fun _ => rfl⟩⟩
theorem FN_tr_25 : ∀ host : String, ∀ O n dd, Cond.fieldLinkNest "SeasonSeat$Trading" 25 O n dd host ∉ ab_nest := ab_nestno (by decide +kernel)
theorem F_tr_9 : ab_FL "SeasonSeat$Trading" 9 9 2 true := ⟨_, _, _, rfl, by decide, rfl, Or.inl ⟨ab_gm 1085 (by decide +kernel) rfl, fun _ => rfl⟩⟩
theorem FN_tr_9 : ∀ host : String, ∀ O n dd, Cond.fieldLinkNest "SeasonSeat$Trading" 9 O n dd host ∉ ab_nest := ab_nestno (by decide +kernel)
theorem F_tr_15 : ab_FL "SeasonSeat$Trading" 15 9 3 true := ⟨_, _, _, rfl, by decide, rfl, Or.inl ⟨ab_gm 1086 (by decide +kernel) rfl, fun _ => rfl⟩⟩
theorem FN_tr_15 : ∀ host : String, ∀ O n dd, Cond.fieldLinkNest "SeasonSeat$Trading" 15 O n dd host ∉ ab_nest := ab_nestno (by decide +kernel)
theorem F_s_350 : ab_FL "SeasonSeat" 350 9 3 true := ⟨_, _, _, rfl, by decide, rfl, Or.inr ⟨"SeasonSeat", rfl, ab_nm 1087 (by decide +kernel) rfl⟩⟩
theorem F_tr_18 : ab_FL "SeasonSeat$Trading" 18 9 4 true := ⟨_, _, _, rfl, by decide, rfl, Or.inl ⟨ab_gm 1088 (by decide +kernel) rfl, fun _ => rfl⟩⟩
theorem FN_tr_18 : ∀ host : String, ∀ O n dd, Cond.fieldLinkNest "SeasonSeat$Trading" 18 O n dd host ∉ ab_nest := ab_nestno (by decide +kernel)
theorem F_s_353 : ab_FL "SeasonSeat" 353 9 4 true := ⟨_, _, _, rfl, by decide, rfl, Or.inr ⟨"SeasonSeat", rfl, ab_nm 1089 (by decide +kernel) rfl⟩⟩
theorem L_law_126 : ab_ML "SeasonSeatLaw" 126 M_s_glad.1 := Or.inl (ab_gm 1101 (by decide +kernel) rfl)
theorem L_law_130 : ab_ML "SeasonSeatLaw" 130 M_s_seasons.1 := Or.inl (ab_gm 1105 (by decide +kernel) rfl)
theorem L_s_356 : ab_ML "SeasonSeat" 356 M_s_refusedFelt.1 := Or.inl (ab_gm 1109 (by decide +kernel) rfl)
theorem L_s_359 : ab_ML "SeasonSeat" 359 M_s_seasonsFelt.1 := Or.inl (ab_gm 1113 (by decide +kernel) rfl)
theorem L_s_363 : ab_ML "SeasonSeat" 363 M_s_isFelt.1 := Or.inl (ab_gm 1117 (by decide +kernel) rfl)
theorem L_law_134 : ab_ML "SeasonSeatLaw" 134 M_s_months.1 := Or.inl (ab_gm 1121 (by decide +kernel) rfl)
theorem L_law_138 : ab_ML "SeasonSeatLaw" 138 M_s_attempt.1 := Or.inl (ab_gm 1125 (by decide +kernel) rfl)
theorem L_s_367 : ab_ML "SeasonSeat" 367 M_s_mostAlike.1 := Or.inl (ab_gm 1129 (by decide +kernel) rfl)
theorem L_s_370 : ab_ML "SeasonSeat" 370 M_s_broughtBy.1 := Or.inl (ab_gm 1133 (by decide +kernel) rfl)
theorem L_s_373 : ab_ML "SeasonSeat" 373 M_jM_max.1 := Or.inl (ab_gm 1137 (by decide +kernel) rfl)
theorem L_law_142 : ab_ML "SeasonSeatLaw" 142 M_s_forces.1 := Or.inl (ab_gm 1138 (by decide +kernel) rfl)
theorem L_s_378 : ab_ML "SeasonSeat" 378 M_s_forcingNow.1 := Or.inl (ab_gm 1142 (by decide +kernel) rfl)
theorem L_s_391 : ab_ML "SeasonSeat" 391 M_fo_size.1 := Or.inr ⟨"SeasonSeat", ab_nm 1146 (by decide +kernel) rfl⟩
theorem N_fo : Cond.instantiable "SeasonSeat$Forcing" 9 ∈ ab_good ∧ Cond.initialized "SeasonSeat$Forcing" ∈ ab_good := ⟨ab_gm 1149 (by decide +kernel) rfl, ab_gm 21 (by decide +kernel) rfl⟩
theorem Q_s_383 : Cond.classLink "SeasonSeat" 383 "SeasonSeat$Forcing" ∈ ab_good := ab_gm 1151 (by decide +kernel) rfl
theorem L_s_392 : ab_ML "SeasonSeat" 392 M_fo_init.1 := Or.inr ⟨"SeasonSeat", ab_nm 1152 (by decide +kernel) rfl⟩
theorem L_fo_3 : Cond.methodLink "SeasonSeat$Forcing" 3 objectInit ∈ ab_good := ab_gm 1155 (by decide +kernel) rfl
theorem F_fo_24 : ab_FL "SeasonSeat$Forcing" 24 2 0 true := ⟨_, _, _, rfl, by decide, rfl, Or.inl ⟨ab_gm 1156 (by decide +kernel) rfl, fun _ => rfl⟩⟩
theorem FN_fo_24 : ∀ host : String, ∀ O n dd, Cond.fieldLinkNest "SeasonSeat$Forcing" 24 O n dd host ∉ ab_nest := ab_nestno (by decide +kernel)
theorem F_fo_28 : ab_FL "SeasonSeat$Forcing" 28 2 1 true := ⟨_, _, _, rfl, by decide, rfl, Or.inl ⟨ab_gm 1157 (by decide +kernel) rfl, fun _ => rfl⟩⟩
theorem FN_fo_28 : ∀ host : String, ∀ O n dd, Cond.fieldLinkNest "SeasonSeat$Forcing" 28 O n dd host ∉ ab_nest := ab_nestno (by decide +kernel)
theorem F_fo_31 : ab_FL "SeasonSeat$Forcing" 31 2 2 true := ⟨_, _, _, rfl, by decide, rfl, Or.inl ⟨ab_gm 1158 (by decide +kernel) rfl, fun _ => rfl⟩⟩
theorem FN_fo_31 : ∀ host : String, ∀ O n dd, Cond.fieldLinkNest "SeasonSeat$Forcing" 31 O n dd host ∉ ab_nest := ab_nestno (by decide +kernel)
theorem F_fo_34 : ab_FL "SeasonSeat$Forcing" 34 2 3 true := ⟨_, _, _, rfl, by decide, rfl, Or.inl ⟨ab_gm 1159 (by decide +kernel) rfl, fun _ => rfl⟩⟩
theorem FN_fo_34 : ∀ host : String, ∀ O n dd, Cond.fieldLinkNest "SeasonSeat$Forcing" 34 O n dd host ∉ ab_nest := ab_nestno (by decide +kernel)
theorem F_fo_37 : ab_FL "SeasonSeat$Forcing" 37 2 4 true := ⟨_, _, _, rfl, by decide, rfl, Or.inl ⟨ab_gm 1160 (by decide +kernel) rfl, fun _ => rfl⟩⟩
theorem FN_fo_37 : ∀ host : String, ∀ O n dd, Cond.fieldLinkNest "SeasonSeat$Forcing" 37 O n dd host ∉ ab_nest := ab_nestno (by decide +kernel)
theorem F_fo_9 : ab_FL "SeasonSeat$Forcing" 9 2 5 false := ⟨_, _, _, rfl, by decide, rfl, Or.inl ⟨ab_gm 1161 (by decide +kernel) rfl, fun h => by cases h⟩⟩
theorem F_fo_15 : ab_FL "SeasonSeat$Forcing" 15 2 6 false := ⟨_, _, _, rfl, by decide, rfl, Or.inl ⟨ab_gm 1162 (by decide +kernel) rfl, fun h => by cases h⟩⟩
theorem F_fo_18 : ab_FL "SeasonSeat$Forcing" 18 2 7 false := ⟨_, _, _, rfl, by decide, rfl, Or.inl ⟨ab_gm 1163 (by decide +kernel) rfl, fun h => by cases h⟩⟩
theorem F_fo_21 : ab_FL "SeasonSeat$Forcing" 21 2 8 false := ⟨_, _, _, rfl, by decide, rfl, Or.inl ⟨ab_gm 1164 (by decide +kernel) rfl, fun h => by cases h⟩⟩
theorem L_s_394 : ab_ML "SeasonSeat" 394 M_ro_openTo.1 := Or.inr ⟨"SeasonSeat", ab_nm 1184 (by decide +kernel) rfl⟩
theorem L_s_397 : ab_ML "SeasonSeat" 397 M_fo_solve.1 := Or.inr ⟨"SeasonSeat", ab_nm 1185 (by decide +kernel) rfl⟩
theorem L_fo_45 : ab_ML "SeasonSeat$Forcing" 45 M_fo_prepare.1 := Or.inl (ab_gm 1189 (by decide +kernel) rfl)
theorem L_fo_53 : ab_ML "SeasonSeat$Forcing" 53 M_jA_fill_0.1 := Or.inl (ab_gm 1193 (by decide +kernel) rfl)
theorem L_fo_62 : ab_ML "SeasonSeat$Forcing" 62 M_ro_nextOf.1 := Or.inr ⟨"SeasonSeat", ab_nm 1194 (by decide +kernel) rfl⟩
theorem L_fo_66 : ab_ML "SeasonSeat$Forcing" 66 M_ro_warmOf.1 := Or.inr ⟨"SeasonSeat", ab_nm 1195 (by decide +kernel) rfl⟩
theorem L_fo_70 : ab_ML "SeasonSeat$Forcing" 70 M_s_warmthOf.1 := Or.inr ⟨"SeasonSeat", ab_nm 1196 (by decide +kernel) rfl⟩
theorem L_fo_73 : ab_ML "SeasonSeat$Forcing" 73 M_fo_enqueue.1 := Or.inl (ab_gm 1197 (by decide +kernel) rfl)
theorem L_fo_49 : ab_ML "SeasonSeat$Forcing" 49 M_fo_rankAhead.1 := Or.inl (ab_gm 1201 (by decide +kernel) rfl)
theorem L_s_382 : ab_ML "SeasonSeat" 382 M_fo_fewest.1 := Or.inr ⟨"SeasonSeat", ab_nm 1205 (by decide +kernel) rfl⟩
theorem L_law_146 : ab_ML "SeasonSeatLaw" 146 M_s_best.1 := Or.inl (ab_gm 1209 (by decide +kernel) rfl)
theorem L_s_387 : ab_ML "SeasonSeat" 387 M_fo_firstDeed.1 := Or.inr ⟨"SeasonSeat", ab_nm 1213 (by decide +kernel) rfl⟩
theorem L_law_150 : ab_ML "SeasonSeatLaw" 150 M_s_chance.1 := Or.inl (ab_gm 1217 (by decide +kernel) rfl)
theorem L_s_401 : ab_ML "SeasonSeat" 401 M_id_drawLots.1 := Or.inr ⟨"SeasonSeat", ab_nm 1221 (by decide +kernel) rfl⟩
theorem F_id_58 : Cond.fieldLinkNest "SeasonSeat$Idling" 58 "SeasonSeat" "POWERS" "[I" "SeasonSeat" ∈ ab_nest := ab_nm 1225 (by decide +kernel) rfl
theorem L_id_61 : ab_ML "SeasonSeat$Idling" 61 M_id_addLots.1 := Or.inl (ab_gm 1226 (by decide +kernel) rfl)
theorem L_id_65 : ab_ML "SeasonSeat$Idling" 65 M_s_warmthOf.1 := Or.inr ⟨"SeasonSeat", ab_nm 1230 (by decide +kernel) rfl⟩
theorem L_s_405 : ab_ML "SeasonSeat" 405 M_id_casesWarm.1 := Or.inr ⟨"SeasonSeat", ab_nm 1231 (by decide +kernel) rfl⟩
theorem L_s_411 : ab_ML "SeasonSeat" 411 M_s_inLowestTerms.1 := Or.inl (ab_gm 1235 (by decide +kernel) rfl)
theorem L_law_155 : ab_ML "SeasonSeatLaw" 155 M_s_mean.1 := Or.inl (ab_gm 1238 (by decide +kernel) rfl)
theorem L_s_414 : ab_ML "SeasonSeat" 414 M_id_warmthInAllCases.1 := Or.inr ⟨"SeasonSeat", ab_nm 1242 (by decide +kernel) rfl⟩
theorem L_id_68 : ab_ML "SeasonSeat$Idling" 68 M_s_sumOf.1 := Or.inr ⟨"SeasonSeat", ab_nm 1246 (by decide +kernel) rfl⟩
theorem L_law_159 : ab_ML "SeasonSeatLaw" 159 M_s_numbers.1 := Or.inl (ab_gm 1247 (by decide +kernel) rfl)
theorem L_s_417 : ab_ML "SeasonSeat" 417 M_ty_make.1 := Or.inr ⟨"SeasonSeat", ab_nm 1251 (by decide +kernel) rfl⟩
theorem L_ty_22 : ab_ML "SeasonSeat$Tray" 22 M_jA_fill_1.1 := Or.inl (ab_gm 1255 (by decide +kernel) rfl)
theorem L_law_165 : ab_ML "SeasonSeatLaw" 165 M_s_write.1 := Or.inl (ab_gm 1258 (by decide +kernel) rfl)
theorem C_s_420 : Cond.constantLong "SeasonSeat" 420 (-2) ∈ ab_good := ab_gm 1262 (by decide +kernel) rfl
theorem C_s_422 : Cond.constantLong "SeasonSeat" 422 (-6) ∈ ab_good := ab_gm 1263 (by decide +kernel) rfl
theorem C_s_424 : Cond.constantLong "SeasonSeat" 424 (-7) ∈ ab_good := ab_gm 1264 (by decide +kernel) rfl
theorem L_s_426 : ab_ML "SeasonSeat" 426 M_ty_put.1 := Or.inr ⟨"SeasonSeat", ab_nm 1265 (by decide +kernel) rfl⟩
theorem L_law_170 : ab_ML "SeasonSeatLaw" 170 M_s_lists.1 := Or.inl (ab_gm 1269 (by decide +kernel) rfl)
theorem L_law_174 : ab_ML "SeasonSeatLaw" 174 M_s_image.1 := Or.inl (ab_gm 1273 (by decide +kernel) rfl)
theorem L_law_178 : ab_ML "SeasonSeatLaw" 178 M_s_restore.1 := Or.inl (ab_gm 1277 (by decide +kernel) rfl)
theorem L_law_182 : ab_ML "SeasonSeatLaw" 182 M_s_count.1 := Or.inl (ab_gm 1281 (by decide +kernel) rfl)
theorem L_s_430 : ab_ML "SeasonSeat" 430 M_s_ridersElsewhere.1 := Or.inl (ab_gm 1285 (by decide +kernel) rfl)
theorem Q_law_10 : Cond.classLink "SeasonSeatLaw" 10 "SeasonSeatModel" ∈ ab_good := ab_gm 1289 (by decide +kernel) rfl
theorem N_m : Cond.instantiable "SeasonSeatModel" 45 ∈ ab_good ∧ Cond.initialized "SeasonSeatModel" ∈ ab_good := ⟨ab_gm 1290 (by decide +kernel) rfl, ab_gm 10 (by decide +kernel) rfl⟩
theorem L_law_12 : ab_ML "SeasonSeatLaw" 12 M_m_init.1 := Or.inl (ab_gm 1291 (by decide +kernel) rfl)
theorem L_m_7 : Cond.methodLink "SeasonSeatModel" 7 objectInit ∈ ab_good := ab_gm 1294 (by decide +kernel) rfl
theorem C_m_42 : Cond.constant "SeasonSeatModel" 42 (160000) ∈ ab_good := ab_gm 1295 (by decide +kernel) rfl
theorem C_m_49 : Cond.constant "SeasonSeatModel" 49 (60000) ∈ ab_good := ab_gm 1296 (by decide +kernel) rfl
theorem L_m_93 : ab_ML "SeasonSeatModel" 93 M_m_plain.1 := Or.inl (ab_gm 1297 (by decide +kernel) rfl)
theorem F_m_1 : ab_FL "SeasonSeatModel" 1 12 0 false := ⟨_, _, _, rfl, by decide, rfl, Or.inl ⟨ab_gm 1300 (by decide +kernel) rfl, fun h => by cases h⟩⟩
theorem F_m_13 : ab_FL "SeasonSeatModel" 13 12 1 true := ⟨_, _, _, rfl, by decide, rfl, Or.inl ⟨ab_gm 1301 (by decide +kernel) rfl, fun _ => rfl⟩⟩
theorem FN_m_13 : ∀ host : String, ∀ O n dd, Cond.fieldLinkNest "SeasonSeatModel" 13 O n dd host ∉ ab_nest := ab_nestno (by decide +kernel)
theorem F_m_17 : ab_FL "SeasonSeatModel" 17 12 2 true := ⟨_, _, _, rfl, by decide, rfl, Or.inl ⟨ab_gm 1302 (by decide +kernel) rfl, fun _ => rfl⟩⟩
theorem FN_m_17 : ∀ host : String, ∀ O n dd, Cond.fieldLinkNest "SeasonSeatModel" 17 O n dd host ∉ ab_nest := ab_nestno (by decide +kernel)
theorem F_m_21 : ab_FL "SeasonSeatModel" 21 12 3 true := ⟨_, _, _, rfl, by decide, rfl, Or.inl ⟨ab_gm 1303 (by decide +kernel) rfl, fun _ => rfl⟩⟩
theorem FN_m_21 : ∀ host : String, ∀ O n dd, Cond.fieldLinkNest "SeasonSeatModel" 21 O n dd host ∉ ab_nest := ab_nestno (by decide +kernel)
theorem F_m_24 : ab_FL "SeasonSeatModel" 24 12 4 true := ⟨_, _, _, rfl, by decide, rfl, Or.inl ⟨ab_gm 1304 (by decide +kernel) rfl, fun _ => rfl⟩⟩
theorem FN_m_24 : ∀ host : String, ∀ O n dd, Cond.fieldLinkNest "SeasonSeatModel" 24 O n dd host ∉ ab_nest := ab_nestno (by decide +kernel)
theorem F_m_97 : ab_FL "SeasonSeatModel" 97 12 5 false := ⟨_, _, _, rfl, by decide, rfl, Or.inl ⟨ab_gm 1305 (by decide +kernel) rfl, fun h => by cases h⟩⟩
theorem F_m_115 : ab_FL "SeasonSeatModel" 115 12 6 false := ⟨_, _, _, rfl, by decide, rfl, Or.inl ⟨ab_gm 1306 (by decide +kernel) rfl, fun h => by cases h⟩⟩
theorem F_m_118 : ab_FL "SeasonSeatModel" 118 12 7 false := ⟨_, _, _, rfl, by decide, rfl, Or.inl ⟨ab_gm 1307 (by decide +kernel) rfl, fun h => by cases h⟩⟩
theorem F_m_100 : ab_FL "SeasonSeatModel" 100 12 8 false := ⟨_, _, _, rfl, by decide, rfl, Or.inl ⟨ab_gm 1308 (by decide +kernel) rfl, fun h => by cases h⟩⟩
theorem F_m_125 : ab_FL "SeasonSeatModel" 125 12 9 false := ⟨_, _, _, rfl, by decide, rfl, Or.inl ⟨ab_gm 1309 (by decide +kernel) rfl, fun h => by cases h⟩⟩
theorem F_m_138 : ab_FL "SeasonSeatModel" 138 12 10 false := ⟨_, _, _, rfl, by decide, rfl, Or.inl ⟨ab_gm 1310 (by decide +kernel) rfl, fun h => by cases h⟩⟩
theorem F_m_143 : ab_FL "SeasonSeatModel" 143 12 11 false := ⟨_, _, _, rfl, by decide, rfl, Or.inl ⟨ab_gm 1311 (by decide +kernel) rfl, fun h => by cases h⟩⟩
theorem F_m_146 : ab_FL "SeasonSeatModel" 146 12 12 false := ⟨_, _, _, rfl, by decide, rfl, Or.inl ⟨ab_gm 1312 (by decide +kernel) rfl, fun h => by cases h⟩⟩
theorem F_m_222 : ab_FL "SeasonSeatModel" 222 12 13 false := ⟨_, _, _, rfl, by decide, rfl, Or.inl ⟨ab_gm 1313 (by decide +kernel) rfl, fun h => by cases h⟩⟩
theorem F_m_27 : ab_FL "SeasonSeatModel" 27 12 14 false := ⟨_, _, _, rfl, by decide, rfl, Or.inl ⟨ab_gm 1314 (by decide +kernel) rfl, fun h => by cases h⟩⟩
theorem F_m_163 : ab_FL "SeasonSeatModel" 163 12 15 false := ⟨_, _, _, rfl, by decide, rfl, Or.inl ⟨ab_gm 1315 (by decide +kernel) rfl, fun h => by cases h⟩⟩
theorem F_m_30 : ab_FL "SeasonSeatModel" 30 12 16 true := ⟨_, _, _, rfl, by decide, rfl, Or.inl ⟨ab_gm 1316 (by decide +kernel) rfl, fun _ => rfl⟩⟩
theorem FN_m_30 : ∀ host : String, ∀ O n dd, Cond.fieldLinkNest "SeasonSeatModel" 30 O n dd host ∉ ab_nest := ab_nestno (by decide +kernel)
theorem F_m_33 : ab_FL "SeasonSeatModel" 33 12 17 true := ⟨_, _, _, rfl, by decide, rfl, Or.inl ⟨ab_gm 1317 (by decide +kernel) rfl, fun _ => rfl⟩⟩
theorem FN_m_33 : ∀ host : String, ∀ O n dd, Cond.fieldLinkNest "SeasonSeatModel" 33 O n dd host ∉ ab_nest := ab_nestno (by decide +kernel)
theorem F_m_36 : ab_FL "SeasonSeatModel" 36 12 18 true := ⟨_, _, _, rfl, by decide, rfl, Or.inl ⟨ab_gm 1318 (by decide +kernel) rfl, fun _ => rfl⟩⟩
theorem FN_m_36 : ∀ host : String, ∀ O n dd, Cond.fieldLinkNest "SeasonSeatModel" 36 O n dd host ∉ ab_nest := ab_nestno (by decide +kernel)
theorem F_m_315 : ab_FL "SeasonSeatModel" 315 12 19 false := ⟨_, _, _, rfl, by decide, rfl, Or.inl ⟨ab_gm 1319 (by decide +kernel) rfl, fun h => by cases h⟩⟩
theorem F_m_338 : ab_FL "SeasonSeatModel" 338 12 20 false := ⟨_, _, _, rfl, by decide, rfl, Or.inl ⟨ab_gm 1320 (by decide +kernel) rfl, fun h => by cases h⟩⟩
theorem F_m_39 : ab_FL "SeasonSeatModel" 39 12 21 true := ⟨_, _, _, rfl, by decide, rfl, Or.inl ⟨ab_gm 1321 (by decide +kernel) rfl, fun _ => rfl⟩⟩
theorem FN_m_39 : ∀ host : String, ∀ O n dd, Cond.fieldLinkNest "SeasonSeatModel" 39 O n dd host ∉ ab_nest := ab_nestno (by decide +kernel)
theorem F_m_43 : ab_FL "SeasonSeatModel" 43 12 22 true := ⟨_, _, _, rfl, by decide, rfl, Or.inl ⟨ab_gm 1322 (by decide +kernel) rfl, fun _ => rfl⟩⟩
theorem FN_m_43 : ∀ host : String, ∀ O n dd, Cond.fieldLinkNest "SeasonSeatModel" 43 O n dd host ∉ ab_nest := ab_nestno (by decide +kernel)
theorem F_m_349 : ab_FL "SeasonSeatModel" 349 12 23 false := ⟨_, _, _, rfl, by decide, rfl, Or.inl ⟨ab_gm 1323 (by decide +kernel) rfl, fun h => by cases h⟩⟩
theorem F_m_352 : ab_FL "SeasonSeatModel" 352 12 24 false := ⟨_, _, _, rfl, by decide, rfl, Or.inl ⟨ab_gm 1324 (by decide +kernel) rfl, fun h => by cases h⟩⟩
theorem F_m_46 : ab_FL "SeasonSeatModel" 46 12 25 true := ⟨_, _, _, rfl, by decide, rfl, Or.inl ⟨ab_gm 1325 (by decide +kernel) rfl, fun _ => rfl⟩⟩
theorem FN_m_46 : ∀ host : String, ∀ O n dd, Cond.fieldLinkNest "SeasonSeatModel" 46 O n dd host ∉ ab_nest := ab_nestno (by decide +kernel)
theorem F_m_50 : ab_FL "SeasonSeatModel" 50 12 26 true := ⟨_, _, _, rfl, by decide, rfl, Or.inl ⟨ab_gm 1326 (by decide +kernel) rfl, fun _ => rfl⟩⟩
theorem FN_m_50 : ∀ host : String, ∀ O n dd, Cond.fieldLinkNest "SeasonSeatModel" 50 O n dd host ∉ ab_nest := ab_nestno (by decide +kernel)
theorem F_m_53 : ab_FL "SeasonSeatModel" 53 12 27 true := ⟨_, _, _, rfl, by decide, rfl, Or.inl ⟨ab_gm 1327 (by decide +kernel) rfl, fun _ => rfl⟩⟩
theorem FN_m_53 : ∀ host : String, ∀ O n dd, Cond.fieldLinkNest "SeasonSeatModel" 53 O n dd host ∉ ab_nest := ab_nestno (by decide +kernel)
theorem F_m_56 : ab_FL "SeasonSeatModel" 56 12 28 true := ⟨_, _, _, rfl, by decide, rfl, Or.inl ⟨ab_gm 1328 (by decide +kernel) rfl, fun _ => rfl⟩⟩
theorem FN_m_56 : ∀ host : String, ∀ O n dd, Cond.fieldLinkNest "SeasonSeatModel" 56 O n dd host ∉ ab_nest := ab_nestno (by decide +kernel)
theorem F_m_368 : ab_FL "SeasonSeatModel" 368 12 29 false := ⟨_, _, _, rfl, by decide, rfl, Or.inl ⟨ab_gm 1329 (by decide +kernel) rfl, fun h => by cases h⟩⟩
theorem F_m_59 : ab_FL "SeasonSeatModel" 59 12 30 true := ⟨_, _, _, rfl, by decide, rfl, Or.inl ⟨ab_gm 1330 (by decide +kernel) rfl, fun _ => rfl⟩⟩
theorem FN_m_59 : ∀ host : String, ∀ O n dd, Cond.fieldLinkNest "SeasonSeatModel" 59 O n dd host ∉ ab_nest := ab_nestno (by decide +kernel)
theorem F_m_63 : ab_FL "SeasonSeatModel" 63 12 31 true := ⟨_, _, _, rfl, by decide, rfl, Or.inl ⟨ab_gm 1331 (by decide +kernel) rfl, fun _ => rfl⟩⟩
theorem FN_m_63 : ∀ host : String, ∀ O n dd, Cond.fieldLinkNest "SeasonSeatModel" 63 O n dd host ∉ ab_nest := ab_nestno (by decide +kernel)
theorem F_m_66 : ab_FL "SeasonSeatModel" 66 12 32 true := ⟨_, _, _, rfl, by decide, rfl, Or.inl ⟨ab_gm 1332 (by decide +kernel) rfl, fun _ => rfl⟩⟩
theorem FN_m_66 : ∀ host : String, ∀ O n dd, Cond.fieldLinkNest "SeasonSeatModel" 66 O n dd host ∉ ab_nest := ab_nestno (by decide +kernel)
theorem F_m_69 : ab_FL "SeasonSeatModel" 69 12 33 true := ⟨_, _, _, rfl, by decide, rfl, Or.inl ⟨ab_gm 1333 (by decide +kernel) rfl, fun _ => rfl⟩⟩
theorem FN_m_69 : ∀ host : String, ∀ O n dd, Cond.fieldLinkNest "SeasonSeatModel" 69 O n dd host ∉ ab_nest := ab_nestno (by decide +kernel)
theorem F_m_394 : ab_FL "SeasonSeatModel" 394 12 34 false := ⟨_, _, _, rfl, by decide, rfl, Or.inl ⟨ab_gm 1334 (by decide +kernel) rfl, fun h => by cases h⟩⟩
theorem F_m_397 : ab_FL "SeasonSeatModel" 397 12 35 false := ⟨_, _, _, rfl, by decide, rfl, Or.inl ⟨ab_gm 1335 (by decide +kernel) rfl, fun h => by cases h⟩⟩
theorem F_m_72 : ab_FL "SeasonSeatModel" 72 12 36 true := ⟨_, _, _, rfl, by decide, rfl, Or.inl ⟨ab_gm 1336 (by decide +kernel) rfl, fun _ => rfl⟩⟩
theorem FN_m_72 : ∀ host : String, ∀ O n dd, Cond.fieldLinkNest "SeasonSeatModel" 72 O n dd host ∉ ab_nest := ab_nestno (by decide +kernel)
theorem F_m_75 : ab_FL "SeasonSeatModel" 75 12 37 true := ⟨_, _, _, rfl, by decide, rfl, Or.inl ⟨ab_gm 1337 (by decide +kernel) rfl, fun _ => rfl⟩⟩
theorem FN_m_75 : ∀ host : String, ∀ O n dd, Cond.fieldLinkNest "SeasonSeatModel" 75 O n dd host ∉ ab_nest := ab_nestno (by decide +kernel)
theorem F_m_78 : ab_FL "SeasonSeatModel" 78 12 38 true := ⟨_, _, _, rfl, by decide, rfl, Or.inl ⟨ab_gm 1338 (by decide +kernel) rfl, fun _ => rfl⟩⟩
theorem FN_m_78 : ∀ host : String, ∀ O n dd, Cond.fieldLinkNest "SeasonSeatModel" 78 O n dd host ∉ ab_nest := ab_nestno (by decide +kernel)
theorem F_m_81 : ab_FL "SeasonSeatModel" 81 12 39 true := ⟨_, _, _, rfl, by decide, rfl, Or.inl ⟨ab_gm 1339 (by decide +kernel) rfl, fun _ => rfl⟩⟩
theorem FN_m_81 : ∀ host : String, ∀ O n dd, Cond.fieldLinkNest "SeasonSeatModel" 81 O n dd host ∉ ab_nest := ab_nestno (by decide +kernel)
theorem F_m_445 : ab_FL "SeasonSeatModel" 445 12 40 false := ⟨_, _, _, rfl, by decide, rfl, Or.inl ⟨ab_gm 1340 (by decide +kernel) rfl, fun h => by cases h⟩⟩
theorem F_m_449 : ab_FL "SeasonSeatModel" 449 12 41 false := ⟨_, _, _, rfl, by decide, rfl, Or.inl ⟨ab_gm 1341 (by decide +kernel) rfl, fun h => by cases h⟩⟩
theorem F_m_84 : ab_FL "SeasonSeatModel" 84 12 42 true := ⟨_, _, _, rfl, by decide, rfl, Or.inl ⟨ab_gm 1342 (by decide +kernel) rfl, fun _ => rfl⟩⟩
theorem FN_m_84 : ∀ host : String, ∀ O n dd, Cond.fieldLinkNest "SeasonSeatModel" 84 O n dd host ∉ ab_nest := ab_nestno (by decide +kernel)
theorem F_m_87 : ab_FL "SeasonSeatModel" 87 12 43 true := ⟨_, _, _, rfl, by decide, rfl, Or.inl ⟨ab_gm 1343 (by decide +kernel) rfl, fun _ => rfl⟩⟩
theorem FN_m_87 : ∀ host : String, ∀ O n dd, Cond.fieldLinkNest "SeasonSeatModel" 87 O n dd host ∉ ab_nest := ab_nestno (by decide +kernel)
theorem F_m_90 : ab_FL "SeasonSeatModel" 90 12 44 true := ⟨_, _, _, rfl, by decide, rfl, Or.inl ⟨ab_gm 1344 (by decide +kernel) rfl, fun _ => rfl⟩⟩
theorem FN_m_90 : ∀ host : String, ∀ O n dd, Cond.fieldLinkNest "SeasonSeatModel" 90 O n dd host ∉ ab_nest := ab_nestno (by decide +kernel)
theorem L_law_17 : ab_ML "SeasonSeatLaw" 17 M_m_feed.1 := Or.inl (ab_gm 1437 (by decide +kernel) rfl)
theorem L_law_22 : ab_ML "SeasonSeatLaw" 22 M_m_train.1 := Or.inl (ab_gm 1441 (by decide +kernel) rfl)
theorem L_m_159 : ab_ML "SeasonSeatModel" 159 M_m_within.1 := Or.inl (ab_gm 1445 (by decide +kernel) rfl)
theorem L_m_152 : ab_ML "SeasonSeatModel" 152 M_m_next.1 := Or.inl (ab_gm 1448 (by decide +kernel) rfl)
theorem L_m_121 : ab_ML "SeasonSeatModel" 121 M_m_see.1 := Or.inl (ab_gm 1452 (by decide +kernel) rfl)
theorem L_m_128 : ab_ML "SeasonSeatModel" 128 M_m_isSmall.1 := Or.inl (ab_gm 1456 (by decide +kernel) rfl)
theorem L_m_132 : ab_ML "SeasonSeatModel" 132 M_m_keyAt.1 := Or.inl (ab_gm 1459 (by decide +kernel) rfl)
theorem L_m_105 : ab_ML "SeasonSeatModel" 105 M_jS_length.1 := Or.inl (ab_gm 1464 (by decide +kernel) rfl)
theorem L_m_111 : ab_ML "SeasonSeatModel" 111 M_jS_charAt.1 := Or.inl (ab_gm 1465 (by decide +kernel) rfl)
theorem L_m_135 : ab_ML "SeasonSeatModel" 135 M_m_isDigit.1 := Or.inl (ab_gm 1466 (by decide +kernel) rfl)
theorem L_m_178 : ab_ML "SeasonSeatModel" 178 M_m_eats.1 := Or.inl (ab_gm 1470 (by decide +kernel) rfl)
theorem L_m_149 : ab_ML "SeasonSeatModel" 149 M_m_is.1 := Or.inl (ab_gm 1474 (by decide +kernel) rfl)
theorem L_m_155 : ab_ML "SeasonSeatModel" 155 M_m_fails.1 := Or.inl (ab_gm 1478 (by decide +kernel) rfl)
theorem L_m_203 : ab_ML "SeasonSeatModel" 203 M_m_named.1 := Or.inl (ab_gm 1482 (by decide +kernel) rfl)
theorem L_m_199 : ab_ML "SeasonSeatModel" 199 M_m_takes.1 := Or.inl (ab_gm 1486 (by decide +kernel) rfl)
theorem L_m_216 : ab_ML "SeasonSeatModel" 216 M_m_closes.1 := Or.inl (ab_gm 1490 (by decide +kernel) rfl)
theorem L_m_219 : ab_ML "SeasonSeatModel" 219 M_m_readLine.1 := Or.inl (ab_gm 1494 (by decide +kernel) rfl)
theorem L_m_210 : ab_ML "SeasonSeatModel" 210 M_m_readRider.1 := Or.inl (ab_gm 1498 (by decide +kernel) rfl)
theorem L_m_207 : ab_ML "SeasonSeatModel" 207 M_m_readFlag.1 := Or.inl (ab_gm 1502 (by decide +kernel) rfl)
theorem L_m_213 : ab_ML "SeasonSeatModel" 213 M_m_readLaw.1 := Or.inl (ab_gm 1506 (by decide +kernel) rfl)
theorem L_m_175 : ab_ML "SeasonSeatModel" 175 M_m_readSum.1 := Or.inl (ab_gm 1510 (by decide +kernel) rfl)
theorem L_m_190 : ab_ML "SeasonSeatModel" 190 M_m_readTerm.1 := Or.inl (ab_gm 1514 (by decide +kernel) rfl)
theorem L_m_187 : ab_ML "SeasonSeatModel" 187 M_m_readAtom.1 := Or.inl (ab_gm 1518 (by decide +kernel) rfl)
theorem L_m_166 : ab_ML "SeasonSeatModel" 166 M_m_codes.1 := Or.inl (ab_gm 1522 (by decide +kernel) rfl)
theorem L_m_169 : ab_ML "SeasonSeatModel" 169 M_m_wordOf.1 := Or.inl (ab_gm 1526 (by decide +kernel) rfl)
theorem L_m_172 : ab_ML "SeasonSeatModel" 172 M_m_goesIn.1 := Or.inl (ab_gm 1530 (by decide +kernel) rfl)
theorem L_m_181 : ab_ML "SeasonSeatModel" 181 M_m_readIf.1 := Or.inl (ab_gm 1534 (by decide +kernel) rfl)
theorem L_m_184 : ab_ML "SeasonSeatModel" 184 M_m_readTruth.1 := Or.inl (ab_gm 1538 (by decide +kernel) rfl)
theorem L_m_196 : ab_ML "SeasonSeatModel" 196 M_m_readBoth.1 := Or.inl (ab_gm 1542 (by decide +kernel) rfl)
theorem L_m_193 : ab_ML "SeasonSeatModel" 193 M_m_readUnit.1 := Or.inl (ab_gm 1546 (by decide +kernel) rfl)
theorem L_law_26 : ab_ML "SeasonSeatLaw" 26 M_m_fault.1 := Or.inl (ab_gm 1550 (by decide +kernel) rfl)
theorem L_law_31 : ab_ML "SeasonSeatLaw" 31 M_m_rider.1 := Or.inl (ab_gm 1554 (by decide +kernel) rfl)
theorem L_m_258 : ab_ML "SeasonSeatModel" 258 M_m_isRider.1 := Or.inl (ab_gm 1558 (by decide +kernel) rfl)
theorem C_m_262 : Cond.constantLong "SeasonSeatModel" 262 (10) ∈ ab_good := ab_gm 1562 (by decide +kernel) rfl
theorem C_m_264 : Cond.constantLong "SeasonSeatModel" 264 (13) ∈ ab_good := ab_gm 1563 (by decide +kernel) rfl
theorem L_law_35 : ab_ML "SeasonSeatLaw" 35 M_m_seat.1 := Or.inl (ab_gm 1564 (by decide +kernel) rfl)
theorem L_m_266 : ab_ML "SeasonSeatModel" 266 M_m_standNow.1 := Or.inl (ab_gm 1568 (by decide +kernel) rfl)
theorem L_m_225 : ab_ML "SeasonSeatModel" 225 M_m_placeOf.1 := Or.inl (ab_gm 1572 (by decide +kernel) rfl)
theorem L_m_245 : ab_ML "SeasonSeatModel" 245 M_m_sitting.1 := Or.inl (ab_gm 1575 (by decide +kernel) rfl)
theorem L_m_231 : ab_ML "SeasonSeatModel" 231 M_m_seatIn.1 := Or.inl (ab_gm 1579 (by decide +kernel) rfl)
theorem L_law_39 : ab_ML "SeasonSeatLaw" 39 M_m_why.1 := Or.inl (ab_gm 1582 (by decide +kernel) rfl)
theorem L_m_269 : ab_ML "SeasonSeatModel" 269 M_m_whyStop.1 := Or.inl (ab_gm 1586 (by decide +kernel) rfl)
theorem L_m_248 : ab_ML "SeasonSeatModel" 248 M_m_mayGo.1 := Or.inl (ab_gm 1590 (by decide +kernel) rfl)
theorem L_m_241 : ab_ML "SeasonSeatModel" 241 M_m_reckons.1 := Or.inl (ab_gm 1594 (by decide +kernel) rfl)
theorem L_m_228 : ab_ML "SeasonSeatModel" 228 M_m_warmthIn.1 := Or.inl (ab_gm 1598 (by decide +kernel) rfl)
theorem L_m_238 : ab_ML "SeasonSeatModel" 238 M_m_between.1 := Or.inl (ab_gm 1601 (by decide +kernel) rfl)
theorem C_m_234 : Cond.constantLong "SeasonSeatModel" 234 (1000000) ∈ ab_good := ab_gm 1604 (by decide +kernel) rfl
theorem C_m_236 : Cond.constantLong "SeasonSeatModel" 236 (-1000000) ∈ ab_good := ab_gm 1605 (by decide +kernel) rfl
theorem L_law_43 : ab_ML "SeasonSeatLaw" 43 M_m_by.1 := Or.inl (ab_gm 1606 (by decide +kernel) rfl)
theorem L_m_273 : ab_ML "SeasonSeatModel" 273 M_m_stopTo.1 := Or.inl (ab_gm 1610 (by decide +kernel) rfl)
theorem L_m_252 : ab_ML "SeasonSeatModel" 252 M_m_warmsTo.1 := Or.inl (ab_gm 1614 (by decide +kernel) rfl)
theorem L_m_255 : ab_ML "SeasonSeatModel" 255 M_m_withWarmth.1 := Or.inl (ab_gm 1618 (by decide +kernel) rfl)
theorem L_law_47 : ab_ML "SeasonSeatLaw" 47 M_m_stop.1 := Or.inl (ab_gm 1621 (by decide +kernel) rfl)
theorem L_m_279 : ab_ML "SeasonSeatModel" 279 M_m_stores.1 := Or.inl (ab_gm 1625 (by decide +kernel) rfl)
theorem L_m_282 : ab_ML "SeasonSeatModel" 282 M_m_goesStop.1 := Or.inl (ab_gm 1629 (by decide +kernel) rfl)
theorem L_m_276 : ab_ML "SeasonSeatModel" 276 M_m_isStand.1 := Or.inl (ab_gm 1633 (by decide +kernel) rfl)
theorem L_m_285 : ab_ML "SeasonSeatModel" 285 M_m_notes.1 := Or.inl (ab_gm 1637 (by decide +kernel) rfl)
theorem L_m_288 : ab_ML "SeasonSeatModel" 288 M_m_leastIn.1 := Or.inl (ab_gm 1641 (by decide +kernel) rfl)
theorem L_law_51 : ab_ML "SeasonSeatLaw" 51 M_m_stops.1 := Or.inl (ab_gm 1645 (by decide +kernel) rfl)
theorem C_m_291 : Cond.constantLong "SeasonSeatModel" 291 (99) ∈ ab_good := ab_gm 1649 (by decide +kernel) rfl
theorem L_law_55 : ab_ML "SeasonSeatLaw" 55 M_m_give.1 := Or.inl (ab_gm 1650 (by decide +kernel) rfl)
theorem L_m_293 : ab_ML "SeasonSeatModel" 293 M_m_areTwo.1 := Or.inl (ab_gm 1654 (by decide +kernel) rfl)
theorem L_m_297 : ab_ML "SeasonSeatModel" 297 M_m_givesOn.1 := Or.inl (ab_gm 1658 (by decide +kernel) rfl)
theorem L_law_59 : ab_ML "SeasonSeatLaw" 59 M_m_rug.1 := Or.inl (ab_gm 1662 (by decide +kernel) rfl)
theorem L_law_63 : ab_ML "SeasonSeatLaw" 63 M_m_month.1 := Or.inl (ab_gm 1666 (by decide +kernel) rfl)
theorem C_m_301 : Cond.constantLong "SeasonSeatModel" 301 (9) ∈ ab_good := ab_gm 1670 (by decide +kernel) rfl
theorem L_law_67 : ab_ML "SeasonSeatLaw" 67 M_m_undo.1 := Or.inl (ab_gm 1671 (by decide +kernel) rfl)
theorem L_law_71 : ab_ML "SeasonSeatLaw" 71 M_m_judge.1 := Or.inl (ab_gm 1675 (by decide +kernel) rfl)
theorem C_m_303 : Cond.constantLong "SeasonSeatModel" 303 (3) ∈ ab_good := ab_gm 1679 (by decide +kernel) rfl
theorem L_m_325 : ab_ML "SeasonSeatModel" 325 M_m_noTray.1 := Or.inl (ab_gm 1680 (by decide +kernel) rfl)
theorem L_m_328 : ab_ML "SeasonSeatModel" 328 M_m_tells.1 := Or.inl (ab_gm 1684 (by decide +kernel) rfl)
theorem L_m_318 : ab_ML "SeasonSeatModel" 318 M_m_whyNot.1 := Or.inl (ab_gm 1688 (by decide +kernel) rfl)
theorem C_m_305 : Cond.constantLong "SeasonSeatModel" 305 (19) ∈ ab_good := ab_gm 1692 (by decide +kernel) rfl
theorem C_m_307 : Cond.constantLong "SeasonSeatModel" 307 (20) ∈ ab_good := ab_gm 1693 (by decide +kernel) rfl
theorem C_m_309 : Cond.constantLong "SeasonSeatModel" 309 (29) ∈ ab_good := ab_gm 1694 (by decide +kernel) rfl
theorem C_m_311 : Cond.constantLong "SeasonSeatModel" 311 (100) ∈ ab_good := ab_gm 1695 (by decide +kernel) rfl
theorem C_m_313 : Cond.constantLong "SeasonSeatModel" 313 (199) ∈ ab_good := ab_gm 1696 (by decide +kernel) rfl
theorem L_m_322 : ab_ML "SeasonSeatModel" 322 M_m_does.1 := Or.inl (ab_gm 1697 (by decide +kernel) rfl)
theorem L_m_331 : ab_ML "SeasonSeatModel" 331 M_m_isAgain.1 := Or.inl (ab_gm 1701 (by decide +kernel) rfl)
theorem L_m_334 : ab_ML "SeasonSeatModel" 334 M_m_sumIn.1 := Or.inl (ab_gm 1705 (by decide +kernel) rfl)
theorem L_law_75 : ab_ML "SeasonSeatLaw" 75 M_m_perform.1 := Or.inl (ab_gm 1709 (by decide +kernel) rfl)
theorem L_law_79 : ab_ML "SeasonSeatLaw" 79 M_m_journey.1 := Or.inl (ab_gm 1713 (by decide +kernel) rfl)
theorem C_m_344 : Cond.constantLong "SeasonSeatModel" 344 (40) ∈ ab_good := ab_gm 1717 (by decide +kernel) rfl
theorem L_m_346 : ab_ML "SeasonSeatModel" 346 M_m_drawn.1 := Or.inl (ab_gm 1718 (by decide +kernel) rfl)
theorem L_m_341 : ab_ML "SeasonSeatModel" 341 M_m_draw.1 := Or.inl (ab_gm 1722 (by decide +kernel) rfl)
theorem C_m_337 : Cond.constant "SeasonSeatModel" 337 (1103515245) ∈ ab_good := ab_gm 1726 (by decide +kernel) rfl
theorem L_law_83 : ab_ML "SeasonSeatLaw" 83 M_m_lies.1 := Or.inl (ab_gm 1727 (by decide +kernel) rfl)
theorem C_m_355 : Cond.constantLong "SeasonSeatModel" 355 (99999) ∈ ab_good := ab_gm 1731 (by decide +kernel) rfl
theorem L_m_357 : ab_ML "SeasonSeatModel" 357 M_m_laysRow.1 := Or.inl (ab_gm 1732 (by decide +kernel) rfl)
theorem L_m_360 : ab_ML "SeasonSeatModel" 360 M_m_standAt.1 := Or.inl (ab_gm 1736 (by decide +kernel) rfl)
theorem L_law_87 : ab_ML "SeasonSeatLaw" 87 M_m_round.1 := Or.inl (ab_gm 1740 (by decide +kernel) rfl)
theorem L_law_91 : ab_ML "SeasonSeatLaw" 91 M_m_when.1 := Or.inl (ab_gm 1744 (by decide +kernel) rfl)
theorem L_m_365 : ab_ML "SeasonSeatModel" 365 M_m_isWarm.1 := Or.inl (ab_gm 1748 (by decide +kernel) rfl)
theorem C_m_363 : Cond.constantLong "SeasonSeatModel" 363 (4) ∈ ab_good := ab_gm 1751 (by decide +kernel) rfl
theorem L_law_95 : ab_ML "SeasonSeatLaw" 95 M_m_soonest.1 := Or.inl (ab_gm 1752 (by decide +kernel) rfl)
theorem L_m_381 : ab_ML "SeasonSeatModel" 381 M_m_laysFar.1 := Or.inl (ab_gm 1756 (by decide +kernel) rfl)
theorem L_m_375 : ab_ML "SeasonSeatModel" 375 M_m_laysStands.1 := Or.inl (ab_gm 1760 (by decide +kernel) rfl)
theorem L_m_371 : ab_ML "SeasonSeatModel" 371 M_m_adds.1 := Or.inl (ab_gm 1764 (by decide +kernel) rfl)
theorem C_m_374 : Cond.constant "SeasonSeatModel" 374 (268435456) ∈ ab_good := ab_gm 1768 (by decide +kernel) rfl
theorem L_m_378 : ab_ML "SeasonSeatModel" 378 M_m_farBy.1 := Or.inl (ab_gm 1769 (by decide +kernel) rfl)
theorem L_m_384 : ab_ML "SeasonSeatModel" 384 M_m_toldFar.1 := Or.inl (ab_gm 1773 (by decide +kernel) rfl)
theorem L_law_99 : ab_ML "SeasonSeatLaw" 99 M_m_way.1 := Or.inl (ab_gm 1776 (by decide +kernel) rfl)
theorem L_law_104 : ab_ML "SeasonSeatLaw" 104 M_m_rows.1 := Or.inl (ab_gm 1780 (by decide +kernel) rfl)
theorem C_m_387 : Cond.constantLong "SeasonSeatModel" 387 (12) ∈ ab_good := ab_gm 1784 (by decide +kernel) rfl
theorem C_m_389 : Cond.constantLong "SeasonSeatModel" 389 (-3) ∈ ab_good := ab_gm 1785 (by decide +kernel) rfl
theorem L_law_108 : ab_ML "SeasonSeatLaw" 108 M_m_keeps.1 := Or.inl (ab_gm 1786 (by decide +kernel) rfl)
theorem L_m_391 : ab_ML "SeasonSeatModel" 391 M_m_keptBy.1 := Or.inl (ab_gm 1790 (by decide +kernel) rfl)
theorem L_law_112 : ab_ML "SeasonSeatLaw" 112 M_m_most.1 := Or.inl (ab_gm 1794 (by decide +kernel) rfl)
theorem L_law_117 : ab_ML "SeasonSeatLaw" 117 M_m_stands.1 := Or.inl (ab_gm 1798 (by decide +kernel) rfl)
theorem L_law_121 : ab_ML "SeasonSeatLaw" 121 M_m_placing.1 := Or.inl (ab_gm 1802 (by decide +kernel) rfl)
theorem L_m_404 : ab_ML "SeasonSeatModel" 404 M_m_goesPlace.1 := Or.inl (ab_gm 1806 (by decide +kernel) rfl)
theorem L_m_400 : ab_ML "SeasonSeatModel" 400 M_m_isIn.1 := Or.inl (ab_gm 1810 (by decide +kernel) rfl)
theorem L_law_125 : ab_ML "SeasonSeatLaw" 125 M_m_trades.1 := Or.inl (ab_gm 1813 (by decide +kernel) rfl)
theorem L_m_417 : ab_ML "SeasonSeatModel" 417 M_m_laysTrades.1 := Or.inl (ab_gm 1817 (by decide +kernel) rfl)
theorem L_m_411 : ab_ML "SeasonSeatModel" 411 M_m_pointing.1 := Or.inl (ab_gm 1821 (by decide +kernel) rfl)
theorem L_m_408 : ab_ML "SeasonSeatModel" 408 M_m_likesOf.1 := Or.inl (ab_gm 1825 (by decide +kernel) rfl)
theorem L_m_414 : ab_ML "SeasonSeatModel" 414 M_m_isOnRing.1 := Or.inl (ab_gm 1829 (by decide +kernel) rfl)
theorem L_law_129 : ab_ML "SeasonSeatLaw" 129 M_m_glad.1 := Or.inl (ab_gm 1833 (by decide +kernel) rfl)
theorem L_law_133 : ab_ML "SeasonSeatLaw" 133 M_m_seasons.1 := Or.inl (ab_gm 1837 (by decide +kernel) rfl)
theorem L_m_424 : ab_ML "SeasonSeatModel" 424 M_m_noFelt.1 := Or.inl (ab_gm 1841 (by decide +kernel) rfl)
theorem L_m_427 : ab_ML "SeasonSeatModel" 427 M_m_seasonsOf.1 := Or.inl (ab_gm 1845 (by decide +kernel) rfl)
theorem L_m_420 : ab_ML "SeasonSeatModel" 420 M_m_isFelt.1 := Or.inl (ab_gm 1849 (by decide +kernel) rfl)
theorem L_law_137 : ab_ML "SeasonSeatLaw" 137 M_m_months.1 := Or.inl (ab_gm 1853 (by decide +kernel) rfl)
theorem L_law_141 : ab_ML "SeasonSeatLaw" 141 M_m_attempt.1 := Or.inl (ab_gm 1857 (by decide +kernel) rfl)
theorem L_m_430 : ab_ML "SeasonSeatModel" 430 M_m_mostAlike.1 := Or.inl (ab_gm 1861 (by decide +kernel) rfl)
theorem L_law_145 : ab_ML "SeasonSeatLaw" 145 M_m_forces.1 := Or.inl (ab_gm 1865 (by decide +kernel) rfl)
theorem L_m_439 : ab_ML "SeasonSeatModel" 439 M_m_noForce.1 := Or.inl (ab_gm 1869 (by decide +kernel) rfl)
theorem L_m_442 : ab_ML "SeasonSeatModel" 442 M_m_laysForce.1 := Or.inl (ab_gm 1873 (by decide +kernel) rfl)
theorem L_m_433 : ab_ML "SeasonSeatModel" 433 M_m_firstBy.1 := Or.inl (ab_gm 1877 (by decide +kernel) rfl)
theorem L_m_436 : ab_ML "SeasonSeatModel" 436 M_m_otherAt.1 := Or.inl (ab_gm 1881 (by decide +kernel) rfl)
theorem L_law_149 : ab_ML "SeasonSeatLaw" 149 M_m_best.1 := Or.inl (ab_gm 1885 (by decide +kernel) rfl)
theorem L_law_154 : ab_ML "SeasonSeatLaw" 154 M_m_chance.1 := Or.inl (ab_gm 1889 (by decide +kernel) rfl)
theorem C_m_460 : Cond.constantLong "SeasonSeatModel" 460 (6) ∈ ab_good := ab_gm 1893 (by decide +kernel) rfl
theorem L_m_462 : ab_ML "SeasonSeatModel" 462 M_m_laysLots.1 := Or.inl (ab_gm 1894 (by decide +kernel) rfl)
theorem L_m_452 : ab_ML "SeasonSeatModel" 452 M_m_goesLots.1 := Or.inl (ab_gm 1898 (by decide +kernel) rfl)
theorem L_m_465 : ab_ML "SeasonSeatModel" 465 M_m_wholeOf.1 := Or.inl (ab_gm 1902 (by decide +kernel) rfl)
theorem L_m_469 : ab_ML "SeasonSeatModel" 469 M_m_part.1 := Or.inl (ab_gm 1905 (by decide +kernel) rfl)
theorem L_m_456 : ab_ML "SeasonSeatModel" 456 M_m_common.1 := Or.inl (ab_gm 1908 (by decide +kernel) rfl)
theorem L_law_158 : ab_ML "SeasonSeatLaw" 158 M_m_mean.1 := Or.inl (ab_gm 1911 (by decide +kernel) rfl)
theorem L_law_162 : ab_ML "SeasonSeatLaw" 162 M_m_numbers.1 := Or.inl (ab_gm 1915 (by decide +kernel) rfl)
theorem L_law_169 : ab_ML "SeasonSeatLaw" 169 M_m_write.1 := Or.inl (ab_gm 1919 (by decide +kernel) rfl)
theorem C_m_473 : Cond.constantLong "SeasonSeatModel" 473 (-7) ∈ ab_good := ab_gm 1923 (by decide +kernel) rfl
theorem L_m_475 : ab_ML "SeasonSeatModel" 475 M_m_cut.1 := Or.inl (ab_gm 1924 (by decide +kernel) rfl)
theorem L_law_173 : ab_ML "SeasonSeatLaw" 173 M_m_lists.1 := Or.inl (ab_gm 1927 (by decide +kernel) rfl)
theorem L_law_177 : ab_ML "SeasonSeatLaw" 177 M_m_image.1 := Or.inl (ab_gm 1931 (by decide +kernel) rfl)
theorem L_law_181 : ab_ML "SeasonSeatLaw" 181 M_m_restore.1 := Or.inl (ab_gm 1935 (by decide +kernel) rfl)
theorem L_law_185 : ab_ML "SeasonSeatLaw" 185 M_m_count.1 := Or.inl (ab_gm 1939 (by decide +kernel) rfl)
theorem L_m_479 : ab_ML "SeasonSeatModel" 479 M_m_elsewhere.1 := Or.inl (ab_gm 1943 (by decide +kernel) rfl)
theorem C_law_163 : Cond.constantLong "SeasonSeatLaw" 163 (4294967295) ∈ ab_good := ab_gm 1947 (by decide +kernel) rfl
theorem F_jS_15 : Cond.fieldLink "java/lang/String" 15 "java/lang/String" "coder" "B" ∈ ab_good := ab_gm 1948 (by decide +kernel) rfl
theorem F_jS_9 : Cond.fieldLink "java/lang/String" 9 "java/lang/String" "value" "[B" ∈ ab_good := ab_gm 1949 (by decide +kernel) rfl
theorem A_int : Cond.arrayClass .int ∈ ab_good := ab_gm 89 (by decide +kernel) rfl
theorem A_byte : Cond.arrayClass .byte ∈ ab_good := ab_gm 88 (by decide +kernel) rfl
theorem A_long : Cond.arrayClass .long ∈ ab_good := ab_gm 318 (by decide +kernel) rfl
theorem A_boolean : Cond.arrayClass .boolean ∈ ab_good := ab_gm 1436 (by decide +kernel) rfl
theorem O_code : Cond.code objectInit ⟨#[0xb1]⟩ 1 none ∈ ab_good := ab_gm 29 (by decide +kernel) rfl
theorem O_inst : Cond.instanceMethod objectInit ∈ ab_good := ab_gm 28 (by decide +kernel) rfl
