/-! the law: its loop -/
theorem ml_L_13 : Cond.methodLink RL 13 yX8_courses ∈ gw_tbl := mw (i := 328) (by decide +kernel) (by decide +kernel)
theorem ml_L_17 : Cond.methodLink RL 17 yX9_courses ∈ gw_tbl := mw (i := 972) (by decide +kernel) (by decide +kernel)
theorem mv_X9_courses : MV yX9_courses 9 cX9_courses 3 (some .int) 1 := ⟨by decide, ⟨rfl, by decide, by decide, by decide +kernel⟩, mw (i := 973) (by decide +kernel) (by decide +kernel), mw (i := 974) (by decide +kernel) (by decide +kernel), mw (i := 10) (by decide +kernel) (by decide +kernel), mw (i := 975) (by decide +kernel) (by decide +kernel)⟩
theorem mv_X8_courses : MV yX8_courses 8 cX8_courses 3 (some .int) 1 := ⟨by decide, ⟨rfl, by decide, by decide, by decide +kernel⟩, mw (i := 329) (by decide +kernel) (by decide +kernel), mw (i := 330) (by decide +kernel) (by decide +kernel), mw (i := 1) (by decide +kernel) (by decide +kernel), mw (i := 331) (by decide +kernel) (by decide +kernel)⟩
theorem ml_L_18 : Cond.methodLink RL 18 yX8_tune ∈ gw_tbl := mw (i := 340) (by decide +kernel) (by decide +kernel)
theorem ml_L_22 : Cond.methodLink RL 22 yX9_tune ∈ gw_tbl := mw (i := 983) (by decide +kernel) (by decide +kernel)
theorem mv_X9_tune : MV yX9_tune 9 cX9_tune 4 (some .int) 2 := ⟨by decide, ⟨rfl, by decide, by decide, by decide +kernel⟩, mw (i := 984) (by decide +kernel) (by decide +kernel), mw (i := 985) (by decide +kernel) (by decide +kernel), mw (i := 10) (by decide +kernel) (by decide +kernel), mw (i := 986) (by decide +kernel) (by decide +kernel)⟩
theorem mv_X8_tune : MV yX8_tune 8 cX8_tune 4 (some .int) 2 := ⟨by decide, ⟨rfl, by decide, by decide, by decide +kernel⟩, mw (i := 341) (by decide +kernel) (by decide +kernel), mw (i := 342) (by decide +kernel) (by decide +kernel), mw (i := 1) (by decide +kernel) (by decide +kernel), mw (i := 343) (by decide +kernel) (by decide +kernel)⟩
theorem ml_L_23 : Cond.methodLink RL 23 yX8_set ∈ gw_tbl := mw (i := 348) (by decide +kernel) (by decide +kernel)
theorem ml_L_26 : Cond.methodLink RL 26 yX9_set ∈ gw_tbl := mw (i := 991) (by decide +kernel) (by decide +kernel)
theorem mv_X9_set : MV yX9_set 9 cX9_set 4 (some .int) 2 := ⟨by decide, ⟨rfl, by decide, by decide, by decide +kernel⟩, mw (i := 992) (by decide +kernel) (by decide +kernel), mw (i := 993) (by decide +kernel) (by decide +kernel), mw (i := 10) (by decide +kernel) (by decide +kernel), mw (i := 994) (by decide +kernel) (by decide +kernel)⟩
theorem mv_X8_set : MV yX8_set 8 cX8_set 4 (some .int) 2 := ⟨by decide, ⟨rfl, by decide, by decide, by decide +kernel⟩, mw (i := 349) (by decide +kernel) (by decide +kernel), mw (i := 350) (by decide +kernel) (by decide +kernel), mw (i := 1) (by decide +kernel) (by decide +kernel), mw (i := 351) (by decide +kernel) (by decide +kernel)⟩
theorem ml_L_27 : Cond.methodLink RL 27 yX8_note ∈ gw_tbl := mw (i := 359) (by decide +kernel) (by decide +kernel)
theorem ml_L_31 : Cond.methodLink RL 31 yX9_note ∈ gw_tbl := mw (i := 999) (by decide +kernel) (by decide +kernel)
theorem mv_X9_note : MV yX9_note 9 cX9_note 4 (some .int) 3 := ⟨by decide, ⟨rfl, by decide, by decide, by decide +kernel⟩, mw (i := 1000) (by decide +kernel) (by decide +kernel), mw (i := 1001) (by decide +kernel) (by decide +kernel), mw (i := 10) (by decide +kernel) (by decide +kernel), mw (i := 1002) (by decide +kernel) (by decide +kernel)⟩
theorem mv_X8_note : MV yX8_note 8 cX8_note 5 (some .int) 3 := ⟨by decide, ⟨rfl, by decide, by decide, by decide +kernel⟩, mw (i := 360) (by decide +kernel) (by decide +kernel), mw (i := 361) (by decide +kernel) (by decide +kernel), mw (i := 1) (by decide +kernel) (by decide +kernel), mw (i := 362) (by decide +kernel) (by decide +kernel)⟩
theorem ml_L_32 : Cond.methodLink RL 32 yX8_gone ∈ gw_tbl := mw (i := 393) (by decide +kernel) (by decide +kernel)
theorem ml_L_35 : Cond.methodLink RL 35 yX9_gone ∈ gw_tbl := mw (i := 1015) (by decide +kernel) (by decide +kernel)
theorem mv_X9_gone : MV yX9_gone 9 cX9_gone 3 (some .int) 1 := ⟨by decide, ⟨rfl, by decide, by decide, by decide +kernel⟩, mw (i := 1016) (by decide +kernel) (by decide +kernel), mw (i := 1017) (by decide +kernel) (by decide +kernel), mw (i := 10) (by decide +kernel) (by decide +kernel), mw (i := 1018) (by decide +kernel) (by decide +kernel)⟩
theorem mv_X8_gone : MV yX8_gone 8 cX8_gone 2 (some .int) 1 := ⟨by decide, ⟨rfl, by decide, by decide, by decide +kernel⟩, mw (i := 394) (by decide +kernel) (by decide +kernel), mw (i := 395) (by decide +kernel) (by decide +kernel), mw (i := 1) (by decide +kernel) (by decide +kernel), mw (i := 396) (by decide +kernel) (by decide +kernel)⟩
theorem ml_L_36 : Cond.methodLink RL 36 yX8_clear ∈ gw_tbl := mw (i := 405) (by decide +kernel) (by decide +kernel)
theorem ml_L_40 : Cond.methodLink RL 40 yX9_clear ∈ gw_tbl := mw (i := 1023) (by decide +kernel) (by decide +kernel)
theorem mv_X9_clear : MV yX9_clear 9 cX9_clear 2 (some .int) 0 := ⟨by decide, ⟨rfl, by decide, by decide, by decide +kernel⟩, mw (i := 1024) (by decide +kernel) (by decide +kernel), mw (i := 1025) (by decide +kernel) (by decide +kernel), mw (i := 10) (by decide +kernel) (by decide +kernel), mw (i := 1026) (by decide +kernel) (by decide +kernel)⟩
theorem mv_X8_clear : MV yX8_clear 8 cX8_clear 2 (some .int) 0 := ⟨by decide, ⟨rfl, by decide, by decide, by decide +kernel⟩, mw (i := 406) (by decide +kernel) (by decide +kernel), mw (i := 407) (by decide +kernel) (by decide +kernel), mw (i := 1) (by decide +kernel) (by decide +kernel), mw (i := 408) (by decide +kernel) (by decide +kernel)⟩
theorem ml_L_41 : Cond.methodLink RL 41 yX8_read ∈ gw_tbl := mw (i := 413) (by decide +kernel) (by decide +kernel)
theorem ml_L_44 : Cond.methodLink RL 44 yX9_read ∈ gw_tbl := mw (i := 1027) (by decide +kernel) (by decide +kernel)
theorem mv_X9_read : MV yX9_read 9 cX9_read 3 (some .int) 1 := ⟨by decide, ⟨rfl, by decide, by decide, by decide +kernel⟩, mw (i := 1028) (by decide +kernel) (by decide +kernel), mw (i := 1029) (by decide +kernel) (by decide +kernel), mw (i := 10) (by decide +kernel) (by decide +kernel), mw (i := 1030) (by decide +kernel) (by decide +kernel)⟩
theorem mv_X8_read : MV yX8_read 8 cX8_read 4 (some .int) 1 := ⟨by decide, ⟨rfl, by decide, by decide, by decide +kernel⟩, mw (i := 414) (by decide +kernel) (by decide +kernel), mw (i := 415) (by decide +kernel) (by decide +kernel), mw (i := 1) (by decide +kernel) (by decide +kernel), mw (i := 416) (by decide +kernel) (by decide +kernel)⟩
theorem ml_L_45 : Cond.methodLink RL 45 yX8_info ∈ gw_tbl := mw (i := 436) (by decide +kernel) (by decide +kernel)
theorem ml_L_48 : Cond.methodLink RL 48 yX9_info ∈ gw_tbl := mw (i := 1159) (by decide +kernel) (by decide +kernel)
theorem mv_X9_info : MV yX9_info 9 cX9_info 3 (some .int) 2 := ⟨by decide, ⟨rfl, by decide, by decide, by decide +kernel⟩, mw (i := 1160) (by decide +kernel) (by decide +kernel), mw (i := 1161) (by decide +kernel) (by decide +kernel), mw (i := 10) (by decide +kernel) (by decide +kernel), mw (i := 1162) (by decide +kernel) (by decide +kernel)⟩
theorem ml_L_49 : Cond.methodLink RL 49 yX8_course ∈ gw_tbl := mw (i := 448) (by decide +kernel) (by decide +kernel)
theorem ml_L_52 : Cond.methodLink RL 52 yX9_course ∈ gw_tbl := mw (i := 1175) (by decide +kernel) (by decide +kernel)
theorem mv_X9_course : MV yX9_course 9 cX9_course 3 (some .int) 2 := ⟨by decide, ⟨rfl, by decide, by decide, by decide +kernel⟩, mw (i := 1176) (by decide +kernel) (by decide +kernel), mw (i := 1177) (by decide +kernel) (by decide +kernel), mw (i := 10) (by decide +kernel) (by decide +kernel), mw (i := 1178) (by decide +kernel) (by decide +kernel)⟩
theorem ml_L_53 : Cond.methodLink RL 53 yX8_least ∈ gw_tbl := mw (i := 460) (by decide +kernel) (by decide +kernel)
theorem ml_L_56 : Cond.methodLink RL 56 yX9_least ∈ gw_tbl := mw (i := 1043) (by decide +kernel) (by decide +kernel)
theorem ml_L_57 : Cond.methodLink RL 57 yX8_fault ∈ gw_tbl := mw (i := 552) (by decide +kernel) (by decide +kernel)
theorem ml_L_60 : Cond.methodLink RL 60 yX9_fault ∈ gw_tbl := mw (i := 1119) (by decide +kernel) (by decide +kernel)
theorem mv_X9_fault : MV yX9_fault 9 cX9_fault 1 (some .int) 0 := ⟨by decide, ⟨rfl, by decide, by decide, by decide +kernel⟩, mw (i := 1120) (by decide +kernel) (by decide +kernel), mw (i := 1121) (by decide +kernel) (by decide +kernel), mw (i := 10) (by decide +kernel) (by decide +kernel), mw (i := 1122) (by decide +kernel) (by decide +kernel)⟩
theorem ml_L_61 : Cond.methodLink RL 61 yX8_mend ∈ gw_tbl := mw (i := 559) (by decide +kernel) (by decide +kernel)
theorem ml_L_64 : Cond.methodLink RL 64 yX9_mend ∈ gw_tbl := mw (i := 1127) (by decide +kernel) (by decide +kernel)
theorem mv_X9_mend : MV yX9_mend 9 cX9_mend 8 (some .int) 0 := ⟨by decide, ⟨rfl, by decide, by decide, by decide +kernel⟩, mw (i := 1128) (by decide +kernel) (by decide +kernel), mw (i := 1129) (by decide +kernel) (by decide +kernel), mw (i := 10) (by decide +kernel) (by decide +kernel), mw (i := 1130) (by decide +kernel) (by decide +kernel)⟩
theorem mv_X8_mend : MV yX8_mend 8 cX8_mend 4 (some .int) 0 := ⟨by decide, ⟨rfl, by decide, by decide, by decide +kernel⟩, mw (i := 560) (by decide +kernel) (by decide +kernel), mw (i := 561) (by decide +kernel) (by decide +kernel), mw (i := 1) (by decide +kernel) (by decide +kernel), mw (i := 562) (by decide +kernel) (by decide +kernel)⟩
theorem ml_L_65 : Cond.methodLink RL 65 yX8_lay ∈ gw_tbl := mw (i := 564) (by decide +kernel) (by decide +kernel)
theorem ml_L_68 : Cond.methodLink RL 68 yX9_lay ∈ gw_tbl := mw (i := 1131) (by decide +kernel) (by decide +kernel)
theorem mv_X9_lay : MV yX9_lay 9 cX9_lay 5 (some .int) 2 := ⟨by decide, ⟨rfl, by decide, by decide, by decide +kernel⟩, mw (i := 1132) (by decide +kernel) (by decide +kernel), mw (i := 1133) (by decide +kernel) (by decide +kernel), mw (i := 10) (by decide +kernel) (by decide +kernel), mw (i := 1134) (by decide +kernel) (by decide +kernel)⟩
theorem mv_X8_lay : MV yX8_lay 8 cX8_lay 4 (some .int) 2 := ⟨by decide, ⟨rfl, by decide, by decide, by decide +kernel⟩, mw (i := 565) (by decide +kernel) (by decide +kernel), mw (i := 566) (by decide +kernel) (by decide +kernel), mw (i := 1) (by decide +kernel) (by decide +kernel), mw (i := 567) (by decide +kernel) (by decide +kernel)⟩
theorem ml_L_69 : Cond.methodLink RL 69 yX8_wrong ∈ gw_tbl := mw (i := 571) (by decide +kernel) (by decide +kernel)
theorem ml_L_72 : Cond.methodLink RL 72 yX9_wrong ∈ gw_tbl := mw (i := 1135) (by decide +kernel) (by decide +kernel)
theorem mv_X9_wrong : MV yX9_wrong 9 cX9_wrong 1 (some .int) 0 := ⟨by decide, ⟨rfl, by decide, by decide, by decide +kernel⟩, mw (i := 1136) (by decide +kernel) (by decide +kernel), mw (i := 1137) (by decide +kernel) (by decide +kernel), mw (i := 10) (by decide +kernel) (by decide +kernel), mw (i := 1138) (by decide +kernel) (by decide +kernel)⟩
theorem mv_X8_wrong : MV yX8_wrong 8 cX8_wrong 1 (some .int) 0 := ⟨by decide, ⟨rfl, by decide, by decide, by decide +kernel⟩, mw (i := 572) (by decide +kernel) (by decide +kernel), mw (i := 573) (by decide +kernel) (by decide +kernel), mw (i := 1) (by decide +kernel) (by decide +kernel), mw (i := 574) (by decide +kernel) (by decide +kernel)⟩
theorem ml_L_73 : Cond.methodLink RL 73 yX8_cost ∈ gw_tbl := mw (i := 585) (by decide +kernel) (by decide +kernel)
theorem ml_L_76 : Cond.methodLink RL 76 yX9_cost ∈ gw_tbl := mw (i := 1147) (by decide +kernel) (by decide +kernel)
theorem mv_X9_cost : MV yX9_cost 9 cX9_cost 1 (some .int) 0 := ⟨by decide, ⟨rfl, by decide, by decide, by decide +kernel⟩, mw (i := 1148) (by decide +kernel) (by decide +kernel), mw (i := 1149) (by decide +kernel) (by decide +kernel), mw (i := 10) (by decide +kernel) (by decide +kernel), mw (i := 1150) (by decide +kernel) (by decide +kernel)⟩
theorem ml_L_77 : Cond.methodLink RL 77 yX8_chord ∈ gw_tbl := mw (i := 595) (by decide +kernel) (by decide +kernel)
theorem ml_L_80 : Cond.methodLink RL 80 yX9_chord ∈ gw_tbl := mw (i := 1183) (by decide +kernel) (by decide +kernel)
theorem mv_X9_chord : MV yX9_chord 9 cX9_chord 3 (some .int) 2 := ⟨by decide, ⟨rfl, by decide, by decide, by decide +kernel⟩, mw (i := 1184) (by decide +kernel) (by decide +kernel), mw (i := 1185) (by decide +kernel) (by decide +kernel), mw (i := 10) (by decide +kernel) (by decide +kernel), mw (i := 1186) (by decide +kernel) (by decide +kernel)⟩
theorem ml_L_81 : Cond.methodLink RL 81 yX8_without ∈ gw_tbl := mw (i := 614) (by decide +kernel) (by decide +kernel)
theorem ml_L_84 : Cond.methodLink RL 84 yX9_without ∈ gw_tbl := mw (i := 1191) (by decide +kernel) (by decide +kernel)
theorem mv_X9_without : MV yX9_without 9 cX9_without 2 (some .int) 1 := ⟨by decide, ⟨rfl, by decide, by decide, by decide +kernel⟩, mw (i := 1192) (by decide +kernel) (by decide +kernel), mw (i := 1193) (by decide +kernel) (by decide +kernel), mw (i := 10) (by decide +kernel) (by decide +kernel), mw (i := 1194) (by decide +kernel) (by decide +kernel)⟩
theorem ml_L_85 : Cond.methodLink RL 85 yX8_key ∈ gw_tbl := mw (i := 622) (by decide +kernel) (by decide +kernel)
theorem ml_L_88 : Cond.methodLink RL 88 yX9_key ∈ gw_tbl := mw (i := 1195) (by decide +kernel) (by decide +kernel)
theorem mv_X9_key : MV yX9_key 9 cX9_key 2 (some .int) 1 := ⟨by decide, ⟨rfl, by decide, by decide, by decide +kernel⟩, mw (i := 1196) (by decide +kernel) (by decide +kernel), mw (i := 1197) (by decide +kernel) (by decide +kernel), mw (i := 10) (by decide +kernel) (by decide +kernel), mw (i := 1198) (by decide +kernel) (by decide +kernel)⟩
theorem ml_L_89 : Cond.methodLink RL 89 yX8_easiest ∈ gw_tbl := mw (i := 626) (by decide +kernel) (by decide +kernel)
theorem ml_L_92 : Cond.methodLink RL 92 yX9_easiest ∈ gw_tbl := mw (i := 1199) (by decide +kernel) (by decide +kernel)
theorem mv_X9_easiest : MV yX9_easiest 9 cX9_easiest 2 (some .int) 1 := ⟨by decide, ⟨rfl, by decide, by decide, by decide +kernel⟩, mw (i := 1200) (by decide +kernel) (by decide +kernel), mw (i := 1201) (by decide +kernel) (by decide +kernel), mw (i := 10) (by decide +kernel) (by decide +kernel), mw (i := 1202) (by decide +kernel) (by decide +kernel)⟩
theorem ml_L_93 : Cond.methodLink RL 93 yX8_keep ∈ gw_tbl := mw (i := 634) (by decide +kernel) (by decide +kernel)
theorem ml_L_96 : Cond.methodLink RL 96 yX9_keep ∈ gw_tbl := mw (i := 1208) (by decide +kernel) (by decide +kernel)
theorem mv_X9_keep : MV yX9_keep 9 cX9_keep 3 (some .int) 1 := ⟨by decide, ⟨rfl, by decide, by decide, by decide +kernel⟩, mw (i := 1209) (by decide +kernel) (by decide +kernel), mw (i := 1210) (by decide +kernel) (by decide +kernel), mw (i := 10) (by decide +kernel) (by decide +kernel), mw (i := 1211) (by decide +kernel) (by decide +kernel)⟩
theorem mv_X8_keep : MV yX8_keep 8 cX8_keep 2 (some .int) 1 := ⟨by decide, ⟨rfl, by decide, by decide, by decide +kernel⟩, mw (i := 635) (by decide +kernel) (by decide +kernel), mw (i := 636) (by decide +kernel) (by decide +kernel), mw (i := 1) (by decide +kernel) (by decide +kernel), mw (i := 637) (by decide +kernel) (by decide +kernel)⟩
theorem ml_L_97 : Cond.methodLink RL 97 yX8_go ∈ gw_tbl := mw (i := 648) (by decide +kernel) (by decide +kernel)
theorem ml_L_100 : Cond.methodLink RL 100 yX9_go ∈ gw_tbl := mw (i := 1219) (by decide +kernel) (by decide +kernel)
theorem mv_X9_go : MV yX9_go 9 cX9_go 3 (some .int) 1 := ⟨by decide, ⟨rfl, by decide, by decide, by decide +kernel⟩, mw (i := 1220) (by decide +kernel) (by decide +kernel), mw (i := 1221) (by decide +kernel) (by decide +kernel), mw (i := 10) (by decide +kernel) (by decide +kernel), mw (i := 1222) (by decide +kernel) (by decide +kernel)⟩
theorem mv_X8_go : MV yX8_go 8 cX8_go 2 (some .int) 1 := ⟨by decide, ⟨rfl, by decide, by decide, by decide +kernel⟩, mw (i := 649) (by decide +kernel) (by decide +kernel), mw (i := 650) (by decide +kernel) (by decide +kernel), mw (i := 1) (by decide +kernel) (by decide +kernel), mw (i := 651) (by decide +kernel) (by decide +kernel)⟩
theorem ml_L_101 : Cond.methodLink RL 101 yX8_differ ∈ gw_tbl := mw (i := 652) (by decide +kernel) (by decide +kernel)
theorem ml_L_104 : Cond.methodLink RL 104 yX9_differ ∈ gw_tbl := mw (i := 1223) (by decide +kernel) (by decide +kernel)
theorem mv_X9_differ : MV yX9_differ 9 cX9_differ 2 (some .int) 1 := ⟨by decide, ⟨rfl, by decide, by decide, by decide +kernel⟩, mw (i := 1224) (by decide +kernel) (by decide +kernel), mw (i := 1225) (by decide +kernel) (by decide +kernel), mw (i := 10) (by decide +kernel) (by decide +kernel), mw (i := 1226) (by decide +kernel) (by decide +kernel)⟩
theorem ml_L_105 : Cond.methodLink RL 105 yX8_text ∈ gw_tbl := mw (i := 656) (by decide +kernel) (by decide +kernel)
theorem ml_L_108 : Cond.methodLink RL 108 yX9_text ∈ gw_tbl := mw (i := 1231) (by decide +kernel) (by decide +kernel)
theorem mv_X9_text : MV yX9_text 9 cX9_text 3 (some .int) 1 := ⟨by decide, ⟨rfl, by decide, by decide, by decide +kernel⟩, mw (i := 1232) (by decide +kernel) (by decide +kernel), mw (i := 1233) (by decide +kernel) (by decide +kernel), mw (i := 10) (by decide +kernel) (by decide +kernel), mw (i := 1234) (by decide +kernel) (by decide +kernel)⟩
theorem mv_X8_text : MV yX8_text 8 cX8_text 2 (some .int) 1 := ⟨by decide, ⟨rfl, by decide, by decide, by decide +kernel⟩, mw (i := 657) (by decide +kernel) (by decide +kernel), mw (i := 658) (by decide +kernel) (by decide +kernel), mw (i := 1) (by decide +kernel) (by decide +kernel), mw (i := 659) (by decide +kernel) (by decide +kernel)⟩
theorem ml_L_109 : Cond.methodLink RL 109 yX8_type ∈ gw_tbl := mw (i := 677) (by decide +kernel) (by decide +kernel)
theorem ml_L_112 : Cond.methodLink RL 112 yX9_type ∈ gw_tbl := mw (i := 1247) (by decide +kernel) (by decide +kernel)
theorem mv_X9_type : MV yX9_type 9 cX9_type 2 (some .int) 1 := ⟨by decide, ⟨rfl, by decide, by decide, by decide +kernel⟩, mw (i := 1248) (by decide +kernel) (by decide +kernel), mw (i := 1249) (by decide +kernel) (by decide +kernel), mw (i := 10) (by decide +kernel) (by decide +kernel), mw (i := 1250) (by decide +kernel) (by decide +kernel)⟩
theorem mv_X8_type : MV yX8_type 8 cX8_type 2 (some .int) 1 := ⟨by decide, ⟨rfl, by decide, by decide, by decide +kernel⟩, mw (i := 678) (by decide +kernel) (by decide +kernel), mw (i := 679) (by decide +kernel) (by decide +kernel), mw (i := 1) (by decide +kernel) (by decide +kernel), mw (i := 680) (by decide +kernel) (by decide +kernel)⟩
theorem ml_L_113 : Cond.methodLink RL 113 yX8_wipe ∈ gw_tbl := mw (i := 681) (by decide +kernel) (by decide +kernel)
theorem ml_L_116 : Cond.methodLink RL 116 yX9_wipe ∈ gw_tbl := mw (i := 1251) (by decide +kernel) (by decide +kernel)
theorem mv_X9_wipe : MV yX9_wipe 9 cX9_wipe 2 (some .int) 0 := ⟨by decide, ⟨rfl, by decide, by decide, by decide +kernel⟩, mw (i := 1252) (by decide +kernel) (by decide +kernel), mw (i := 1253) (by decide +kernel) (by decide +kernel), mw (i := 10) (by decide +kernel) (by decide +kernel), mw (i := 1254) (by decide +kernel) (by decide +kernel)⟩
theorem mv_X8_wipe : MV yX8_wipe 8 cX8_wipe 2 (some .int) 0 := ⟨by decide, ⟨rfl, by decide, by decide, by decide +kernel⟩, mw (i := 682) (by decide +kernel) (by decide +kernel), mw (i := 683) (by decide +kernel) (by decide +kernel), mw (i := 1) (by decide +kernel) (by decide +kernel), mw (i := 684) (by decide +kernel) (by decide +kernel)⟩
theorem ml_L_117 : Cond.methodLink RL 117 yX8_flaw ∈ gw_tbl := mw (i := 685) (by decide +kernel) (by decide +kernel)
theorem ml_L_120 : Cond.methodLink RL 120 yX9_flaw ∈ gw_tbl := mw (i := 1255) (by decide +kernel) (by decide +kernel)
theorem mv_X9_flaw : MV yX9_flaw 9 cX9_flaw 1 (some .int) 0 := ⟨by decide, ⟨rfl, by decide, by decide, by decide +kernel⟩, mw (i := 1256) (by decide +kernel) (by decide +kernel), mw (i := 1257) (by decide +kernel) (by decide +kernel), mw (i := 10) (by decide +kernel) (by decide +kernel), mw (i := 1258) (by decide +kernel) (by decide +kernel)⟩
theorem ml_L_121 : Cond.methodLink RL 121 yX8_back ∈ gw_tbl := mw (i := 727) (by decide +kernel) (by decide +kernel)
theorem ml_L_124 : Cond.methodLink RL 124 yX9_back ∈ gw_tbl := mw (i := 1275) (by decide +kernel) (by decide +kernel)
theorem mv_X9_back : MV yX9_back 9 cX9_back 6 (some .int) 0 := ⟨by decide, ⟨rfl, by decide, by decide, by decide +kernel⟩, mw (i := 1276) (by decide +kernel) (by decide +kernel), mw (i := 1277) (by decide +kernel) (by decide +kernel), mw (i := 10) (by decide +kernel) (by decide +kernel), mw (i := 1278) (by decide +kernel) (by decide +kernel)⟩
theorem mv_X8_back : MV yX8_back 8 cX8_back 2 (some .int) 0 := ⟨by decide, ⟨rfl, by decide, by decide, by decide +kernel⟩, mw (i := 728) (by decide +kernel) (by decide +kernel), mw (i := 729) (by decide +kernel) (by decide +kernel), mw (i := 1) (by decide +kernel) (by decide +kernel), mw (i := 730) (by decide +kernel) (by decide +kernel)⟩
theorem ml_L_125 : Cond.methodLink RL 125 yX8_sheet ∈ gw_tbl := mw (i := 735) (by decide +kernel) (by decide +kernel)
theorem ml_L_128 : Cond.methodLink RL 128 yX9_sheet ∈ gw_tbl := mw (i := 1283) (by decide +kernel) (by decide +kernel)
theorem mv_X9_sheet : MV yX9_sheet 9 cX9_sheet 5 (some .int) 3 := ⟨by decide, ⟨rfl, by decide, by decide, by decide +kernel⟩, mw (i := 1284) (by decide +kernel) (by decide +kernel), mw (i := 1285) (by decide +kernel) (by decide +kernel), mw (i := 10) (by decide +kernel) (by decide +kernel), mw (i := 1286) (by decide +kernel) (by decide +kernel)⟩
theorem mv_X8_sheet : MV yX8_sheet 8 cX8_sheet 4 (some .int) 3 := ⟨by decide, ⟨rfl, by decide, by decide, by decide +kernel⟩, mw (i := 736) (by decide +kernel) (by decide +kernel), mw (i := 737) (by decide +kernel) (by decide +kernel), mw (i := 1) (by decide +kernel) (by decide +kernel), mw (i := 738) (by decide +kernel) (by decide +kernel)⟩
theorem ml_L_129 : Cond.methodLink RL 129 yX8_lose ∈ gw_tbl := mw (i := 749) (by decide +kernel) (by decide +kernel)
theorem ml_L_132 : Cond.methodLink RL 132 yX9_lose ∈ gw_tbl := mw (i := 1287) (by decide +kernel) (by decide +kernel)
theorem mv_X9_lose : MV yX9_lose 9 cX9_lose 2 (some .int) 1 := ⟨by decide, ⟨rfl, by decide, by decide, by decide +kernel⟩, mw (i := 1288) (by decide +kernel) (by decide +kernel), mw (i := 1289) (by decide +kernel) (by decide +kernel), mw (i := 10) (by decide +kernel) (by decide +kernel), mw (i := 1290) (by decide +kernel) (by decide +kernel)⟩
theorem mv_X8_lose : MV yX8_lose 8 cX8_lose 3 (some .int) 1 := ⟨by decide, ⟨rfl, by decide, by decide, by decide +kernel⟩, mw (i := 750) (by decide +kernel) (by decide +kernel), mw (i := 751) (by decide +kernel) (by decide +kernel), mw (i := 1) (by decide +kernel) (by decide +kernel), mw (i := 752) (by decide +kernel) (by decide +kernel)⟩
theorem ml_L_133 : Cond.methodLink RL 133 yX8_put ∈ gw_tbl := mw (i := 753) (by decide +kernel) (by decide +kernel)
theorem ml_L_137 : Cond.methodLink RL 137 yX9_put ∈ gw_tbl := mw (i := 1291) (by decide +kernel) (by decide +kernel)
theorem mv_X9_put : MV yX9_put 9 cX9_put 6 (some .int) 4 := ⟨by decide, ⟨rfl, by decide, by decide, by decide +kernel⟩, mw (i := 1292) (by decide +kernel) (by decide +kernel), mw (i := 1293) (by decide +kernel) (by decide +kernel), mw (i := 10) (by decide +kernel) (by decide +kernel), mw (i := 1294) (by decide +kernel) (by decide +kernel)⟩
theorem mv_X8_put : MV yX8_put 8 cX8_put 6 (some .int) 4 := ⟨by decide, ⟨rfl, by decide, by decide, by decide +kernel⟩, mw (i := 754) (by decide +kernel) (by decide +kernel), mw (i := 755) (by decide +kernel) (by decide +kernel), mw (i := 1) (by decide +kernel) (by decide +kernel), mw (i := 756) (by decide +kernel) (by decide +kernel)⟩
theorem ml_L_138 : Cond.methodLink RL 138 yX8_get ∈ gw_tbl := mw (i := 766) (by decide +kernel) (by decide +kernel)
theorem ml_L_142 : Cond.methodLink RL 142 yX9_get ∈ gw_tbl := mw (i := 1296) (by decide +kernel) (by decide +kernel)
theorem mv_X9_get : MV yX9_get 9 cX9_get 4 (some .long) 2 := ⟨by decide, ⟨rfl, by decide, by decide, by decide +kernel⟩, mw (i := 1297) (by decide +kernel) (by decide +kernel), mw (i := 1298) (by decide +kernel) (by decide +kernel), mw (i := 10) (by decide +kernel) (by decide +kernel), mw (i := 1299) (by decide +kernel) (by decide +kernel)⟩
theorem mv_X8_get : MV yX8_get 8 cX8_get 4 (some .long) 2 := ⟨by decide, ⟨rfl, by decide, by decide, by decide +kernel⟩, mw (i := 767) (by decide +kernel) (by decide +kernel), mw (i := 768) (by decide +kernel) (by decide +kernel), mw (i := 1) (by decide +kernel) (by decide +kernel), mw (i := 769) (by decide +kernel) (by decide +kernel)⟩
theorem ml_L_143 : Cond.methodLink RL 143 yX8_copy ∈ gw_tbl := mw (i := 771) (by decide +kernel) (by decide +kernel)
theorem ml_L_147 : Cond.methodLink RL 147 yX9_copy ∈ gw_tbl := mw (i := 1304) (by decide +kernel) (by decide +kernel)
theorem mv_X9_copy : MV yX9_copy 9 cX9_copy 7 (some .int) 5 := ⟨by decide, ⟨rfl, by decide, by decide, by decide +kernel⟩, mw (i := 1305) (by decide +kernel) (by decide +kernel), mw (i := 1306) (by decide +kernel) (by decide +kernel), mw (i := 10) (by decide +kernel) (by decide +kernel), mw (i := 1307) (by decide +kernel) (by decide +kernel)⟩
theorem mv_X8_copy : MV yX8_copy 8 cX8_copy 8 (some .int) 5 := ⟨by decide, ⟨rfl, by decide, by decide, by decide +kernel⟩, mw (i := 772) (by decide +kernel) (by decide +kernel), mw (i := 773) (by decide +kernel) (by decide +kernel), mw (i := 1) (by decide +kernel) (by decide +kernel), mw (i := 774) (by decide +kernel) (by decide +kernel)⟩
theorem ml_L_148 : Cond.methodLink RL 148 yX8_write ∈ gw_tbl := mw (i := 775) (by decide +kernel) (by decide +kernel)
theorem ml_L_151 : Cond.methodLink RL 151 yX9_write ∈ gw_tbl := mw (i := 1308) (by decide +kernel) (by decide +kernel)
theorem mv_X9_write : MV yX9_write 9 cX9_write 3 (some .int) 1 := ⟨by decide, ⟨rfl, by decide, by decide, by decide +kernel⟩, mw (i := 1309) (by decide +kernel) (by decide +kernel), mw (i := 1310) (by decide +kernel) (by decide +kernel), mw (i := 10) (by decide +kernel) (by decide +kernel), mw (i := 1311) (by decide +kernel) (by decide +kernel)⟩
theorem mv_X8_write : MV yX8_write 8 cX8_write 5 (some .int) 1 := ⟨by decide, ⟨rfl, by decide, by decide, by decide +kernel⟩, mw (i := 776) (by decide +kernel) (by decide +kernel), mw (i := 777) (by decide +kernel) (by decide +kernel), mw (i := 1) (by decide +kernel) (by decide +kernel), mw (i := 778) (by decide +kernel) (by decide +kernel)⟩
theorem ml_L_152 : Cond.methodLink RL 152 yX8_count ∈ gw_tbl := mw (i := 780) (by decide +kernel) (by decide +kernel)
theorem ml_L_155 : Cond.methodLink RL 155 yX9_count ∈ gw_tbl := mw (i := 1312) (by decide +kernel) (by decide +kernel)
theorem ml_L_156 : Cond.methodLink RL 156 yX8_digest ∈ gw_tbl := mw (i := 784) (by decide +kernel) (by decide +kernel)
theorem ml_L_160 : Cond.methodLink RL 160 yX9_digest ∈ gw_tbl := mw (i := 1316) (by decide +kernel) (by decide +kernel)
theorem mv_X9_digest : MV yX9_digest 9 cX9_digest 5 (some .long) 0 := ⟨by decide, ⟨rfl, by decide, by decide, by decide +kernel⟩, mw (i := 1317) (by decide +kernel) (by decide +kernel), mw (i := 1318) (by decide +kernel) (by decide +kernel), mw (i := 10) (by decide +kernel) (by decide +kernel), mw (i := 1319) (by decide +kernel) (by decide +kernel)⟩
theorem mv_X8_digest : MV yX8_digest 8 cX8_digest 5 (some .long) 0 := ⟨by decide, ⟨rfl, by decide, by decide, by decide +kernel⟩, mw (i := 785) (by decide +kernel) (by decide +kernel), mw (i := 786) (by decide +kernel) (by decide +kernel), mw (i := 1) (by decide +kernel) (by decide +kernel), mw (i := 787) (by decide +kernel) (by decide +kernel)⟩
theorem ki_6 : Int32.ofInt (6) = (6 : Int32) := by decide +kernel
theorem kd0 : kd 0 8 := ⟨13, rfl⟩
theorem kd55 : kd 55 9 := ⟨49, rfl⟩
theorem dL_law_18 : decode cL_law 18 = .ok (.iload_n 3, 1) := by decide +kernel
theorem dL_law_19 : decode cL_law 19 = .ok (.aload_n 0, 1) := by decide +kernel
theorem dL_law_20 : decode cL_law 20 = .ok (.arraylength, 1) := by decide +kernel
theorem dL_law_21 : decode cL_law 21 = .ok (.bipush 6, 2) := by decide +kernel
theorem dL_law_23 : decode cL_law 23 = .ok (.isub, 1) := by decide +kernel
theorem dL_law_24 : decode cL_law 24 = .ok (.if_icmp .gt 1057, 3) := by decide +kernel
theorem dL_law_27 : decode cL_law 27 = .ok (.aload_n 0, 1) := by decide +kernel
theorem dL_law_28 : decode cL_law 28 = .ok (.iload_n 3, 1) := by decide +kernel
theorem dL_law_29 : decode cL_law 29 = .ok (.iaload, 1) := by decide +kernel
theorem dL_law_30 : decode cL_law 30 = .ok (.bipush 63, 2) := by decide +kernel
theorem dL_law_32 : decode cL_law 32 = .ok (.iand, 1) := by decide +kernel
theorem dL_law_33 : decode cL_law 33 = .ok (.tableswitch 1042 0 34 #[155, 178, 211, 244, 287, 310, 323, 346, 379, 412, 425, 438, 451, 484, 497, 510, 543, 566, 589, 612, 635, 658, 681, 704, 727, 740, 753, 766, 809, 832, 885, 919, 982, 1005, 1028], 155) := by decide +kernel
theorem dL_law_188 : decode cL_law 188 = .ok (.aload_n 1, 1) := by decide +kernel
theorem dL_law_189 : decode cL_law 189 = .ok (.aload_n 0, 1) := by decide +kernel
theorem dL_law_190 : decode cL_law 190 = .ok (.iload_n 3, 1) := by decide +kernel
theorem dL_law_191 : decode cL_law 191 = .ok (.iconst 1, 1) := by decide +kernel
theorem dL_law_192 : decode cL_law 192 = .ok (.iadd, 1) := by decide +kernel
theorem dL_law_193 : decode cL_law 193 = .ok (.iaload, 1) := by decide +kernel
theorem dL_law_194 : decode cL_law 194 = .ok (.invokevirtual 13, 3) := by decide +kernel
theorem dL_law_197 : decode cL_law 197 = .ok (.aload_n 2, 1) := by decide +kernel
theorem dL_law_198 : decode cL_law 198 = .ok (.aload_n 0, 1) := by decide +kernel
theorem dL_law_199 : decode cL_law 199 = .ok (.iload_n 3, 1) := by decide +kernel
theorem dL_law_200 : decode cL_law 200 = .ok (.iconst 1, 1) := by decide +kernel
theorem dL_law_201 : decode cL_law 201 = .ok (.iadd, 1) := by decide +kernel
theorem dL_law_202 : decode cL_law 202 = .ok (.iaload, 1) := by decide +kernel
theorem dL_law_203 : decode cL_law 203 = .ok (.invokevirtual 17, 3) := by decide +kernel
theorem dL_law_206 : decode cL_law 206 = .ok (.if_icmp .eq 869, 3) := by decide +kernel
theorem dL_law_209 : decode cL_law 209 = .ok (.iconst 0, 1) := by decide +kernel
theorem dL_law_210 : decode cL_law 210 = .ok (.ireturn, 1) := by decide +kernel
theorem dL_law_211 : decode cL_law 211 = .ok (.aload_n 1, 1) := by decide +kernel
theorem dL_law_212 : decode cL_law 212 = .ok (.aload_n 0, 1) := by decide +kernel
theorem dL_law_213 : decode cL_law 213 = .ok (.iload_n 3, 1) := by decide +kernel
theorem dL_law_214 : decode cL_law 214 = .ok (.iconst 1, 1) := by decide +kernel
theorem dL_law_215 : decode cL_law 215 = .ok (.iadd, 1) := by decide +kernel
theorem dL_law_216 : decode cL_law 216 = .ok (.iaload, 1) := by decide +kernel
theorem dL_law_217 : decode cL_law 217 = .ok (.aload_n 0, 1) := by decide +kernel
theorem dL_law_218 : decode cL_law 218 = .ok (.iload_n 3, 1) := by decide +kernel
theorem dL_law_219 : decode cL_law 219 = .ok (.iconst 2, 1) := by decide +kernel
theorem dL_law_220 : decode cL_law 220 = .ok (.iadd, 1) := by decide +kernel
theorem dL_law_221 : decode cL_law 221 = .ok (.iaload, 1) := by decide +kernel
theorem dL_law_222 : decode cL_law 222 = .ok (.invokevirtual 18, 3) := by decide +kernel
theorem dL_law_225 : decode cL_law 225 = .ok (.aload_n 2, 1) := by decide +kernel
theorem dL_law_226 : decode cL_law 226 = .ok (.aload_n 0, 1) := by decide +kernel
theorem dL_law_227 : decode cL_law 227 = .ok (.iload_n 3, 1) := by decide +kernel
theorem dL_law_228 : decode cL_law 228 = .ok (.iconst 1, 1) := by decide +kernel
theorem dL_law_229 : decode cL_law 229 = .ok (.iadd, 1) := by decide +kernel
theorem dL_law_230 : decode cL_law 230 = .ok (.iaload, 1) := by decide +kernel
theorem dL_law_231 : decode cL_law 231 = .ok (.aload_n 0, 1) := by decide +kernel
theorem dL_law_232 : decode cL_law 232 = .ok (.iload_n 3, 1) := by decide +kernel
theorem dL_law_233 : decode cL_law 233 = .ok (.iconst 2, 1) := by decide +kernel
theorem dL_law_234 : decode cL_law 234 = .ok (.iadd, 1) := by decide +kernel
theorem dL_law_235 : decode cL_law 235 = .ok (.iaload, 1) := by decide +kernel
theorem dL_law_236 : decode cL_law 236 = .ok (.invokevirtual 22, 3) := by decide +kernel
theorem dL_law_239 : decode cL_law 239 = .ok (.if_icmp .eq 836, 3) := by decide +kernel
theorem dL_law_242 : decode cL_law 242 = .ok (.iconst 0, 1) := by decide +kernel
theorem dL_law_243 : decode cL_law 243 = .ok (.ireturn, 1) := by decide +kernel
theorem dL_law_244 : decode cL_law 244 = .ok (.aload_n 1, 1) := by decide +kernel
theorem dL_law_245 : decode cL_law 245 = .ok (.aload_n 0, 1) := by decide +kernel
theorem dL_law_246 : decode cL_law 246 = .ok (.iload_n 3, 1) := by decide +kernel
theorem dL_law_247 : decode cL_law 247 = .ok (.iconst 1, 1) := by decide +kernel
theorem dL_law_248 : decode cL_law 248 = .ok (.iadd, 1) := by decide +kernel
theorem dL_law_249 : decode cL_law 249 = .ok (.iaload, 1) := by decide +kernel
theorem dL_law_250 : decode cL_law 250 = .ok (.aload_n 0, 1) := by decide +kernel
theorem dL_law_251 : decode cL_law 251 = .ok (.iload_n 3, 1) := by decide +kernel
theorem dL_law_252 : decode cL_law 252 = .ok (.iconst 2, 1) := by decide +kernel
theorem dL_law_253 : decode cL_law 253 = .ok (.iadd, 1) := by decide +kernel
theorem dL_law_254 : decode cL_law 254 = .ok (.iaload, 1) := by decide +kernel
theorem dL_law_255 : decode cL_law 255 = .ok (.invokevirtual 23, 3) := by decide +kernel
theorem dL_law_258 : decode cL_law 258 = .ok (.aload_n 2, 1) := by decide +kernel
theorem dL_law_259 : decode cL_law 259 = .ok (.aload_n 0, 1) := by decide +kernel
theorem dL_law_260 : decode cL_law 260 = .ok (.iload_n 3, 1) := by decide +kernel
theorem dL_law_261 : decode cL_law 261 = .ok (.iconst 1, 1) := by decide +kernel
theorem dL_law_262 : decode cL_law 262 = .ok (.iadd, 1) := by decide +kernel
theorem dL_law_263 : decode cL_law 263 = .ok (.iaload, 1) := by decide +kernel
theorem dL_law_264 : decode cL_law 264 = .ok (.aload_n 0, 1) := by decide +kernel
theorem dL_law_265 : decode cL_law 265 = .ok (.iload_n 3, 1) := by decide +kernel
theorem dL_law_266 : decode cL_law 266 = .ok (.iconst 2, 1) := by decide +kernel
theorem dL_law_267 : decode cL_law 267 = .ok (.iadd, 1) := by decide +kernel
theorem dL_law_268 : decode cL_law 268 = .ok (.iaload, 1) := by decide +kernel
theorem dL_law_269 : decode cL_law 269 = .ok (.invokevirtual 26, 3) := by decide +kernel
theorem dL_law_272 : decode cL_law 272 = .ok (.if_icmp .eq 803, 3) := by decide +kernel
theorem dL_law_275 : decode cL_law 275 = .ok (.iconst 0, 1) := by decide +kernel
theorem dL_law_276 : decode cL_law 276 = .ok (.ireturn, 1) := by decide +kernel
theorem dL_law_277 : decode cL_law 277 = .ok (.aload_n 1, 1) := by decide +kernel
theorem dL_law_278 : decode cL_law 278 = .ok (.aload_n 0, 1) := by decide +kernel
theorem dL_law_279 : decode cL_law 279 = .ok (.iload_n 3, 1) := by decide +kernel
theorem dL_law_280 : decode cL_law 280 = .ok (.iconst 1, 1) := by decide +kernel
theorem dL_law_281 : decode cL_law 281 = .ok (.iadd, 1) := by decide +kernel
theorem dL_law_282 : decode cL_law 282 = .ok (.iaload, 1) := by decide +kernel
theorem dL_law_283 : decode cL_law 283 = .ok (.aload_n 0, 1) := by decide +kernel
theorem dL_law_284 : decode cL_law 284 = .ok (.iload_n 3, 1) := by decide +kernel
theorem dL_law_285 : decode cL_law 285 = .ok (.iconst 2, 1) := by decide +kernel
theorem dL_law_286 : decode cL_law 286 = .ok (.iadd, 1) := by decide +kernel
theorem dL_law_287 : decode cL_law 287 = .ok (.iaload, 1) := by decide +kernel
theorem dL_law_288 : decode cL_law 288 = .ok (.aload_n 0, 1) := by decide +kernel
theorem dL_law_289 : decode cL_law 289 = .ok (.iload_n 3, 1) := by decide +kernel
theorem dL_law_290 : decode cL_law 290 = .ok (.iconst 3, 1) := by decide +kernel
theorem dL_law_291 : decode cL_law 291 = .ok (.iadd, 1) := by decide +kernel
theorem dL_law_292 : decode cL_law 292 = .ok (.iaload, 1) := by decide +kernel
theorem dL_law_293 : decode cL_law 293 = .ok (.invokevirtual 27, 3) := by decide +kernel
theorem dL_law_296 : decode cL_law 296 = .ok (.aload_n 2, 1) := by decide +kernel
theorem dL_law_297 : decode cL_law 297 = .ok (.aload_n 0, 1) := by decide +kernel
theorem dL_law_298 : decode cL_law 298 = .ok (.iload_n 3, 1) := by decide +kernel
theorem dL_law_299 : decode cL_law 299 = .ok (.iconst 1, 1) := by decide +kernel
theorem dL_law_300 : decode cL_law 300 = .ok (.iadd, 1) := by decide +kernel
theorem dL_law_301 : decode cL_law 301 = .ok (.iaload, 1) := by decide +kernel
theorem dL_law_302 : decode cL_law 302 = .ok (.aload_n 0, 1) := by decide +kernel
theorem dL_law_303 : decode cL_law 303 = .ok (.iload_n 3, 1) := by decide +kernel
theorem dL_law_304 : decode cL_law 304 = .ok (.iconst 2, 1) := by decide +kernel
theorem dL_law_305 : decode cL_law 305 = .ok (.iadd, 1) := by decide +kernel
theorem dL_law_306 : decode cL_law 306 = .ok (.iaload, 1) := by decide +kernel
theorem dL_law_307 : decode cL_law 307 = .ok (.aload_n 0, 1) := by decide +kernel
theorem dL_law_308 : decode cL_law 308 = .ok (.iload_n 3, 1) := by decide +kernel
theorem dL_law_309 : decode cL_law 309 = .ok (.iconst 3, 1) := by decide +kernel
theorem dL_law_310 : decode cL_law 310 = .ok (.iadd, 1) := by decide +kernel
theorem dL_law_311 : decode cL_law 311 = .ok (.iaload, 1) := by decide +kernel
theorem dL_law_312 : decode cL_law 312 = .ok (.invokevirtual 31, 3) := by decide +kernel
theorem dL_law_315 : decode cL_law 315 = .ok (.if_icmp .eq 760, 3) := by decide +kernel
theorem dL_law_318 : decode cL_law 318 = .ok (.iconst 0, 1) := by decide +kernel
theorem dL_law_319 : decode cL_law 319 = .ok (.ireturn, 1) := by decide +kernel
theorem dL_law_320 : decode cL_law 320 = .ok (.aload_n 1, 1) := by decide +kernel
theorem dL_law_321 : decode cL_law 321 = .ok (.aload_n 0, 1) := by decide +kernel
theorem dL_law_322 : decode cL_law 322 = .ok (.iload_n 3, 1) := by decide +kernel
theorem dL_law_323 : decode cL_law 323 = .ok (.iconst 1, 1) := by decide +kernel
theorem dL_law_324 : decode cL_law 324 = .ok (.iadd, 1) := by decide +kernel
theorem dL_law_325 : decode cL_law 325 = .ok (.iaload, 1) := by decide +kernel
theorem dL_law_326 : decode cL_law 326 = .ok (.invokevirtual 32, 3) := by decide +kernel
theorem dL_law_329 : decode cL_law 329 = .ok (.aload_n 2, 1) := by decide +kernel
theorem dL_law_330 : decode cL_law 330 = .ok (.aload_n 0, 1) := by decide +kernel
theorem dL_law_331 : decode cL_law 331 = .ok (.iload_n 3, 1) := by decide +kernel
theorem dL_law_332 : decode cL_law 332 = .ok (.iconst 1, 1) := by decide +kernel
theorem dL_law_333 : decode cL_law 333 = .ok (.iadd, 1) := by decide +kernel
theorem dL_law_334 : decode cL_law 334 = .ok (.iaload, 1) := by decide +kernel
theorem dL_law_335 : decode cL_law 335 = .ok (.invokevirtual 35, 3) := by decide +kernel
theorem dL_law_338 : decode cL_law 338 = .ok (.if_icmp .eq 737, 3) := by decide +kernel
theorem dL_law_341 : decode cL_law 341 = .ok (.iconst 0, 1) := by decide +kernel
theorem dL_law_342 : decode cL_law 342 = .ok (.ireturn, 1) := by decide +kernel
theorem dL_law_343 : decode cL_law 343 = .ok (.aload_n 1, 1) := by decide +kernel
theorem dL_law_344 : decode cL_law 344 = .ok (.invokevirtual 36, 3) := by decide +kernel
theorem dL_law_347 : decode cL_law 347 = .ok (.aload_n 2, 1) := by decide +kernel
theorem dL_law_348 : decode cL_law 348 = .ok (.invokevirtual 40, 3) := by decide +kernel
theorem dL_law_351 : decode cL_law 351 = .ok (.if_icmp .eq 724, 3) := by decide +kernel
theorem dL_law_354 : decode cL_law 354 = .ok (.iconst 0, 1) := by decide +kernel
theorem dL_law_355 : decode cL_law 355 = .ok (.ireturn, 1) := by decide +kernel
theorem dL_law_356 : decode cL_law 356 = .ok (.aload_n 1, 1) := by decide +kernel
theorem dL_law_357 : decode cL_law 357 = .ok (.aload_n 0, 1) := by decide +kernel
theorem dL_law_358 : decode cL_law 358 = .ok (.iload_n 3, 1) := by decide +kernel
theorem dL_law_359 : decode cL_law 359 = .ok (.iconst 1, 1) := by decide +kernel
theorem dL_law_360 : decode cL_law 360 = .ok (.iadd, 1) := by decide +kernel
theorem dL_law_361 : decode cL_law 361 = .ok (.iaload, 1) := by decide +kernel
theorem dL_law_362 : decode cL_law 362 = .ok (.invokevirtual 41, 3) := by decide +kernel
theorem dL_law_365 : decode cL_law 365 = .ok (.aload_n 2, 1) := by decide +kernel
theorem dL_law_366 : decode cL_law 366 = .ok (.aload_n 0, 1) := by decide +kernel
theorem dL_law_367 : decode cL_law 367 = .ok (.iload_n 3, 1) := by decide +kernel
theorem dL_law_368 : decode cL_law 368 = .ok (.iconst 1, 1) := by decide +kernel
theorem dL_law_369 : decode cL_law 369 = .ok (.iadd, 1) := by decide +kernel
theorem dL_law_370 : decode cL_law 370 = .ok (.iaload, 1) := by decide +kernel
theorem dL_law_371 : decode cL_law 371 = .ok (.invokevirtual 44, 3) := by decide +kernel
theorem dL_law_374 : decode cL_law 374 = .ok (.if_icmp .eq 701, 3) := by decide +kernel
theorem dL_law_377 : decode cL_law 377 = .ok (.iconst 0, 1) := by decide +kernel
theorem dL_law_378 : decode cL_law 378 = .ok (.ireturn, 1) := by decide +kernel
theorem dL_law_379 : decode cL_law 379 = .ok (.aload_n 1, 1) := by decide +kernel
theorem dL_law_380 : decode cL_law 380 = .ok (.aload_n 0, 1) := by decide +kernel
theorem dL_law_381 : decode cL_law 381 = .ok (.iload_n 3, 1) := by decide +kernel
theorem dL_law_382 : decode cL_law 382 = .ok (.iconst 1, 1) := by decide +kernel
theorem dL_law_383 : decode cL_law 383 = .ok (.iadd, 1) := by decide +kernel
theorem dL_law_384 : decode cL_law 384 = .ok (.iaload, 1) := by decide +kernel
theorem dL_law_385 : decode cL_law 385 = .ok (.aload_n 0, 1) := by decide +kernel
theorem dL_law_386 : decode cL_law 386 = .ok (.iload_n 3, 1) := by decide +kernel
theorem dL_law_387 : decode cL_law 387 = .ok (.iconst 2, 1) := by decide +kernel
theorem dL_law_388 : decode cL_law 388 = .ok (.iadd, 1) := by decide +kernel
theorem dL_law_389 : decode cL_law 389 = .ok (.iaload, 1) := by decide +kernel
theorem dL_law_390 : decode cL_law 390 = .ok (.invokevirtual 45, 3) := by decide +kernel
theorem dL_law_393 : decode cL_law 393 = .ok (.aload_n 2, 1) := by decide +kernel
theorem dL_law_394 : decode cL_law 394 = .ok (.aload_n 0, 1) := by decide +kernel
theorem dL_law_395 : decode cL_law 395 = .ok (.iload_n 3, 1) := by decide +kernel
theorem dL_law_396 : decode cL_law 396 = .ok (.iconst 1, 1) := by decide +kernel
theorem dL_law_397 : decode cL_law 397 = .ok (.iadd, 1) := by decide +kernel
theorem dL_law_398 : decode cL_law 398 = .ok (.iaload, 1) := by decide +kernel
theorem dL_law_399 : decode cL_law 399 = .ok (.aload_n 0, 1) := by decide +kernel
theorem dL_law_400 : decode cL_law 400 = .ok (.iload_n 3, 1) := by decide +kernel
theorem dL_law_401 : decode cL_law 401 = .ok (.iconst 2, 1) := by decide +kernel
theorem dL_law_402 : decode cL_law 402 = .ok (.iadd, 1) := by decide +kernel
theorem dL_law_403 : decode cL_law 403 = .ok (.iaload, 1) := by decide +kernel
theorem dL_law_404 : decode cL_law 404 = .ok (.invokevirtual 48, 3) := by decide +kernel
theorem dL_law_407 : decode cL_law 407 = .ok (.if_icmp .eq 668, 3) := by decide +kernel
theorem dL_law_410 : decode cL_law 410 = .ok (.iconst 0, 1) := by decide +kernel
theorem dL_law_411 : decode cL_law 411 = .ok (.ireturn, 1) := by decide +kernel
theorem dL_law_412 : decode cL_law 412 = .ok (.aload_n 1, 1) := by decide +kernel
theorem dL_law_413 : decode cL_law 413 = .ok (.aload_n 0, 1) := by decide +kernel
theorem dL_law_414 : decode cL_law 414 = .ok (.iload_n 3, 1) := by decide +kernel
theorem dL_law_415 : decode cL_law 415 = .ok (.iconst 1, 1) := by decide +kernel
theorem dL_law_416 : decode cL_law 416 = .ok (.iadd, 1) := by decide +kernel
theorem dL_law_417 : decode cL_law 417 = .ok (.iaload, 1) := by decide +kernel
theorem dL_law_418 : decode cL_law 418 = .ok (.aload_n 0, 1) := by decide +kernel
theorem dL_law_419 : decode cL_law 419 = .ok (.iload_n 3, 1) := by decide +kernel
theorem dL_law_420 : decode cL_law 420 = .ok (.iconst 2, 1) := by decide +kernel
theorem dL_law_421 : decode cL_law 421 = .ok (.iadd, 1) := by decide +kernel
theorem dL_law_422 : decode cL_law 422 = .ok (.iaload, 1) := by decide +kernel
theorem dL_law_423 : decode cL_law 423 = .ok (.invokevirtual 49, 3) := by decide +kernel
theorem dL_law_426 : decode cL_law 426 = .ok (.aload_n 2, 1) := by decide +kernel
theorem dL_law_427 : decode cL_law 427 = .ok (.aload_n 0, 1) := by decide +kernel
theorem dL_law_428 : decode cL_law 428 = .ok (.iload_n 3, 1) := by decide +kernel
theorem dL_law_429 : decode cL_law 429 = .ok (.iconst 1, 1) := by decide +kernel
theorem dL_law_430 : decode cL_law 430 = .ok (.iadd, 1) := by decide +kernel
theorem dL_law_431 : decode cL_law 431 = .ok (.iaload, 1) := by decide +kernel
theorem dL_law_432 : decode cL_law 432 = .ok (.aload_n 0, 1) := by decide +kernel
theorem dL_law_433 : decode cL_law 433 = .ok (.iload_n 3, 1) := by decide +kernel
theorem dL_law_434 : decode cL_law 434 = .ok (.iconst 2, 1) := by decide +kernel
theorem dL_law_435 : decode cL_law 435 = .ok (.iadd, 1) := by decide +kernel
theorem dL_law_436 : decode cL_law 436 = .ok (.iaload, 1) := by decide +kernel
theorem dL_law_437 : decode cL_law 437 = .ok (.invokevirtual 52, 3) := by decide +kernel
theorem dL_law_440 : decode cL_law 440 = .ok (.if_icmp .eq 635, 3) := by decide +kernel
theorem dL_law_443 : decode cL_law 443 = .ok (.iconst 0, 1) := by decide +kernel
theorem dL_law_444 : decode cL_law 444 = .ok (.ireturn, 1) := by decide +kernel
theorem dL_law_445 : decode cL_law 445 = .ok (.aload_n 1, 1) := by decide +kernel
theorem dL_law_446 : decode cL_law 446 = .ok (.invokevirtual 53, 3) := by decide +kernel
theorem dL_law_449 : decode cL_law 449 = .ok (.aload_n 2, 1) := by decide +kernel
theorem dL_law_450 : decode cL_law 450 = .ok (.invokevirtual 56, 3) := by decide +kernel
theorem dL_law_453 : decode cL_law 453 = .ok (.if_icmp .eq 622, 3) := by decide +kernel
theorem dL_law_456 : decode cL_law 456 = .ok (.iconst 0, 1) := by decide +kernel
theorem dL_law_457 : decode cL_law 457 = .ok (.ireturn, 1) := by decide +kernel
theorem dL_law_458 : decode cL_law 458 = .ok (.aload_n 1, 1) := by decide +kernel
theorem dL_law_459 : decode cL_law 459 = .ok (.invokevirtual 57, 3) := by decide +kernel
theorem dL_law_462 : decode cL_law 462 = .ok (.aload_n 2, 1) := by decide +kernel
theorem dL_law_463 : decode cL_law 463 = .ok (.invokevirtual 60, 3) := by decide +kernel
theorem dL_law_466 : decode cL_law 466 = .ok (.if_icmp .eq 609, 3) := by decide +kernel
theorem dL_law_469 : decode cL_law 469 = .ok (.iconst 0, 1) := by decide +kernel
theorem dL_law_470 : decode cL_law 470 = .ok (.ireturn, 1) := by decide +kernel
theorem dL_law_471 : decode cL_law 471 = .ok (.aload_n 1, 1) := by decide +kernel
theorem dL_law_472 : decode cL_law 472 = .ok (.invokevirtual 61, 3) := by decide +kernel
theorem dL_law_475 : decode cL_law 475 = .ok (.aload_n 2, 1) := by decide +kernel
theorem dL_law_476 : decode cL_law 476 = .ok (.invokevirtual 64, 3) := by decide +kernel
theorem dL_law_479 : decode cL_law 479 = .ok (.if_icmp .eq 596, 3) := by decide +kernel
theorem dL_law_482 : decode cL_law 482 = .ok (.iconst 0, 1) := by decide +kernel
theorem dL_law_483 : decode cL_law 483 = .ok (.ireturn, 1) := by decide +kernel
theorem dL_law_484 : decode cL_law 484 = .ok (.aload_n 1, 1) := by decide +kernel
theorem dL_law_485 : decode cL_law 485 = .ok (.aload_n 0, 1) := by decide +kernel
theorem dL_law_486 : decode cL_law 486 = .ok (.iload_n 3, 1) := by decide +kernel
theorem dL_law_487 : decode cL_law 487 = .ok (.iconst 1, 1) := by decide +kernel
theorem dL_law_488 : decode cL_law 488 = .ok (.iadd, 1) := by decide +kernel
theorem dL_law_489 : decode cL_law 489 = .ok (.iaload, 1) := by decide +kernel
theorem dL_law_490 : decode cL_law 490 = .ok (.aload_n 0, 1) := by decide +kernel
theorem dL_law_491 : decode cL_law 491 = .ok (.iload_n 3, 1) := by decide +kernel
theorem dL_law_492 : decode cL_law 492 = .ok (.iconst 2, 1) := by decide +kernel
theorem dL_law_493 : decode cL_law 493 = .ok (.iadd, 1) := by decide +kernel
theorem dL_law_494 : decode cL_law 494 = .ok (.iaload, 1) := by decide +kernel
theorem dL_law_495 : decode cL_law 495 = .ok (.invokevirtual 65, 3) := by decide +kernel
theorem dL_law_498 : decode cL_law 498 = .ok (.aload_n 2, 1) := by decide +kernel
theorem dL_law_499 : decode cL_law 499 = .ok (.aload_n 0, 1) := by decide +kernel
theorem dL_law_500 : decode cL_law 500 = .ok (.iload_n 3, 1) := by decide +kernel
theorem dL_law_501 : decode cL_law 501 = .ok (.iconst 1, 1) := by decide +kernel
theorem dL_law_502 : decode cL_law 502 = .ok (.iadd, 1) := by decide +kernel
theorem dL_law_503 : decode cL_law 503 = .ok (.iaload, 1) := by decide +kernel
theorem dL_law_504 : decode cL_law 504 = .ok (.aload_n 0, 1) := by decide +kernel
theorem dL_law_505 : decode cL_law 505 = .ok (.iload_n 3, 1) := by decide +kernel
theorem dL_law_506 : decode cL_law 506 = .ok (.iconst 2, 1) := by decide +kernel
theorem dL_law_507 : decode cL_law 507 = .ok (.iadd, 1) := by decide +kernel
theorem dL_law_508 : decode cL_law 508 = .ok (.iaload, 1) := by decide +kernel
theorem dL_law_509 : decode cL_law 509 = .ok (.invokevirtual 68, 3) := by decide +kernel
theorem dL_law_512 : decode cL_law 512 = .ok (.if_icmp .eq 563, 3) := by decide +kernel
theorem dL_law_515 : decode cL_law 515 = .ok (.iconst 0, 1) := by decide +kernel
theorem dL_law_516 : decode cL_law 516 = .ok (.ireturn, 1) := by decide +kernel
theorem dL_law_517 : decode cL_law 517 = .ok (.aload_n 1, 1) := by decide +kernel
theorem dL_law_518 : decode cL_law 518 = .ok (.invokevirtual 69, 3) := by decide +kernel
theorem dL_law_521 : decode cL_law 521 = .ok (.aload_n 2, 1) := by decide +kernel
theorem dL_law_522 : decode cL_law 522 = .ok (.invokevirtual 72, 3) := by decide +kernel
theorem dL_law_525 : decode cL_law 525 = .ok (.if_icmp .eq 550, 3) := by decide +kernel
theorem dL_law_528 : decode cL_law 528 = .ok (.iconst 0, 1) := by decide +kernel
theorem dL_law_529 : decode cL_law 529 = .ok (.ireturn, 1) := by decide +kernel
theorem dL_law_530 : decode cL_law 530 = .ok (.aload_n 1, 1) := by decide +kernel
theorem dL_law_531 : decode cL_law 531 = .ok (.invokevirtual 73, 3) := by decide +kernel
theorem dL_law_534 : decode cL_law 534 = .ok (.aload_n 2, 1) := by decide +kernel
theorem dL_law_535 : decode cL_law 535 = .ok (.invokevirtual 76, 3) := by decide +kernel
theorem dL_law_538 : decode cL_law 538 = .ok (.if_icmp .eq 537, 3) := by decide +kernel
theorem dL_law_541 : decode cL_law 541 = .ok (.iconst 0, 1) := by decide +kernel
theorem dL_law_542 : decode cL_law 542 = .ok (.ireturn, 1) := by decide +kernel
theorem dL_law_543 : decode cL_law 543 = .ok (.aload_n 1, 1) := by decide +kernel
theorem dL_law_544 : decode cL_law 544 = .ok (.aload_n 0, 1) := by decide +kernel
theorem dL_law_545 : decode cL_law 545 = .ok (.iload_n 3, 1) := by decide +kernel
theorem dL_law_546 : decode cL_law 546 = .ok (.iconst 1, 1) := by decide +kernel
theorem dL_law_547 : decode cL_law 547 = .ok (.iadd, 1) := by decide +kernel
theorem dL_law_548 : decode cL_law 548 = .ok (.iaload, 1) := by decide +kernel
theorem dL_law_549 : decode cL_law 549 = .ok (.aload_n 0, 1) := by decide +kernel
theorem dL_law_550 : decode cL_law 550 = .ok (.iload_n 3, 1) := by decide +kernel
theorem dL_law_551 : decode cL_law 551 = .ok (.iconst 2, 1) := by decide +kernel
theorem dL_law_552 : decode cL_law 552 = .ok (.iadd, 1) := by decide +kernel
theorem dL_law_553 : decode cL_law 553 = .ok (.iaload, 1) := by decide +kernel
theorem dL_law_554 : decode cL_law 554 = .ok (.invokevirtual 77, 3) := by decide +kernel
theorem dL_law_557 : decode cL_law 557 = .ok (.aload_n 2, 1) := by decide +kernel
theorem dL_law_558 : decode cL_law 558 = .ok (.aload_n 0, 1) := by decide +kernel
theorem dL_law_559 : decode cL_law 559 = .ok (.iload_n 3, 1) := by decide +kernel
theorem dL_law_560 : decode cL_law 560 = .ok (.iconst 1, 1) := by decide +kernel
theorem dL_law_561 : decode cL_law 561 = .ok (.iadd, 1) := by decide +kernel
theorem dL_law_562 : decode cL_law 562 = .ok (.iaload, 1) := by decide +kernel
theorem dL_law_563 : decode cL_law 563 = .ok (.aload_n 0, 1) := by decide +kernel
theorem dL_law_564 : decode cL_law 564 = .ok (.iload_n 3, 1) := by decide +kernel
theorem dL_law_565 : decode cL_law 565 = .ok (.iconst 2, 1) := by decide +kernel
theorem dL_law_566 : decode cL_law 566 = .ok (.iadd, 1) := by decide +kernel
theorem dL_law_567 : decode cL_law 567 = .ok (.iaload, 1) := by decide +kernel
theorem dL_law_568 : decode cL_law 568 = .ok (.invokevirtual 80, 3) := by decide +kernel
theorem dL_law_571 : decode cL_law 571 = .ok (.if_icmp .eq 504, 3) := by decide +kernel
theorem dL_law_574 : decode cL_law 574 = .ok (.iconst 0, 1) := by decide +kernel
theorem dL_law_575 : decode cL_law 575 = .ok (.ireturn, 1) := by decide +kernel
theorem dL_law_576 : decode cL_law 576 = .ok (.aload_n 1, 1) := by decide +kernel
theorem dL_law_577 : decode cL_law 577 = .ok (.aload_n 0, 1) := by decide +kernel
theorem dL_law_578 : decode cL_law 578 = .ok (.iload_n 3, 1) := by decide +kernel
theorem dL_law_579 : decode cL_law 579 = .ok (.iconst 1, 1) := by decide +kernel
theorem dL_law_580 : decode cL_law 580 = .ok (.iadd, 1) := by decide +kernel
theorem dL_law_581 : decode cL_law 581 = .ok (.iaload, 1) := by decide +kernel
theorem dL_law_582 : decode cL_law 582 = .ok (.invokevirtual 81, 3) := by decide +kernel
theorem dL_law_585 : decode cL_law 585 = .ok (.aload_n 2, 1) := by decide +kernel
theorem dL_law_586 : decode cL_law 586 = .ok (.aload_n 0, 1) := by decide +kernel
theorem dL_law_587 : decode cL_law 587 = .ok (.iload_n 3, 1) := by decide +kernel
theorem dL_law_588 : decode cL_law 588 = .ok (.iconst 1, 1) := by decide +kernel
theorem dL_law_589 : decode cL_law 589 = .ok (.iadd, 1) := by decide +kernel
theorem dL_law_590 : decode cL_law 590 = .ok (.iaload, 1) := by decide +kernel
theorem dL_law_591 : decode cL_law 591 = .ok (.invokevirtual 84, 3) := by decide +kernel
theorem dL_law_594 : decode cL_law 594 = .ok (.if_icmp .eq 481, 3) := by decide +kernel
theorem dL_law_597 : decode cL_law 597 = .ok (.iconst 0, 1) := by decide +kernel
theorem dL_law_598 : decode cL_law 598 = .ok (.ireturn, 1) := by decide +kernel
theorem dL_law_599 : decode cL_law 599 = .ok (.aload_n 1, 1) := by decide +kernel
theorem dL_law_600 : decode cL_law 600 = .ok (.aload_n 0, 1) := by decide +kernel
theorem dL_law_601 : decode cL_law 601 = .ok (.iload_n 3, 1) := by decide +kernel
theorem dL_law_602 : decode cL_law 602 = .ok (.iconst 1, 1) := by decide +kernel
theorem dL_law_603 : decode cL_law 603 = .ok (.iadd, 1) := by decide +kernel
theorem dL_law_604 : decode cL_law 604 = .ok (.iaload, 1) := by decide +kernel
theorem dL_law_605 : decode cL_law 605 = .ok (.invokevirtual 85, 3) := by decide +kernel
theorem dL_law_608 : decode cL_law 608 = .ok (.aload_n 2, 1) := by decide +kernel
theorem dL_law_609 : decode cL_law 609 = .ok (.aload_n 0, 1) := by decide +kernel
theorem dL_law_610 : decode cL_law 610 = .ok (.iload_n 3, 1) := by decide +kernel
theorem dL_law_611 : decode cL_law 611 = .ok (.iconst 1, 1) := by decide +kernel
theorem dL_law_612 : decode cL_law 612 = .ok (.iadd, 1) := by decide +kernel
theorem dL_law_613 : decode cL_law 613 = .ok (.iaload, 1) := by decide +kernel
theorem dL_law_614 : decode cL_law 614 = .ok (.invokevirtual 88, 3) := by decide +kernel
theorem dL_law_617 : decode cL_law 617 = .ok (.if_icmp .eq 458, 3) := by decide +kernel
theorem dL_law_620 : decode cL_law 620 = .ok (.iconst 0, 1) := by decide +kernel
theorem dL_law_621 : decode cL_law 621 = .ok (.ireturn, 1) := by decide +kernel
theorem dL_law_622 : decode cL_law 622 = .ok (.aload_n 1, 1) := by decide +kernel
theorem dL_law_623 : decode cL_law 623 = .ok (.aload_n 0, 1) := by decide +kernel
theorem dL_law_624 : decode cL_law 624 = .ok (.iload_n 3, 1) := by decide +kernel
theorem dL_law_625 : decode cL_law 625 = .ok (.iconst 1, 1) := by decide +kernel
theorem dL_law_626 : decode cL_law 626 = .ok (.iadd, 1) := by decide +kernel
theorem dL_law_627 : decode cL_law 627 = .ok (.iaload, 1) := by decide +kernel
theorem dL_law_628 : decode cL_law 628 = .ok (.invokevirtual 89, 3) := by decide +kernel
theorem dL_law_631 : decode cL_law 631 = .ok (.aload_n 2, 1) := by decide +kernel
theorem dL_law_632 : decode cL_law 632 = .ok (.aload_n 0, 1) := by decide +kernel
theorem dL_law_633 : decode cL_law 633 = .ok (.iload_n 3, 1) := by decide +kernel
theorem dL_law_634 : decode cL_law 634 = .ok (.iconst 1, 1) := by decide +kernel
theorem dL_law_635 : decode cL_law 635 = .ok (.iadd, 1) := by decide +kernel
theorem dL_law_636 : decode cL_law 636 = .ok (.iaload, 1) := by decide +kernel
theorem dL_law_637 : decode cL_law 637 = .ok (.invokevirtual 92, 3) := by decide +kernel
theorem dL_law_640 : decode cL_law 640 = .ok (.if_icmp .eq 435, 3) := by decide +kernel
theorem dL_law_643 : decode cL_law 643 = .ok (.iconst 0, 1) := by decide +kernel
theorem dL_law_644 : decode cL_law 644 = .ok (.ireturn, 1) := by decide +kernel
theorem dL_law_645 : decode cL_law 645 = .ok (.aload_n 1, 1) := by decide +kernel
theorem dL_law_646 : decode cL_law 646 = .ok (.aload_n 0, 1) := by decide +kernel
theorem dL_law_647 : decode cL_law 647 = .ok (.iload_n 3, 1) := by decide +kernel
theorem dL_law_648 : decode cL_law 648 = .ok (.iconst 1, 1) := by decide +kernel
theorem dL_law_649 : decode cL_law 649 = .ok (.iadd, 1) := by decide +kernel
theorem dL_law_650 : decode cL_law 650 = .ok (.iaload, 1) := by decide +kernel
theorem dL_law_651 : decode cL_law 651 = .ok (.invokevirtual 93, 3) := by decide +kernel
theorem dL_law_654 : decode cL_law 654 = .ok (.aload_n 2, 1) := by decide +kernel
theorem dL_law_655 : decode cL_law 655 = .ok (.aload_n 0, 1) := by decide +kernel
theorem dL_law_656 : decode cL_law 656 = .ok (.iload_n 3, 1) := by decide +kernel
theorem dL_law_657 : decode cL_law 657 = .ok (.iconst 1, 1) := by decide +kernel
theorem dL_law_658 : decode cL_law 658 = .ok (.iadd, 1) := by decide +kernel
theorem dL_law_659 : decode cL_law 659 = .ok (.iaload, 1) := by decide +kernel
theorem dL_law_660 : decode cL_law 660 = .ok (.invokevirtual 96, 3) := by decide +kernel
theorem dL_law_663 : decode cL_law 663 = .ok (.if_icmp .eq 412, 3) := by decide +kernel
theorem dL_law_666 : decode cL_law 666 = .ok (.iconst 0, 1) := by decide +kernel
theorem dL_law_667 : decode cL_law 667 = .ok (.ireturn, 1) := by decide +kernel
theorem dL_law_668 : decode cL_law 668 = .ok (.aload_n 1, 1) := by decide +kernel
theorem dL_law_669 : decode cL_law 669 = .ok (.aload_n 0, 1) := by decide +kernel
theorem dL_law_670 : decode cL_law 670 = .ok (.iload_n 3, 1) := by decide +kernel
theorem dL_law_671 : decode cL_law 671 = .ok (.iconst 1, 1) := by decide +kernel
theorem dL_law_672 : decode cL_law 672 = .ok (.iadd, 1) := by decide +kernel
theorem dL_law_673 : decode cL_law 673 = .ok (.iaload, 1) := by decide +kernel
theorem dL_law_674 : decode cL_law 674 = .ok (.invokevirtual 97, 3) := by decide +kernel
theorem dL_law_677 : decode cL_law 677 = .ok (.aload_n 2, 1) := by decide +kernel
theorem dL_law_678 : decode cL_law 678 = .ok (.aload_n 0, 1) := by decide +kernel
theorem dL_law_679 : decode cL_law 679 = .ok (.iload_n 3, 1) := by decide +kernel
theorem dL_law_680 : decode cL_law 680 = .ok (.iconst 1, 1) := by decide +kernel
theorem dL_law_681 : decode cL_law 681 = .ok (.iadd, 1) := by decide +kernel
theorem dL_law_682 : decode cL_law 682 = .ok (.iaload, 1) := by decide +kernel
theorem dL_law_683 : decode cL_law 683 = .ok (.invokevirtual 100, 3) := by decide +kernel
theorem dL_law_686 : decode cL_law 686 = .ok (.if_icmp .eq 389, 3) := by decide +kernel
theorem dL_law_689 : decode cL_law 689 = .ok (.iconst 0, 1) := by decide +kernel
theorem dL_law_690 : decode cL_law 690 = .ok (.ireturn, 1) := by decide +kernel
theorem dL_law_691 : decode cL_law 691 = .ok (.aload_n 1, 1) := by decide +kernel
theorem dL_law_692 : decode cL_law 692 = .ok (.aload_n 0, 1) := by decide +kernel
theorem dL_law_693 : decode cL_law 693 = .ok (.iload_n 3, 1) := by decide +kernel
theorem dL_law_694 : decode cL_law 694 = .ok (.iconst 1, 1) := by decide +kernel
theorem dL_law_695 : decode cL_law 695 = .ok (.iadd, 1) := by decide +kernel
theorem dL_law_696 : decode cL_law 696 = .ok (.iaload, 1) := by decide +kernel
theorem dL_law_697 : decode cL_law 697 = .ok (.invokevirtual 101, 3) := by decide +kernel
theorem dL_law_700 : decode cL_law 700 = .ok (.aload_n 2, 1) := by decide +kernel
theorem dL_law_701 : decode cL_law 701 = .ok (.aload_n 0, 1) := by decide +kernel
theorem dL_law_702 : decode cL_law 702 = .ok (.iload_n 3, 1) := by decide +kernel
theorem dL_law_703 : decode cL_law 703 = .ok (.iconst 1, 1) := by decide +kernel
theorem dL_law_704 : decode cL_law 704 = .ok (.iadd, 1) := by decide +kernel
theorem dL_law_705 : decode cL_law 705 = .ok (.iaload, 1) := by decide +kernel
theorem dL_law_706 : decode cL_law 706 = .ok (.invokevirtual 104, 3) := by decide +kernel
theorem dL_law_709 : decode cL_law 709 = .ok (.if_icmp .eq 366, 3) := by decide +kernel
theorem dL_law_712 : decode cL_law 712 = .ok (.iconst 0, 1) := by decide +kernel
theorem dL_law_713 : decode cL_law 713 = .ok (.ireturn, 1) := by decide +kernel
theorem dL_law_714 : decode cL_law 714 = .ok (.aload_n 1, 1) := by decide +kernel
theorem dL_law_715 : decode cL_law 715 = .ok (.aload_n 0, 1) := by decide +kernel
theorem dL_law_716 : decode cL_law 716 = .ok (.iload_n 3, 1) := by decide +kernel
theorem dL_law_717 : decode cL_law 717 = .ok (.iconst 1, 1) := by decide +kernel
theorem dL_law_718 : decode cL_law 718 = .ok (.iadd, 1) := by decide +kernel
theorem dL_law_719 : decode cL_law 719 = .ok (.iaload, 1) := by decide +kernel
theorem dL_law_720 : decode cL_law 720 = .ok (.invokevirtual 105, 3) := by decide +kernel
theorem dL_law_723 : decode cL_law 723 = .ok (.aload_n 2, 1) := by decide +kernel
theorem dL_law_724 : decode cL_law 724 = .ok (.aload_n 0, 1) := by decide +kernel
theorem dL_law_725 : decode cL_law 725 = .ok (.iload_n 3, 1) := by decide +kernel
theorem dL_law_726 : decode cL_law 726 = .ok (.iconst 1, 1) := by decide +kernel
theorem dL_law_727 : decode cL_law 727 = .ok (.iadd, 1) := by decide +kernel
theorem dL_law_728 : decode cL_law 728 = .ok (.iaload, 1) := by decide +kernel
theorem dL_law_729 : decode cL_law 729 = .ok (.invokevirtual 108, 3) := by decide +kernel
theorem dL_law_732 : decode cL_law 732 = .ok (.if_icmp .eq 343, 3) := by decide +kernel
theorem dL_law_735 : decode cL_law 735 = .ok (.iconst 0, 1) := by decide +kernel
theorem dL_law_736 : decode cL_law 736 = .ok (.ireturn, 1) := by decide +kernel
theorem dL_law_737 : decode cL_law 737 = .ok (.aload_n 1, 1) := by decide +kernel
theorem dL_law_738 : decode cL_law 738 = .ok (.aload_n 0, 1) := by decide +kernel
theorem dL_law_739 : decode cL_law 739 = .ok (.iload_n 3, 1) := by decide +kernel
theorem dL_law_740 : decode cL_law 740 = .ok (.iconst 1, 1) := by decide +kernel
theorem dL_law_741 : decode cL_law 741 = .ok (.iadd, 1) := by decide +kernel
theorem dL_law_742 : decode cL_law 742 = .ok (.iaload, 1) := by decide +kernel
theorem dL_law_743 : decode cL_law 743 = .ok (.invokevirtual 109, 3) := by decide +kernel
theorem dL_law_746 : decode cL_law 746 = .ok (.aload_n 2, 1) := by decide +kernel
theorem dL_law_747 : decode cL_law 747 = .ok (.aload_n 0, 1) := by decide +kernel
theorem dL_law_748 : decode cL_law 748 = .ok (.iload_n 3, 1) := by decide +kernel
theorem dL_law_749 : decode cL_law 749 = .ok (.iconst 1, 1) := by decide +kernel
theorem dL_law_750 : decode cL_law 750 = .ok (.iadd, 1) := by decide +kernel
theorem dL_law_751 : decode cL_law 751 = .ok (.iaload, 1) := by decide +kernel
theorem dL_law_752 : decode cL_law 752 = .ok (.invokevirtual 112, 3) := by decide +kernel
theorem dL_law_755 : decode cL_law 755 = .ok (.if_icmp .eq 320, 3) := by decide +kernel
theorem dL_law_758 : decode cL_law 758 = .ok (.iconst 0, 1) := by decide +kernel
theorem dL_law_759 : decode cL_law 759 = .ok (.ireturn, 1) := by decide +kernel
theorem dL_law_760 : decode cL_law 760 = .ok (.aload_n 1, 1) := by decide +kernel
theorem dL_law_761 : decode cL_law 761 = .ok (.invokevirtual 113, 3) := by decide +kernel
theorem dL_law_764 : decode cL_law 764 = .ok (.aload_n 2, 1) := by decide +kernel
theorem dL_law_765 : decode cL_law 765 = .ok (.invokevirtual 116, 3) := by decide +kernel
theorem dL_law_768 : decode cL_law 768 = .ok (.if_icmp .eq 307, 3) := by decide +kernel
theorem dL_law_771 : decode cL_law 771 = .ok (.iconst 0, 1) := by decide +kernel
theorem dL_law_772 : decode cL_law 772 = .ok (.ireturn, 1) := by decide +kernel
theorem dL_law_773 : decode cL_law 773 = .ok (.aload_n 1, 1) := by decide +kernel
theorem dL_law_774 : decode cL_law 774 = .ok (.invokevirtual 117, 3) := by decide +kernel
theorem dL_law_777 : decode cL_law 777 = .ok (.aload_n 2, 1) := by decide +kernel
theorem dL_law_778 : decode cL_law 778 = .ok (.invokevirtual 120, 3) := by decide +kernel
theorem dL_law_781 : decode cL_law 781 = .ok (.if_icmp .eq 294, 3) := by decide +kernel
theorem dL_law_784 : decode cL_law 784 = .ok (.iconst 0, 1) := by decide +kernel
theorem dL_law_785 : decode cL_law 785 = .ok (.ireturn, 1) := by decide +kernel
theorem dL_law_786 : decode cL_law 786 = .ok (.aload_n 1, 1) := by decide +kernel
theorem dL_law_787 : decode cL_law 787 = .ok (.invokevirtual 121, 3) := by decide +kernel
theorem dL_law_790 : decode cL_law 790 = .ok (.aload_n 2, 1) := by decide +kernel
theorem dL_law_791 : decode cL_law 791 = .ok (.invokevirtual 124, 3) := by decide +kernel
theorem dL_law_794 : decode cL_law 794 = .ok (.if_icmp .eq 281, 3) := by decide +kernel
theorem dL_law_797 : decode cL_law 797 = .ok (.iconst 0, 1) := by decide +kernel
theorem dL_law_798 : decode cL_law 798 = .ok (.ireturn, 1) := by decide +kernel
theorem dL_law_799 : decode cL_law 799 = .ok (.aload_n 1, 1) := by decide +kernel
theorem dL_law_800 : decode cL_law 800 = .ok (.aload_n 0, 1) := by decide +kernel
theorem dL_law_801 : decode cL_law 801 = .ok (.iload_n 3, 1) := by decide +kernel
theorem dL_law_802 : decode cL_law 802 = .ok (.iconst 1, 1) := by decide +kernel
theorem dL_law_803 : decode cL_law 803 = .ok (.iadd, 1) := by decide +kernel
theorem dL_law_804 : decode cL_law 804 = .ok (.iaload, 1) := by decide +kernel
theorem dL_law_805 : decode cL_law 805 = .ok (.aload_n 0, 1) := by decide +kernel
theorem dL_law_806 : decode cL_law 806 = .ok (.iload_n 3, 1) := by decide +kernel
theorem dL_law_807 : decode cL_law 807 = .ok (.iconst 2, 1) := by decide +kernel
theorem dL_law_808 : decode cL_law 808 = .ok (.iadd, 1) := by decide +kernel
theorem dL_law_809 : decode cL_law 809 = .ok (.iaload, 1) := by decide +kernel
theorem dL_law_810 : decode cL_law 810 = .ok (.aload_n 0, 1) := by decide +kernel
theorem dL_law_811 : decode cL_law 811 = .ok (.iload_n 3, 1) := by decide +kernel
theorem dL_law_812 : decode cL_law 812 = .ok (.iconst 3, 1) := by decide +kernel
theorem dL_law_813 : decode cL_law 813 = .ok (.iadd, 1) := by decide +kernel
theorem dL_law_814 : decode cL_law 814 = .ok (.iaload, 1) := by decide +kernel
theorem dL_law_815 : decode cL_law 815 = .ok (.invokevirtual 125, 3) := by decide +kernel
theorem dL_law_818 : decode cL_law 818 = .ok (.aload_n 2, 1) := by decide +kernel
theorem dL_law_819 : decode cL_law 819 = .ok (.aload_n 0, 1) := by decide +kernel
theorem dL_law_820 : decode cL_law 820 = .ok (.iload_n 3, 1) := by decide +kernel
theorem dL_law_821 : decode cL_law 821 = .ok (.iconst 1, 1) := by decide +kernel
theorem dL_law_822 : decode cL_law 822 = .ok (.iadd, 1) := by decide +kernel
theorem dL_law_823 : decode cL_law 823 = .ok (.iaload, 1) := by decide +kernel
theorem dL_law_824 : decode cL_law 824 = .ok (.aload_n 0, 1) := by decide +kernel
theorem dL_law_825 : decode cL_law 825 = .ok (.iload_n 3, 1) := by decide +kernel
theorem dL_law_826 : decode cL_law 826 = .ok (.iconst 2, 1) := by decide +kernel
theorem dL_law_827 : decode cL_law 827 = .ok (.iadd, 1) := by decide +kernel
theorem dL_law_828 : decode cL_law 828 = .ok (.iaload, 1) := by decide +kernel
theorem dL_law_829 : decode cL_law 829 = .ok (.aload_n 0, 1) := by decide +kernel
theorem dL_law_830 : decode cL_law 830 = .ok (.iload_n 3, 1) := by decide +kernel
theorem dL_law_831 : decode cL_law 831 = .ok (.iconst 3, 1) := by decide +kernel
theorem dL_law_832 : decode cL_law 832 = .ok (.iadd, 1) := by decide +kernel
theorem dL_law_833 : decode cL_law 833 = .ok (.iaload, 1) := by decide +kernel
theorem dL_law_834 : decode cL_law 834 = .ok (.invokevirtual 128, 3) := by decide +kernel
theorem dL_law_837 : decode cL_law 837 = .ok (.if_icmp .eq 238, 3) := by decide +kernel
theorem dL_law_840 : decode cL_law 840 = .ok (.iconst 0, 1) := by decide +kernel
theorem dL_law_841 : decode cL_law 841 = .ok (.ireturn, 1) := by decide +kernel
theorem dL_law_842 : decode cL_law 842 = .ok (.aload_n 1, 1) := by decide +kernel
theorem dL_law_843 : decode cL_law 843 = .ok (.aload_n 0, 1) := by decide +kernel
theorem dL_law_844 : decode cL_law 844 = .ok (.iload_n 3, 1) := by decide +kernel
theorem dL_law_845 : decode cL_law 845 = .ok (.iconst 1, 1) := by decide +kernel
theorem dL_law_846 : decode cL_law 846 = .ok (.iadd, 1) := by decide +kernel
theorem dL_law_847 : decode cL_law 847 = .ok (.iaload, 1) := by decide +kernel
theorem dL_law_848 : decode cL_law 848 = .ok (.invokevirtual 129, 3) := by decide +kernel
theorem dL_law_851 : decode cL_law 851 = .ok (.aload_n 2, 1) := by decide +kernel
theorem dL_law_852 : decode cL_law 852 = .ok (.aload_n 0, 1) := by decide +kernel
theorem dL_law_853 : decode cL_law 853 = .ok (.iload_n 3, 1) := by decide +kernel
theorem dL_law_854 : decode cL_law 854 = .ok (.iconst 1, 1) := by decide +kernel
theorem dL_law_855 : decode cL_law 855 = .ok (.iadd, 1) := by decide +kernel
theorem dL_law_856 : decode cL_law 856 = .ok (.iaload, 1) := by decide +kernel
theorem dL_law_857 : decode cL_law 857 = .ok (.invokevirtual 132, 3) := by decide +kernel
theorem dL_law_860 : decode cL_law 860 = .ok (.if_icmp .eq 215, 3) := by decide +kernel
theorem dL_law_863 : decode cL_law 863 = .ok (.iconst 0, 1) := by decide +kernel
theorem dL_law_864 : decode cL_law 864 = .ok (.ireturn, 1) := by decide +kernel
theorem dL_law_865 : decode cL_law 865 = .ok (.aload_n 1, 1) := by decide +kernel
theorem dL_law_866 : decode cL_law 866 = .ok (.aload_n 0, 1) := by decide +kernel
theorem dL_law_867 : decode cL_law 867 = .ok (.iload_n 3, 1) := by decide +kernel
theorem dL_law_868 : decode cL_law 868 = .ok (.iconst 1, 1) := by decide +kernel
theorem dL_law_869 : decode cL_law 869 = .ok (.iadd, 1) := by decide +kernel
theorem dL_law_870 : decode cL_law 870 = .ok (.iaload, 1) := by decide +kernel
theorem dL_law_871 : decode cL_law 871 = .ok (.aload_n 0, 1) := by decide +kernel
theorem dL_law_872 : decode cL_law 872 = .ok (.iload_n 3, 1) := by decide +kernel
theorem dL_law_873 : decode cL_law 873 = .ok (.iconst 2, 1) := by decide +kernel
theorem dL_law_874 : decode cL_law 874 = .ok (.iadd, 1) := by decide +kernel
theorem dL_law_875 : decode cL_law 875 = .ok (.iaload, 1) := by decide +kernel
theorem dL_law_876 : decode cL_law 876 = .ok (.aload_n 0, 1) := by decide +kernel
theorem dL_law_877 : decode cL_law 877 = .ok (.iload_n 3, 1) := by decide +kernel
theorem dL_law_878 : decode cL_law 878 = .ok (.iconst 3, 1) := by decide +kernel
theorem dL_law_879 : decode cL_law 879 = .ok (.iadd, 1) := by decide +kernel
theorem dL_law_880 : decode cL_law 880 = .ok (.iaload, 1) := by decide +kernel
theorem dL_law_881 : decode cL_law 881 = .ok (.aload_n 0, 1) := by decide +kernel
theorem dL_law_882 : decode cL_law 882 = .ok (.iload_n 3, 1) := by decide +kernel
theorem dL_law_883 : decode cL_law 883 = .ok (.iconst 4, 1) := by decide +kernel
theorem dL_law_884 : decode cL_law 884 = .ok (.iadd, 1) := by decide +kernel
theorem dL_law_885 : decode cL_law 885 = .ok (.iaload, 1) := by decide +kernel
theorem dL_law_886 : decode cL_law 886 = .ok (.invokevirtual 133, 3) := by decide +kernel
theorem dL_law_889 : decode cL_law 889 = .ok (.aload_n 2, 1) := by decide +kernel
theorem dL_law_890 : decode cL_law 890 = .ok (.aload_n 0, 1) := by decide +kernel
theorem dL_law_891 : decode cL_law 891 = .ok (.iload_n 3, 1) := by decide +kernel
theorem dL_law_892 : decode cL_law 892 = .ok (.iconst 1, 1) := by decide +kernel
theorem dL_law_893 : decode cL_law 893 = .ok (.iadd, 1) := by decide +kernel
theorem dL_law_894 : decode cL_law 894 = .ok (.iaload, 1) := by decide +kernel
theorem dL_law_895 : decode cL_law 895 = .ok (.aload_n 0, 1) := by decide +kernel
theorem dL_law_896 : decode cL_law 896 = .ok (.iload_n 3, 1) := by decide +kernel
theorem dL_law_897 : decode cL_law 897 = .ok (.iconst 2, 1) := by decide +kernel
theorem dL_law_898 : decode cL_law 898 = .ok (.iadd, 1) := by decide +kernel
theorem dL_law_899 : decode cL_law 899 = .ok (.iaload, 1) := by decide +kernel
theorem dL_law_900 : decode cL_law 900 = .ok (.aload_n 0, 1) := by decide +kernel
theorem dL_law_901 : decode cL_law 901 = .ok (.iload_n 3, 1) := by decide +kernel
theorem dL_law_902 : decode cL_law 902 = .ok (.iconst 3, 1) := by decide +kernel
theorem dL_law_903 : decode cL_law 903 = .ok (.iadd, 1) := by decide +kernel
theorem dL_law_904 : decode cL_law 904 = .ok (.iaload, 1) := by decide +kernel
theorem dL_law_905 : decode cL_law 905 = .ok (.aload_n 0, 1) := by decide +kernel
theorem dL_law_906 : decode cL_law 906 = .ok (.iload_n 3, 1) := by decide +kernel
theorem dL_law_907 : decode cL_law 907 = .ok (.iconst 4, 1) := by decide +kernel
theorem dL_law_908 : decode cL_law 908 = .ok (.iadd, 1) := by decide +kernel
theorem dL_law_909 : decode cL_law 909 = .ok (.iaload, 1) := by decide +kernel
theorem dL_law_910 : decode cL_law 910 = .ok (.invokevirtual 137, 3) := by decide +kernel
theorem dL_law_913 : decode cL_law 913 = .ok (.if_icmp .eq 162, 3) := by decide +kernel
theorem dL_law_916 : decode cL_law 916 = .ok (.iconst 0, 1) := by decide +kernel
theorem dL_law_917 : decode cL_law 917 = .ok (.ireturn, 1) := by decide +kernel
theorem dL_law_918 : decode cL_law 918 = .ok (.aload_n 1, 1) := by decide +kernel
theorem dL_law_919 : decode cL_law 919 = .ok (.aload_n 0, 1) := by decide +kernel
theorem dL_law_920 : decode cL_law 920 = .ok (.iload_n 3, 1) := by decide +kernel
theorem dL_law_921 : decode cL_law 921 = .ok (.iconst 1, 1) := by decide +kernel
theorem dL_law_922 : decode cL_law 922 = .ok (.iadd, 1) := by decide +kernel
theorem dL_law_923 : decode cL_law 923 = .ok (.iaload, 1) := by decide +kernel
theorem dL_law_924 : decode cL_law 924 = .ok (.aload_n 0, 1) := by decide +kernel
theorem dL_law_925 : decode cL_law 925 = .ok (.iload_n 3, 1) := by decide +kernel
theorem dL_law_926 : decode cL_law 926 = .ok (.iconst 2, 1) := by decide +kernel
theorem dL_law_927 : decode cL_law 927 = .ok (.iadd, 1) := by decide +kernel
theorem dL_law_928 : decode cL_law 928 = .ok (.iaload, 1) := by decide +kernel
theorem dL_law_929 : decode cL_law 929 = .ok (.invokevirtual 138, 3) := by decide +kernel
theorem dL_law_932 : decode cL_law 932 = .ok (.aload_n 2, 1) := by decide +kernel
theorem dL_law_933 : decode cL_law 933 = .ok (.aload_n 0, 1) := by decide +kernel
theorem dL_law_934 : decode cL_law 934 = .ok (.iload_n 3, 1) := by decide +kernel
theorem dL_law_935 : decode cL_law 935 = .ok (.iconst 1, 1) := by decide +kernel
theorem dL_law_936 : decode cL_law 936 = .ok (.iadd, 1) := by decide +kernel
theorem dL_law_937 : decode cL_law 937 = .ok (.iaload, 1) := by decide +kernel
theorem dL_law_938 : decode cL_law 938 = .ok (.aload_n 0, 1) := by decide +kernel
theorem dL_law_939 : decode cL_law 939 = .ok (.iload_n 3, 1) := by decide +kernel
theorem dL_law_940 : decode cL_law 940 = .ok (.iconst 2, 1) := by decide +kernel
theorem dL_law_941 : decode cL_law 941 = .ok (.iadd, 1) := by decide +kernel
theorem dL_law_942 : decode cL_law 942 = .ok (.iaload, 1) := by decide +kernel
theorem dL_law_943 : decode cL_law 943 = .ok (.invokevirtual 142, 3) := by decide +kernel
theorem dL_law_946 : decode cL_law 946 = .ok (.lcmp, 1) := by decide +kernel
theorem dL_law_947 : decode cL_law 947 = .ok (.ifCond .eq 128, 3) := by decide +kernel
theorem dL_law_950 : decode cL_law 950 = .ok (.iconst 0, 1) := by decide +kernel
theorem dL_law_951 : decode cL_law 951 = .ok (.ireturn, 1) := by decide +kernel
theorem dL_law_952 : decode cL_law 952 = .ok (.aload_n 1, 1) := by decide +kernel
theorem dL_law_953 : decode cL_law 953 = .ok (.aload_n 0, 1) := by decide +kernel
theorem dL_law_954 : decode cL_law 954 = .ok (.iload_n 3, 1) := by decide +kernel
theorem dL_law_955 : decode cL_law 955 = .ok (.iconst 1, 1) := by decide +kernel
theorem dL_law_956 : decode cL_law 956 = .ok (.iadd, 1) := by decide +kernel
theorem dL_law_957 : decode cL_law 957 = .ok (.iaload, 1) := by decide +kernel
theorem dL_law_958 : decode cL_law 958 = .ok (.aload_n 0, 1) := by decide +kernel
theorem dL_law_959 : decode cL_law 959 = .ok (.iload_n 3, 1) := by decide +kernel
theorem dL_law_960 : decode cL_law 960 = .ok (.iconst 2, 1) := by decide +kernel
theorem dL_law_961 : decode cL_law 961 = .ok (.iadd, 1) := by decide +kernel
theorem dL_law_962 : decode cL_law 962 = .ok (.iaload, 1) := by decide +kernel
theorem dL_law_963 : decode cL_law 963 = .ok (.aload_n 0, 1) := by decide +kernel
theorem dL_law_964 : decode cL_law 964 = .ok (.iload_n 3, 1) := by decide +kernel
theorem dL_law_965 : decode cL_law 965 = .ok (.iconst 3, 1) := by decide +kernel
theorem dL_law_966 : decode cL_law 966 = .ok (.iadd, 1) := by decide +kernel
theorem dL_law_967 : decode cL_law 967 = .ok (.iaload, 1) := by decide +kernel
theorem dL_law_968 : decode cL_law 968 = .ok (.aload_n 0, 1) := by decide +kernel
theorem dL_law_969 : decode cL_law 969 = .ok (.iload_n 3, 1) := by decide +kernel
theorem dL_law_970 : decode cL_law 970 = .ok (.iconst 4, 1) := by decide +kernel
theorem dL_law_971 : decode cL_law 971 = .ok (.iadd, 1) := by decide +kernel
theorem dL_law_972 : decode cL_law 972 = .ok (.iaload, 1) := by decide +kernel
theorem dL_law_973 : decode cL_law 973 = .ok (.aload_n 0, 1) := by decide +kernel
theorem dL_law_974 : decode cL_law 974 = .ok (.iload_n 3, 1) := by decide +kernel
theorem dL_law_975 : decode cL_law 975 = .ok (.iconst 5, 1) := by decide +kernel
theorem dL_law_976 : decode cL_law 976 = .ok (.iadd, 1) := by decide +kernel
theorem dL_law_977 : decode cL_law 977 = .ok (.iaload, 1) := by decide +kernel
theorem dL_law_978 : decode cL_law 978 = .ok (.invokevirtual 143, 3) := by decide +kernel
theorem dL_law_981 : decode cL_law 981 = .ok (.aload_n 2, 1) := by decide +kernel
theorem dL_law_982 : decode cL_law 982 = .ok (.aload_n 0, 1) := by decide +kernel
theorem dL_law_983 : decode cL_law 983 = .ok (.iload_n 3, 1) := by decide +kernel
theorem dL_law_984 : decode cL_law 984 = .ok (.iconst 1, 1) := by decide +kernel
theorem dL_law_985 : decode cL_law 985 = .ok (.iadd, 1) := by decide +kernel
theorem dL_law_986 : decode cL_law 986 = .ok (.iaload, 1) := by decide +kernel
theorem dL_law_987 : decode cL_law 987 = .ok (.aload_n 0, 1) := by decide +kernel
theorem dL_law_988 : decode cL_law 988 = .ok (.iload_n 3, 1) := by decide +kernel
theorem dL_law_989 : decode cL_law 989 = .ok (.iconst 2, 1) := by decide +kernel
theorem dL_law_990 : decode cL_law 990 = .ok (.iadd, 1) := by decide +kernel
theorem dL_law_991 : decode cL_law 991 = .ok (.iaload, 1) := by decide +kernel
theorem dL_law_992 : decode cL_law 992 = .ok (.aload_n 0, 1) := by decide +kernel
theorem dL_law_993 : decode cL_law 993 = .ok (.iload_n 3, 1) := by decide +kernel
theorem dL_law_994 : decode cL_law 994 = .ok (.iconst 3, 1) := by decide +kernel
theorem dL_law_995 : decode cL_law 995 = .ok (.iadd, 1) := by decide +kernel
theorem dL_law_996 : decode cL_law 996 = .ok (.iaload, 1) := by decide +kernel
theorem dL_law_997 : decode cL_law 997 = .ok (.aload_n 0, 1) := by decide +kernel
theorem dL_law_998 : decode cL_law 998 = .ok (.iload_n 3, 1) := by decide +kernel
theorem dL_law_999 : decode cL_law 999 = .ok (.iconst 4, 1) := by decide +kernel
theorem dL_law_1000 : decode cL_law 1000 = .ok (.iadd, 1) := by decide +kernel
theorem dL_law_1001 : decode cL_law 1001 = .ok (.iaload, 1) := by decide +kernel
theorem dL_law_1002 : decode cL_law 1002 = .ok (.aload_n 0, 1) := by decide +kernel
theorem dL_law_1003 : decode cL_law 1003 = .ok (.iload_n 3, 1) := by decide +kernel
theorem dL_law_1004 : decode cL_law 1004 = .ok (.iconst 5, 1) := by decide +kernel
theorem dL_law_1005 : decode cL_law 1005 = .ok (.iadd, 1) := by decide +kernel
theorem dL_law_1006 : decode cL_law 1006 = .ok (.iaload, 1) := by decide +kernel
theorem dL_law_1007 : decode cL_law 1007 = .ok (.invokevirtual 147, 3) := by decide +kernel
theorem dL_law_1010 : decode cL_law 1010 = .ok (.if_icmp .eq 65, 3) := by decide +kernel
theorem dL_law_1013 : decode cL_law 1013 = .ok (.iconst 0, 1) := by decide +kernel
theorem dL_law_1014 : decode cL_law 1014 = .ok (.ireturn, 1) := by decide +kernel
theorem dL_law_1015 : decode cL_law 1015 = .ok (.aload_n 1, 1) := by decide +kernel
theorem dL_law_1016 : decode cL_law 1016 = .ok (.aload_n 0, 1) := by decide +kernel
theorem dL_law_1017 : decode cL_law 1017 = .ok (.iload_n 3, 1) := by decide +kernel
theorem dL_law_1018 : decode cL_law 1018 = .ok (.iconst 1, 1) := by decide +kernel
theorem dL_law_1019 : decode cL_law 1019 = .ok (.iadd, 1) := by decide +kernel
theorem dL_law_1020 : decode cL_law 1020 = .ok (.iaload, 1) := by decide +kernel
theorem dL_law_1021 : decode cL_law 1021 = .ok (.invokevirtual 148, 3) := by decide +kernel
theorem dL_law_1024 : decode cL_law 1024 = .ok (.aload_n 2, 1) := by decide +kernel
theorem dL_law_1025 : decode cL_law 1025 = .ok (.aload_n 0, 1) := by decide +kernel
theorem dL_law_1026 : decode cL_law 1026 = .ok (.iload_n 3, 1) := by decide +kernel
theorem dL_law_1027 : decode cL_law 1027 = .ok (.iconst 1, 1) := by decide +kernel
theorem dL_law_1028 : decode cL_law 1028 = .ok (.iadd, 1) := by decide +kernel
theorem dL_law_1029 : decode cL_law 1029 = .ok (.iaload, 1) := by decide +kernel
theorem dL_law_1030 : decode cL_law 1030 = .ok (.invokevirtual 151, 3) := by decide +kernel
theorem dL_law_1033 : decode cL_law 1033 = .ok (.if_icmp .eq 42, 3) := by decide +kernel
theorem dL_law_1036 : decode cL_law 1036 = .ok (.iconst 0, 1) := by decide +kernel
theorem dL_law_1037 : decode cL_law 1037 = .ok (.ireturn, 1) := by decide +kernel
theorem dL_law_1038 : decode cL_law 1038 = .ok (.aload_n 1, 1) := by decide +kernel
theorem dL_law_1039 : decode cL_law 1039 = .ok (.aload_n 0, 1) := by decide +kernel
theorem dL_law_1040 : decode cL_law 1040 = .ok (.iload_n 3, 1) := by decide +kernel
theorem dL_law_1041 : decode cL_law 1041 = .ok (.iconst 1, 1) := by decide +kernel
theorem dL_law_1042 : decode cL_law 1042 = .ok (.iadd, 1) := by decide +kernel
theorem dL_law_1043 : decode cL_law 1043 = .ok (.iaload, 1) := by decide +kernel
theorem dL_law_1044 : decode cL_law 1044 = .ok (.invokevirtual 152, 3) := by decide +kernel
theorem dL_law_1047 : decode cL_law 1047 = .ok (.aload_n 2, 1) := by decide +kernel
theorem dL_law_1048 : decode cL_law 1048 = .ok (.aload_n 0, 1) := by decide +kernel
theorem dL_law_1049 : decode cL_law 1049 = .ok (.iload_n 3, 1) := by decide +kernel
theorem dL_law_1050 : decode cL_law 1050 = .ok (.iconst 1, 1) := by decide +kernel
theorem dL_law_1051 : decode cL_law 1051 = .ok (.iadd, 1) := by decide +kernel
theorem dL_law_1052 : decode cL_law 1052 = .ok (.iaload, 1) := by decide +kernel
theorem dL_law_1053 : decode cL_law 1053 = .ok (.invokevirtual 155, 3) := by decide +kernel
theorem dL_law_1056 : decode cL_law 1056 = .ok (.if_icmp .eq 19, 3) := by decide +kernel
theorem dL_law_1059 : decode cL_law 1059 = .ok (.iconst 0, 1) := by decide +kernel
theorem dL_law_1060 : decode cL_law 1060 = .ok (.ireturn, 1) := by decide +kernel
theorem dL_law_1061 : decode cL_law 1061 = .ok (.aload_n 1, 1) := by decide +kernel
theorem dL_law_1062 : decode cL_law 1062 = .ok (.invokevirtual 156, 3) := by decide +kernel
theorem dL_law_1065 : decode cL_law 1065 = .ok (.aload_n 2, 1) := by decide +kernel
theorem dL_law_1066 : decode cL_law 1066 = .ok (.invokevirtual 160, 3) := by decide +kernel
theorem dL_law_1069 : decode cL_law 1069 = .ok (.lcmp, 1) := by decide +kernel
theorem dL_law_1070 : decode cL_law 1070 = .ok (.ifCond .eq 5, 3) := by decide +kernel
theorem dL_law_1073 : decode cL_law 1073 = .ok (.iconst 0, 1) := by decide +kernel
theorem dL_law_1074 : decode cL_law 1074 = .ok (.ireturn, 1) := by decide +kernel
theorem dL_law_1075 : decode cL_law 1075 = .ok (.iinc 3 6, 3) := by decide +kernel
theorem dL_law_1078 : decode cL_law 1078 = .ok (.goto (-1060), 3) := by decide +kernel
theorem dL_law_1081 : decode cL_law 1081 = .ok (.iconst 1, 1) := by decide +kernel
theorem dL_law_1082 : decode cL_law 1082 = .ok (.ireturn, 1) := by decide +kernel
def f_L_law_L1075 (L : Nat) (xs : Nat → Int32) (rec18 : Int32 × Sg → Option (Int32 × Sg))  (x3 : Int32) (σ : Sg) : Option (Int32 × Sg) := lB (x3 + (6 : Int32)) fun v1 => rec18 (v1, σ)
def f_L_law_L18 (L : Nat) (xs : Nat → Int32) (rec18 : Int32 × Sg → Option (Int32 × Sg)) (s : Int32 × Sg) : Option (Int32 × Sg) := (if ((Int32.ofNat L) - (6 : Int32)) < (s.1) then ck (b01 (1 : Int32)) (some ((1 : Int32), (s.2))) else ck (inb (s.1) L) ((if ((xs (s.1).toNatClampNeg) &&& (63 : Int32)).toInt < 0 ∨ 34 < ((xs (s.1).toNatClampNeg) &&& (63 : Int32)).toInt then f_L_law_L1075 L xs rec18 (s.1) (s.2) else swt [ck (inb ((s.1) + (1 : Int32)) L) (bd (f_X8_courses 0 (xs ((s.1) + (1 : Int32)).toNatClampNeg) (s.2)) fun r2 s1 => ck (inb ((s.1) + (1 : Int32)) L) (bd (f_X9_courses 55 (xs ((s.1) + (1 : Int32)).toNatClampNeg) s1) fun r4 s3 => (if r2 = r4 then f_L_law_L1075 L xs rec18 (s.1) s3 else ck (b01 (0 : Int32)) (some ((0 : Int32), s3))))), ck (inb ((s.1) + (1 : Int32)) L) (ck (inb ((s.1) + (2 : Int32)) L) (bd (f_X8_tune 0 (xs ((s.1) + (1 : Int32)).toNatClampNeg) (xs ((s.1) + (2 : Int32)).toNatClampNeg) (s.2)) fun r6 s5 => ck (inb ((s.1) + (1 : Int32)) L) (ck (inb ((s.1) + (2 : Int32)) L) (bd (f_X9_tune 55 (xs ((s.1) + (1 : Int32)).toNatClampNeg) (xs ((s.1) + (2 : Int32)).toNatClampNeg) s5) fun r8 s7 => (if r6 = r8 then f_L_law_L1075 L xs rec18 (s.1) s7 else ck (b01 (0 : Int32)) (some ((0 : Int32), s7))))))), ck (inb ((s.1) + (1 : Int32)) L) (ck (inb ((s.1) + (2 : Int32)) L) (bd (f_X8_set 0 (xs ((s.1) + (1 : Int32)).toNatClampNeg) (xs ((s.1) + (2 : Int32)).toNatClampNeg) (s.2)) fun r10 s9 => ck (inb ((s.1) + (1 : Int32)) L) (ck (inb ((s.1) + (2 : Int32)) L) (bd (f_X9_set 55 (xs ((s.1) + (1 : Int32)).toNatClampNeg) (xs ((s.1) + (2 : Int32)).toNatClampNeg) s9) fun r12 s11 => (if r10 = r12 then f_L_law_L1075 L xs rec18 (s.1) s11 else ck (b01 (0 : Int32)) (some ((0 : Int32), s11))))))), ck (inb ((s.1) + (1 : Int32)) L) (ck (inb ((s.1) + (2 : Int32)) L) (ck (inb ((s.1) + (3 : Int32)) L) (bd (f_X8_note 0 (xs ((s.1) + (1 : Int32)).toNatClampNeg) (xs ((s.1) + (2 : Int32)).toNatClampNeg) (xs ((s.1) + (3 : Int32)).toNatClampNeg) (s.2)) fun r14 s13 => ck (inb ((s.1) + (1 : Int32)) L) (ck (inb ((s.1) + (2 : Int32)) L) (ck (inb ((s.1) + (3 : Int32)) L) (bd (f_X9_note 55 (xs ((s.1) + (1 : Int32)).toNatClampNeg) (xs ((s.1) + (2 : Int32)).toNatClampNeg) (xs ((s.1) + (3 : Int32)).toNatClampNeg) s13) fun r16 s15 => (if r14 = r16 then f_L_law_L1075 L xs rec18 (s.1) s15 else ck (b01 (0 : Int32)) (some ((0 : Int32), s15))))))))), ck (inb ((s.1) + (1 : Int32)) L) (bd (f_X8_gone 0 (xs ((s.1) + (1 : Int32)).toNatClampNeg) (s.2)) fun r18 s17 => ck (inb ((s.1) + (1 : Int32)) L) (bd (f_X9_gone 55 (xs ((s.1) + (1 : Int32)).toNatClampNeg) s17) fun r20 s19 => (if r18 = r20 then f_L_law_L1075 L xs rec18 (s.1) s19 else ck (b01 (0 : Int32)) (some ((0 : Int32), s19))))), bd (f_X8_clear 0 (s.2)) fun r22 s21 => bd (f_X9_clear 55 s21) fun r24 s23 => (if r22 = r24 then f_L_law_L1075 L xs rec18 (s.1) s23 else ck (b01 (0 : Int32)) (some ((0 : Int32), s23))), ck (inb ((s.1) + (1 : Int32)) L) (bd (f_X8_read 0 (xs ((s.1) + (1 : Int32)).toNatClampNeg) (s.2)) fun r26 s25 => ck (inb ((s.1) + (1 : Int32)) L) (bd (f_X9_read 55 (xs ((s.1) + (1 : Int32)).toNatClampNeg) s25) fun r28 s27 => (if r26 = r28 then f_L_law_L1075 L xs rec18 (s.1) s27 else ck (b01 (0 : Int32)) (some ((0 : Int32), s27))))), ck (inb ((s.1) + (1 : Int32)) L) (ck (inb ((s.1) + (2 : Int32)) L) (bd (f_X8_info 0 (xs ((s.1) + (1 : Int32)).toNatClampNeg) (xs ((s.1) + (2 : Int32)).toNatClampNeg) (s.2)) fun r30 s29 => ck (inb ((s.1) + (1 : Int32)) L) (ck (inb ((s.1) + (2 : Int32)) L) (bd (f_X9_info 55 (xs ((s.1) + (1 : Int32)).toNatClampNeg) (xs ((s.1) + (2 : Int32)).toNatClampNeg) s29) fun r32 s31 => (if r30 = r32 then f_L_law_L1075 L xs rec18 (s.1) s31 else ck (b01 (0 : Int32)) (some ((0 : Int32), s31))))))), ck (inb ((s.1) + (1 : Int32)) L) (ck (inb ((s.1) + (2 : Int32)) L) (bd (f_X8_course 0 (xs ((s.1) + (1 : Int32)).toNatClampNeg) (xs ((s.1) + (2 : Int32)).toNatClampNeg) (s.2)) fun r34 s33 => ck (inb ((s.1) + (1 : Int32)) L) (ck (inb ((s.1) + (2 : Int32)) L) (bd (f_X9_course 55 (xs ((s.1) + (1 : Int32)).toNatClampNeg) (xs ((s.1) + (2 : Int32)).toNatClampNeg) s33) fun r36 s35 => (if r34 = r36 then f_L_law_L1075 L xs rec18 (s.1) s35 else ck (b01 (0 : Int32)) (some ((0 : Int32), s35))))))), bd (f_X8_least 0 (s.2)) fun r38 s37 => bd (f_X9_least 55 s37) fun r40 s39 => (if r38 = r40 then f_L_law_L1075 L xs rec18 (s.1) s39 else ck (b01 (0 : Int32)) (some ((0 : Int32), s39))), bd (f_X8_fault 0 (s.2)) fun r42 s41 => bd (f_X9_fault 55 s41) fun r44 s43 => (if r42 = r44 then f_L_law_L1075 L xs rec18 (s.1) s43 else ck (b01 (0 : Int32)) (some ((0 : Int32), s43))), bd (f_X8_mend 0 (s.2)) fun r46 s45 => bd (f_X9_mend 55 s45) fun r48 s47 => (if r46 = r48 then f_L_law_L1075 L xs rec18 (s.1) s47 else ck (b01 (0 : Int32)) (some ((0 : Int32), s47))), ck (inb ((s.1) + (1 : Int32)) L) (ck (inb ((s.1) + (2 : Int32)) L) (bd (f_X8_lay 0 (xs ((s.1) + (1 : Int32)).toNatClampNeg) (xs ((s.1) + (2 : Int32)).toNatClampNeg) (s.2)) fun r50 s49 => ck (inb ((s.1) + (1 : Int32)) L) (ck (inb ((s.1) + (2 : Int32)) L) (bd (f_X9_lay 55 (xs ((s.1) + (1 : Int32)).toNatClampNeg) (xs ((s.1) + (2 : Int32)).toNatClampNeg) s49) fun r52 s51 => (if r50 = r52 then f_L_law_L1075 L xs rec18 (s.1) s51 else ck (b01 (0 : Int32)) (some ((0 : Int32), s51))))))), bd (f_X8_wrong 0 (s.2)) fun r54 s53 => bd (f_X9_wrong 55 s53) fun r56 s55 => (if r54 = r56 then f_L_law_L1075 L xs rec18 (s.1) s55 else ck (b01 (0 : Int32)) (some ((0 : Int32), s55))), bd (f_X8_cost 0 (s.2)) fun r58 s57 => bd (f_X9_cost 55 s57) fun r60 s59 => (if r58 = r60 then f_L_law_L1075 L xs rec18 (s.1) s59 else ck (b01 (0 : Int32)) (some ((0 : Int32), s59))), ck (inb ((s.1) + (1 : Int32)) L) (ck (inb ((s.1) + (2 : Int32)) L) (bd (f_X8_chord 0 (xs ((s.1) + (1 : Int32)).toNatClampNeg) (xs ((s.1) + (2 : Int32)).toNatClampNeg) (s.2)) fun r62 s61 => ck (inb ((s.1) + (1 : Int32)) L) (ck (inb ((s.1) + (2 : Int32)) L) (bd (f_X9_chord 55 (xs ((s.1) + (1 : Int32)).toNatClampNeg) (xs ((s.1) + (2 : Int32)).toNatClampNeg) s61) fun r64 s63 => (if r62 = r64 then f_L_law_L1075 L xs rec18 (s.1) s63 else ck (b01 (0 : Int32)) (some ((0 : Int32), s63))))))), ck (inb ((s.1) + (1 : Int32)) L) (bd (f_X8_without 0 (xs ((s.1) + (1 : Int32)).toNatClampNeg) (s.2)) fun r66 s65 => ck (inb ((s.1) + (1 : Int32)) L) (bd (f_X9_without 55 (xs ((s.1) + (1 : Int32)).toNatClampNeg) s65) fun r68 s67 => (if r66 = r68 then f_L_law_L1075 L xs rec18 (s.1) s67 else ck (b01 (0 : Int32)) (some ((0 : Int32), s67))))), ck (inb ((s.1) + (1 : Int32)) L) (bd (f_X8_key 0 (xs ((s.1) + (1 : Int32)).toNatClampNeg) (s.2)) fun r70 s69 => ck (inb ((s.1) + (1 : Int32)) L) (bd (f_X9_key 55 (xs ((s.1) + (1 : Int32)).toNatClampNeg) s69) fun r72 s71 => (if r70 = r72 then f_L_law_L1075 L xs rec18 (s.1) s71 else ck (b01 (0 : Int32)) (some ((0 : Int32), s71))))), ck (inb ((s.1) + (1 : Int32)) L) (bd (f_X8_easiest 0 (xs ((s.1) + (1 : Int32)).toNatClampNeg) (s.2)) fun r74 s73 => ck (inb ((s.1) + (1 : Int32)) L) (bd (f_X9_easiest 55 (xs ((s.1) + (1 : Int32)).toNatClampNeg) s73) fun r76 s75 => (if r74 = r76 then f_L_law_L1075 L xs rec18 (s.1) s75 else ck (b01 (0 : Int32)) (some ((0 : Int32), s75))))), ck (inb ((s.1) + (1 : Int32)) L) (bd (f_X8_keep 0 (xs ((s.1) + (1 : Int32)).toNatClampNeg) (s.2)) fun r78 s77 => ck (inb ((s.1) + (1 : Int32)) L) (bd (f_X9_keep 55 (xs ((s.1) + (1 : Int32)).toNatClampNeg) s77) fun r80 s79 => (if r78 = r80 then f_L_law_L1075 L xs rec18 (s.1) s79 else ck (b01 (0 : Int32)) (some ((0 : Int32), s79))))), ck (inb ((s.1) + (1 : Int32)) L) (bd (f_X8_go 0 (xs ((s.1) + (1 : Int32)).toNatClampNeg) (s.2)) fun r82 s81 => ck (inb ((s.1) + (1 : Int32)) L) (bd (f_X9_go 55 (xs ((s.1) + (1 : Int32)).toNatClampNeg) s81) fun r84 s83 => (if r82 = r84 then f_L_law_L1075 L xs rec18 (s.1) s83 else ck (b01 (0 : Int32)) (some ((0 : Int32), s83))))), ck (inb ((s.1) + (1 : Int32)) L) (bd (f_X8_differ 0 (xs ((s.1) + (1 : Int32)).toNatClampNeg) (s.2)) fun r86 s85 => ck (inb ((s.1) + (1 : Int32)) L) (bd (f_X9_differ 55 (xs ((s.1) + (1 : Int32)).toNatClampNeg) s85) fun r88 s87 => (if r86 = r88 then f_L_law_L1075 L xs rec18 (s.1) s87 else ck (b01 (0 : Int32)) (some ((0 : Int32), s87))))), ck (inb ((s.1) + (1 : Int32)) L) (bd (f_X8_text 0 (xs ((s.1) + (1 : Int32)).toNatClampNeg) (s.2)) fun r90 s89 => ck (inb ((s.1) + (1 : Int32)) L) (bd (f_X9_text 55 (xs ((s.1) + (1 : Int32)).toNatClampNeg) s89) fun r92 s91 => (if r90 = r92 then f_L_law_L1075 L xs rec18 (s.1) s91 else ck (b01 (0 : Int32)) (some ((0 : Int32), s91))))), ck (inb ((s.1) + (1 : Int32)) L) (bd (f_X8_type 0 (xs ((s.1) + (1 : Int32)).toNatClampNeg) (s.2)) fun r94 s93 => ck (inb ((s.1) + (1 : Int32)) L) (bd (f_X9_type 55 (xs ((s.1) + (1 : Int32)).toNatClampNeg) s93) fun r96 s95 => (if r94 = r96 then f_L_law_L1075 L xs rec18 (s.1) s95 else ck (b01 (0 : Int32)) (some ((0 : Int32), s95))))), bd (f_X8_wipe 0 (s.2)) fun r98 s97 => bd (f_X9_wipe 55 s97) fun r100 s99 => (if r98 = r100 then f_L_law_L1075 L xs rec18 (s.1) s99 else ck (b01 (0 : Int32)) (some ((0 : Int32), s99))), bd (f_X8_flaw 0 (s.2)) fun r102 s101 => bd (f_X9_flaw 55 s101) fun r104 s103 => (if r102 = r104 then f_L_law_L1075 L xs rec18 (s.1) s103 else ck (b01 (0 : Int32)) (some ((0 : Int32), s103))), bd (f_X8_back 0 (s.2)) fun r106 s105 => bd (f_X9_back 55 s105) fun r108 s107 => (if r106 = r108 then f_L_law_L1075 L xs rec18 (s.1) s107 else ck (b01 (0 : Int32)) (some ((0 : Int32), s107))), ck (inb ((s.1) + (1 : Int32)) L) (ck (inb ((s.1) + (2 : Int32)) L) (ck (inb ((s.1) + (3 : Int32)) L) (bd (f_X8_sheet 0 (xs ((s.1) + (1 : Int32)).toNatClampNeg) (xs ((s.1) + (2 : Int32)).toNatClampNeg) (xs ((s.1) + (3 : Int32)).toNatClampNeg) (s.2)) fun r110 s109 => ck (inb ((s.1) + (1 : Int32)) L) (ck (inb ((s.1) + (2 : Int32)) L) (ck (inb ((s.1) + (3 : Int32)) L) (bd (f_X9_sheet 55 (xs ((s.1) + (1 : Int32)).toNatClampNeg) (xs ((s.1) + (2 : Int32)).toNatClampNeg) (xs ((s.1) + (3 : Int32)).toNatClampNeg) s109) fun r112 s111 => (if r110 = r112 then f_L_law_L1075 L xs rec18 (s.1) s111 else ck (b01 (0 : Int32)) (some ((0 : Int32), s111))))))))), ck (inb ((s.1) + (1 : Int32)) L) (bd (f_X8_lose 0 (xs ((s.1) + (1 : Int32)).toNatClampNeg) (s.2)) fun r114 s113 => ck (inb ((s.1) + (1 : Int32)) L) (bd (f_X9_lose 55 (xs ((s.1) + (1 : Int32)).toNatClampNeg) s113) fun r116 s115 => (if r114 = r116 then f_L_law_L1075 L xs rec18 (s.1) s115 else ck (b01 (0 : Int32)) (some ((0 : Int32), s115))))), ck (inb ((s.1) + (1 : Int32)) L) (ck (inb ((s.1) + (2 : Int32)) L) (ck (inb ((s.1) + (3 : Int32)) L) (ck (inb ((s.1) + (4 : Int32)) L) (bd (f_X8_put 0 (xs ((s.1) + (1 : Int32)).toNatClampNeg) (xs ((s.1) + (2 : Int32)).toNatClampNeg) (xs ((s.1) + (3 : Int32)).toNatClampNeg) (xs ((s.1) + (4 : Int32)).toNatClampNeg) (s.2)) fun r118 s117 => ck (inb ((s.1) + (1 : Int32)) L) (ck (inb ((s.1) + (2 : Int32)) L) (ck (inb ((s.1) + (3 : Int32)) L) (ck (inb ((s.1) + (4 : Int32)) L) (bd (f_X9_put 55 (xs ((s.1) + (1 : Int32)).toNatClampNeg) (xs ((s.1) + (2 : Int32)).toNatClampNeg) (xs ((s.1) + (3 : Int32)).toNatClampNeg) (xs ((s.1) + (4 : Int32)).toNatClampNeg) s117) fun r120 s119 => (if r118 = r120 then f_L_law_L1075 L xs rec18 (s.1) s119 else ck (b01 (0 : Int32)) (some ((0 : Int32), s119))))))))))), ck (inb ((s.1) + (1 : Int32)) L) (ck (inb ((s.1) + (2 : Int32)) L) (bd (f_X8_get 0 (xs ((s.1) + (1 : Int32)).toNatClampNeg) (xs ((s.1) + (2 : Int32)).toNatClampNeg) (s.2)) fun r122 s121 => ck (inb ((s.1) + (1 : Int32)) L) (ck (inb ((s.1) + (2 : Int32)) L) (bd (f_X9_get 55 (xs ((s.1) + (1 : Int32)).toNatClampNeg) (xs ((s.1) + (2 : Int32)).toNatClampNeg) s121) fun r124 s123 => (if (lg_cmp r122 r124) = 0 then f_L_law_L1075 L xs rec18 (s.1) s123 else ck (b01 (0 : Int32)) (some ((0 : Int32), s123))))))), ck (inb ((s.1) + (1 : Int32)) L) (ck (inb ((s.1) + (2 : Int32)) L) (ck (inb ((s.1) + (3 : Int32)) L) (ck (inb ((s.1) + (4 : Int32)) L) (ck (inb ((s.1) + (5 : Int32)) L) (bd (f_X8_copy 0 (xs ((s.1) + (1 : Int32)).toNatClampNeg) (xs ((s.1) + (2 : Int32)).toNatClampNeg) (xs ((s.1) + (3 : Int32)).toNatClampNeg) (xs ((s.1) + (4 : Int32)).toNatClampNeg) (xs ((s.1) + (5 : Int32)).toNatClampNeg) (s.2)) fun r126 s125 => ck (inb ((s.1) + (1 : Int32)) L) (ck (inb ((s.1) + (2 : Int32)) L) (ck (inb ((s.1) + (3 : Int32)) L) (ck (inb ((s.1) + (4 : Int32)) L) (ck (inb ((s.1) + (5 : Int32)) L) (bd (f_X9_copy 55 (xs ((s.1) + (1 : Int32)).toNatClampNeg) (xs ((s.1) + (2 : Int32)).toNatClampNeg) (xs ((s.1) + (3 : Int32)).toNatClampNeg) (xs ((s.1) + (4 : Int32)).toNatClampNeg) (xs ((s.1) + (5 : Int32)).toNatClampNeg) s125) fun r128 s127 => (if r126 = r128 then f_L_law_L1075 L xs rec18 (s.1) s127 else ck (b01 (0 : Int32)) (some ((0 : Int32), s127))))))))))))), ck (inb ((s.1) + (1 : Int32)) L) (bd (f_X8_write 0 (xs ((s.1) + (1 : Int32)).toNatClampNeg) (s.2)) fun r130 s129 => ck (inb ((s.1) + (1 : Int32)) L) (bd (f_X9_write 55 (xs ((s.1) + (1 : Int32)).toNatClampNeg) s129) fun r132 s131 => (if r130 = r132 then f_L_law_L1075 L xs rec18 (s.1) s131 else ck (b01 (0 : Int32)) (some ((0 : Int32), s131))))), ck (inb ((s.1) + (1 : Int32)) L) (bd (f_X8_count 0 (xs ((s.1) + (1 : Int32)).toNatClampNeg) (s.2)) fun r134 s133 => ck (inb ((s.1) + (1 : Int32)) L) (bd (f_X9_count 55 (xs ((s.1) + (1 : Int32)).toNatClampNeg) s133) fun r136 s135 => (if r134 = r136 then f_L_law_L1075 L xs rec18 (s.1) s135 else ck (b01 (0 : Int32)) (some ((0 : Int32), s135))))), bd (f_X8_digest 0 (s.2)) fun r138 s137 => bd (f_X9_digest 55 s137) fun r140 s139 => (if (lg_cmp r138 r140) = 0 then f_L_law_L1075 L xs rec18 (s.1) s139 else ck (b01 (0 : Int32)) (some ((0 : Int32), s139)))] (((xs (s.1).toNatClampNeg) &&& (63 : Int32)).toInt - 0).toNat)))
theorem t_L_law_L1075 {K : Cx} (h : Ok K cL_law RL 4 room_1 (some .boolean)) (hs : kiv K = St) (hc1 : kmc K = 600000) (hc2 : kms K = 7302250) {L : Nat} {xs : Nat → Int32} (hX : SX K L xs) (rec18 : Int32 × Sg → Option (Int32 × Sg)) (hr18 : ∀ u : Int32 × Sg, T K (QI K) 18 [(0, .ref SP), (1, .ref 0), (2, .ref 55), (3, .int u.1)] [] 82 12355 u.2 (rec18 u)) (x3 : Int32) (σ : Sg) : T K (QI K) 1075 [(0, .ref SP), (1, .ref 0), (2, .ref 55), (3, .int x3)] [] 82 12355 σ (f_L_law_L1075 L xs rec18 x3 σ) := by
  unfold f_L_law_L1075
  refine T_iinc (fl := fun v1 => [(3, .int v1), (0, .ref SP), (1, .ref 0), (2, .ref 55)]) (pc := 1075) h dL_law_1075 3 rfl ki_6 (by decide) (fun _ => rfl) (fun v1 => ?_)
  refine T_goto (pc := 1078) (tgt := 18) h dL_law_1078 (by decide) ?_
  refine T_sub [1, 2, 3, 0] rfl ?_
  exact hr18 (v1, σ)
theorem t_L_law_L18 {K : Cx} (h : Ok K cL_law RL 4 room_1 (some .boolean)) (hs : kiv K = St) (hc1 : kmc K = 600000) (hc2 : kms K = 7302250) {L : Nat} {xs : Nat → Int32} (hX : SX K L xs) (rec18 : Int32 × Sg → Option (Int32 × Sg)) (hr18 : ∀ u : Int32 × Sg, T K (QI K) 18 [(0, .ref SP), (1, .ref 0), (2, .ref 55), (3, .int u.1)] [] 82 12355 u.2 (rec18 u)) (s : Int32 × Sg) : T K (QI K) 18 [(0, .ref SP), (1, .ref 0), (2, .ref 55), (3, .int s.1)] [] 82 12355 s.2 (f_L_law_L18 L xs rec18 s) := by
  unfold f_L_law_L18
  refine T_iload_n (pc := 18) h dL_law_18 rfl 3 rfl ?_
  refine T_aload_n (pc := 19) h dL_law_19 rfl 0 rfl ?_
  refine T_slen (pc := 20) h hX dL_law_20 ?_
  refine T_bipush (pc := 21) h dL_law_21 kb_6 ?_
  refine T_isub (pc := 23) h dL_law_23 ?_
  refine T_icmp_gt (pc := 24) (tgt := 1081) h dL_law_24 (by decide) ?_ ?_
  · refine T_iconst (pc := 1081) h dL_law_1081 ki_1 ?_
    exact T_zreturn (pc := 1082) h (by rw [hc1]; exact Nat.le_of_ble_eq_true rfl) (by rw [hc2]; exact Nat.le_of_ble_eq_true rfl) dL_law_1082
  · refine T_aload_n (pc := 27) h dL_law_27 rfl 0 rfl ?_
    refine T_iload_n (pc := 28) h dL_law_28 rfl 3 rfl ?_
    refine T_sld (pc := 29) h hX dL_law_29 ?_
    refine T_bipush (pc := 30) h dL_law_30 kb_63 ?_
    refine T_iand (pc := 32) h dL_law_32 ?_
    refine T_tsw (pc := 33) (tgt := 1075) h dL_law_33 (by decide) [188, 211, 244, 277, 320, 343, 356, 379, 412, 445, 458, 471, 484, 517, 530, 543, 576, 599, 622, 645, 668, 691, 714, 737, 760, 773, 786, 799, 842, 865, 918, 952, 1015, 1038, 1061] rfl (by decide) rfl (by decide) ?_ (List.forall_mem_cons.mpr ⟨?_, List.forall_mem_cons.mpr ⟨?_, List.forall_mem_cons.mpr ⟨?_, List.forall_mem_cons.mpr ⟨?_, List.forall_mem_cons.mpr ⟨?_, List.forall_mem_cons.mpr ⟨?_, List.forall_mem_cons.mpr ⟨?_, List.forall_mem_cons.mpr ⟨?_, List.forall_mem_cons.mpr ⟨?_, List.forall_mem_cons.mpr ⟨?_, List.forall_mem_cons.mpr ⟨?_, List.forall_mem_cons.mpr ⟨?_, List.forall_mem_cons.mpr ⟨?_, List.forall_mem_cons.mpr ⟨?_, List.forall_mem_cons.mpr ⟨?_, List.forall_mem_cons.mpr ⟨?_, List.forall_mem_cons.mpr ⟨?_, List.forall_mem_cons.mpr ⟨?_, List.forall_mem_cons.mpr ⟨?_, List.forall_mem_cons.mpr ⟨?_, List.forall_mem_cons.mpr ⟨?_, List.forall_mem_cons.mpr ⟨?_, List.forall_mem_cons.mpr ⟨?_, List.forall_mem_cons.mpr ⟨?_, List.forall_mem_cons.mpr ⟨?_, List.forall_mem_cons.mpr ⟨?_, List.forall_mem_cons.mpr ⟨?_, List.forall_mem_cons.mpr ⟨?_, List.forall_mem_cons.mpr ⟨?_, List.forall_mem_cons.mpr ⟨?_, List.forall_mem_cons.mpr ⟨?_, List.forall_mem_cons.mpr ⟨?_, List.forall_mem_cons.mpr ⟨?_, List.forall_mem_cons.mpr ⟨?_, List.forall_mem_cons.mpr ⟨?_, fun _ hq => by cases hq⟩⟩⟩⟩⟩⟩⟩⟩⟩⟩⟩⟩⟩⟩⟩⟩⟩⟩⟩⟩⟩⟩⟩⟩⟩⟩⟩⟩⟩⟩⟩⟩⟩⟩⟩)
    · refine T_sub [0, 1, 2, 3] rfl ?_
      exact t_L_law_L1075 h hs hc1 hc2 hX rec18 hr18 (s.1) (s.2)
    · dsimp only
      refine T_aload_n (pc := 188) h dL_law_188 rfl 1 rfl ?_
      refine T_aload_n (pc := 189) h dL_law_189 rfl 0 rfl ?_
      refine T_iload_n (pc := 190) h dL_law_190 rfl 3 rfl ?_
      refine T_iconst (pc := 191) h dL_law_191 ki_1 ?_
      refine T_iadd (pc := 192) h dL_law_192 ?_
      refine T_sld (pc := 193) h hX dL_law_193 ?_
      refine T_callVi (pc := 194) h (M_X8_courses (kl K) hs 0 (xs ((s.1) + (1 : Int32)).toNatClampNeg) (s.2) kd0) mv_X8_courses hs kd0 ml_L_13 rfl ⟨Nat.le_of_ble_eq_true rfl, Nat.le_of_ble_eq_true rfl⟩ ⟨Nat.le_of_ble_eq_true rfl, Nat.le_of_ble_eq_true rfl⟩ (Nat.le_of_ble_eq_true rfl) dL_law_194 rfl (fun r2 s1 => ?_)
      refine T_aload_n (pc := 197) h dL_law_197 rfl 2 rfl ?_
      refine T_aload_n (pc := 198) h dL_law_198 rfl 0 rfl ?_
      refine T_iload_n (pc := 199) h dL_law_199 rfl 3 rfl ?_
      refine T_iconst (pc := 200) h dL_law_200 ki_1 ?_
      refine T_iadd (pc := 201) h dL_law_201 ?_
      refine T_sld (pc := 202) h hX dL_law_202 ?_
      refine T_callVi (pc := 203) h (M_X9_courses (kl K) hs 55 (xs ((s.1) + (1 : Int32)).toNatClampNeg) s1 kd55) mv_X9_courses hs kd55 ml_L_17 rfl ⟨Nat.le_of_ble_eq_true rfl, Nat.le_of_ble_eq_true rfl⟩ ⟨Nat.le_of_ble_eq_true rfl, Nat.le_of_ble_eq_true rfl⟩ (Nat.le_of_ble_eq_true rfl) dL_law_203 rfl (fun r4 s3 => ?_)
      refine T_icmp_eq (pc := 206) (tgt := 1075) h dL_law_206 (by decide) ?_ ?_
      · refine T_sub [0, 1, 2, 3] rfl ?_
        exact t_L_law_L1075 h hs hc1 hc2 hX rec18 hr18 (s.1) s3
      · refine T_iconst (pc := 209) h dL_law_209 ki_0 ?_
        exact T_zreturn (pc := 210) h (by rw [hc1]; exact Nat.le_of_ble_eq_true rfl) (by rw [hc2]; exact Nat.le_of_ble_eq_true rfl) dL_law_210
    · dsimp only
      refine T_aload_n (pc := 211) h dL_law_211 rfl 1 rfl ?_
      refine T_aload_n (pc := 212) h dL_law_212 rfl 0 rfl ?_
      refine T_iload_n (pc := 213) h dL_law_213 rfl 3 rfl ?_
      refine T_iconst (pc := 214) h dL_law_214 ki_1 ?_
      refine T_iadd (pc := 215) h dL_law_215 ?_
      refine T_sld (pc := 216) h hX dL_law_216 ?_
      refine T_aload_n (pc := 217) h dL_law_217 rfl 0 rfl ?_
      refine T_iload_n (pc := 218) h dL_law_218 rfl 3 rfl ?_
      refine T_iconst (pc := 219) h dL_law_219 ki_2 ?_
      refine T_iadd (pc := 220) h dL_law_220 ?_
      refine T_sld (pc := 221) h hX dL_law_221 ?_
      refine T_callVi (pc := 222) h (M_X8_tune (kl K) hs 0 (xs ((s.1) + (1 : Int32)).toNatClampNeg) (xs ((s.1) + (2 : Int32)).toNatClampNeg) (s.2) kd0) mv_X8_tune hs kd0 ml_L_18 rfl ⟨Nat.le_of_ble_eq_true rfl, Nat.le_of_ble_eq_true rfl⟩ ⟨Nat.le_of_ble_eq_true rfl, Nat.le_of_ble_eq_true rfl⟩ (Nat.le_of_ble_eq_true rfl) dL_law_222 rfl (fun r6 s5 => ?_)
      refine T_aload_n (pc := 225) h dL_law_225 rfl 2 rfl ?_
      refine T_aload_n (pc := 226) h dL_law_226 rfl 0 rfl ?_
      refine T_iload_n (pc := 227) h dL_law_227 rfl 3 rfl ?_
      refine T_iconst (pc := 228) h dL_law_228 ki_1 ?_
      refine T_iadd (pc := 229) h dL_law_229 ?_
      refine T_sld (pc := 230) h hX dL_law_230 ?_
      refine T_aload_n (pc := 231) h dL_law_231 rfl 0 rfl ?_
      refine T_iload_n (pc := 232) h dL_law_232 rfl 3 rfl ?_
      refine T_iconst (pc := 233) h dL_law_233 ki_2 ?_
      refine T_iadd (pc := 234) h dL_law_234 ?_
      refine T_sld (pc := 235) h hX dL_law_235 ?_
      refine T_callVi (pc := 236) h (M_X9_tune (kl K) hs 55 (xs ((s.1) + (1 : Int32)).toNatClampNeg) (xs ((s.1) + (2 : Int32)).toNatClampNeg) s5 kd55) mv_X9_tune hs kd55 ml_L_22 rfl ⟨Nat.le_of_ble_eq_true rfl, Nat.le_of_ble_eq_true rfl⟩ ⟨Nat.le_of_ble_eq_true rfl, Nat.le_of_ble_eq_true rfl⟩ (Nat.le_of_ble_eq_true rfl) dL_law_236 rfl (fun r8 s7 => ?_)
      refine T_icmp_eq (pc := 239) (tgt := 1075) h dL_law_239 (by decide) ?_ ?_
      · refine T_sub [0, 1, 2, 3] rfl ?_
        exact t_L_law_L1075 h hs hc1 hc2 hX rec18 hr18 (s.1) s7
      · refine T_iconst (pc := 242) h dL_law_242 ki_0 ?_
        exact T_zreturn (pc := 243) h (by rw [hc1]; exact Nat.le_of_ble_eq_true rfl) (by rw [hc2]; exact Nat.le_of_ble_eq_true rfl) dL_law_243
    · dsimp only
      refine T_aload_n (pc := 244) h dL_law_244 rfl 1 rfl ?_
      refine T_aload_n (pc := 245) h dL_law_245 rfl 0 rfl ?_
      refine T_iload_n (pc := 246) h dL_law_246 rfl 3 rfl ?_
      refine T_iconst (pc := 247) h dL_law_247 ki_1 ?_
      refine T_iadd (pc := 248) h dL_law_248 ?_
      refine T_sld (pc := 249) h hX dL_law_249 ?_
      refine T_aload_n (pc := 250) h dL_law_250 rfl 0 rfl ?_
      refine T_iload_n (pc := 251) h dL_law_251 rfl 3 rfl ?_
      refine T_iconst (pc := 252) h dL_law_252 ki_2 ?_
      refine T_iadd (pc := 253) h dL_law_253 ?_
      refine T_sld (pc := 254) h hX dL_law_254 ?_
      refine T_callVi (pc := 255) h (M_X8_set (kl K) hs 0 (xs ((s.1) + (1 : Int32)).toNatClampNeg) (xs ((s.1) + (2 : Int32)).toNatClampNeg) (s.2) kd0) mv_X8_set hs kd0 ml_L_23 rfl ⟨Nat.le_of_ble_eq_true rfl, Nat.le_of_ble_eq_true rfl⟩ ⟨Nat.le_of_ble_eq_true rfl, Nat.le_of_ble_eq_true rfl⟩ (Nat.le_of_ble_eq_true rfl) dL_law_255 rfl (fun r10 s9 => ?_)
      refine T_aload_n (pc := 258) h dL_law_258 rfl 2 rfl ?_
      refine T_aload_n (pc := 259) h dL_law_259 rfl 0 rfl ?_
      refine T_iload_n (pc := 260) h dL_law_260 rfl 3 rfl ?_
      refine T_iconst (pc := 261) h dL_law_261 ki_1 ?_
      refine T_iadd (pc := 262) h dL_law_262 ?_
      refine T_sld (pc := 263) h hX dL_law_263 ?_
      refine T_aload_n (pc := 264) h dL_law_264 rfl 0 rfl ?_
      refine T_iload_n (pc := 265) h dL_law_265 rfl 3 rfl ?_
      refine T_iconst (pc := 266) h dL_law_266 ki_2 ?_
      refine T_iadd (pc := 267) h dL_law_267 ?_
      refine T_sld (pc := 268) h hX dL_law_268 ?_
      refine T_callVi (pc := 269) h (M_X9_set (kl K) hs 55 (xs ((s.1) + (1 : Int32)).toNatClampNeg) (xs ((s.1) + (2 : Int32)).toNatClampNeg) s9 kd55) mv_X9_set hs kd55 ml_L_26 rfl ⟨Nat.le_of_ble_eq_true rfl, Nat.le_of_ble_eq_true rfl⟩ ⟨Nat.le_of_ble_eq_true rfl, Nat.le_of_ble_eq_true rfl⟩ (Nat.le_of_ble_eq_true rfl) dL_law_269 rfl (fun r12 s11 => ?_)
      refine T_icmp_eq (pc := 272) (tgt := 1075) h dL_law_272 (by decide) ?_ ?_
      · refine T_sub [0, 1, 2, 3] rfl ?_
        exact t_L_law_L1075 h hs hc1 hc2 hX rec18 hr18 (s.1) s11
      · refine T_iconst (pc := 275) h dL_law_275 ki_0 ?_
        exact T_zreturn (pc := 276) h (by rw [hc1]; exact Nat.le_of_ble_eq_true rfl) (by rw [hc2]; exact Nat.le_of_ble_eq_true rfl) dL_law_276
    · dsimp only
      refine T_aload_n (pc := 277) h dL_law_277 rfl 1 rfl ?_
      refine T_aload_n (pc := 278) h dL_law_278 rfl 0 rfl ?_
      refine T_iload_n (pc := 279) h dL_law_279 rfl 3 rfl ?_
      refine T_iconst (pc := 280) h dL_law_280 ki_1 ?_
      refine T_iadd (pc := 281) h dL_law_281 ?_
      refine T_sld (pc := 282) h hX dL_law_282 ?_
      refine T_aload_n (pc := 283) h dL_law_283 rfl 0 rfl ?_
      refine T_iload_n (pc := 284) h dL_law_284 rfl 3 rfl ?_
      refine T_iconst (pc := 285) h dL_law_285 ki_2 ?_
      refine T_iadd (pc := 286) h dL_law_286 ?_
      refine T_sld (pc := 287) h hX dL_law_287 ?_
      refine T_aload_n (pc := 288) h dL_law_288 rfl 0 rfl ?_
      refine T_iload_n (pc := 289) h dL_law_289 rfl 3 rfl ?_
      refine T_iconst (pc := 290) h dL_law_290 ki_3 ?_
      refine T_iadd (pc := 291) h dL_law_291 ?_
      refine T_sld (pc := 292) h hX dL_law_292 ?_
      refine T_callVi (pc := 293) h (M_X8_note (kl K) hs 0 (xs ((s.1) + (1 : Int32)).toNatClampNeg) (xs ((s.1) + (2 : Int32)).toNatClampNeg) (xs ((s.1) + (3 : Int32)).toNatClampNeg) (s.2) kd0) mv_X8_note hs kd0 ml_L_27 rfl ⟨Nat.le_of_ble_eq_true rfl, Nat.le_of_ble_eq_true rfl⟩ ⟨Nat.le_of_ble_eq_true rfl, Nat.le_of_ble_eq_true rfl⟩ (Nat.le_of_ble_eq_true rfl) dL_law_293 rfl (fun r14 s13 => ?_)
      refine T_aload_n (pc := 296) h dL_law_296 rfl 2 rfl ?_
      refine T_aload_n (pc := 297) h dL_law_297 rfl 0 rfl ?_
      refine T_iload_n (pc := 298) h dL_law_298 rfl 3 rfl ?_
      refine T_iconst (pc := 299) h dL_law_299 ki_1 ?_
      refine T_iadd (pc := 300) h dL_law_300 ?_
      refine T_sld (pc := 301) h hX dL_law_301 ?_
      refine T_aload_n (pc := 302) h dL_law_302 rfl 0 rfl ?_
      refine T_iload_n (pc := 303) h dL_law_303 rfl 3 rfl ?_
      refine T_iconst (pc := 304) h dL_law_304 ki_2 ?_
      refine T_iadd (pc := 305) h dL_law_305 ?_
      refine T_sld (pc := 306) h hX dL_law_306 ?_
      refine T_aload_n (pc := 307) h dL_law_307 rfl 0 rfl ?_
      refine T_iload_n (pc := 308) h dL_law_308 rfl 3 rfl ?_
      refine T_iconst (pc := 309) h dL_law_309 ki_3 ?_
      refine T_iadd (pc := 310) h dL_law_310 ?_
      refine T_sld (pc := 311) h hX dL_law_311 ?_
      refine T_callVi (pc := 312) h (M_X9_note (kl K) hs 55 (xs ((s.1) + (1 : Int32)).toNatClampNeg) (xs ((s.1) + (2 : Int32)).toNatClampNeg) (xs ((s.1) + (3 : Int32)).toNatClampNeg) s13 kd55) mv_X9_note hs kd55 ml_L_31 rfl ⟨Nat.le_of_ble_eq_true rfl, Nat.le_of_ble_eq_true rfl⟩ ⟨Nat.le_of_ble_eq_true rfl, Nat.le_of_ble_eq_true rfl⟩ (Nat.le_of_ble_eq_true rfl) dL_law_312 rfl (fun r16 s15 => ?_)
      refine T_icmp_eq (pc := 315) (tgt := 1075) h dL_law_315 (by decide) ?_ ?_
      · refine T_sub [0, 1, 2, 3] rfl ?_
        exact t_L_law_L1075 h hs hc1 hc2 hX rec18 hr18 (s.1) s15
      · refine T_iconst (pc := 318) h dL_law_318 ki_0 ?_
        exact T_zreturn (pc := 319) h (by rw [hc1]; exact Nat.le_of_ble_eq_true rfl) (by rw [hc2]; exact Nat.le_of_ble_eq_true rfl) dL_law_319
    · dsimp only
      refine T_aload_n (pc := 320) h dL_law_320 rfl 1 rfl ?_
      refine T_aload_n (pc := 321) h dL_law_321 rfl 0 rfl ?_
      refine T_iload_n (pc := 322) h dL_law_322 rfl 3 rfl ?_
      refine T_iconst (pc := 323) h dL_law_323 ki_1 ?_
      refine T_iadd (pc := 324) h dL_law_324 ?_
      refine T_sld (pc := 325) h hX dL_law_325 ?_
      refine T_callVi (pc := 326) h (M_X8_gone (kl K) hs 0 (xs ((s.1) + (1 : Int32)).toNatClampNeg) (s.2) kd0) mv_X8_gone hs kd0 ml_L_32 rfl ⟨Nat.le_of_ble_eq_true rfl, Nat.le_of_ble_eq_true rfl⟩ ⟨Nat.le_of_ble_eq_true rfl, Nat.le_of_ble_eq_true rfl⟩ (Nat.le_of_ble_eq_true rfl) dL_law_326 rfl (fun r18 s17 => ?_)
      refine T_aload_n (pc := 329) h dL_law_329 rfl 2 rfl ?_
      refine T_aload_n (pc := 330) h dL_law_330 rfl 0 rfl ?_
      refine T_iload_n (pc := 331) h dL_law_331 rfl 3 rfl ?_
      refine T_iconst (pc := 332) h dL_law_332 ki_1 ?_
      refine T_iadd (pc := 333) h dL_law_333 ?_
      refine T_sld (pc := 334) h hX dL_law_334 ?_
      refine T_callVi (pc := 335) h (M_X9_gone (kl K) hs 55 (xs ((s.1) + (1 : Int32)).toNatClampNeg) s17 kd55) mv_X9_gone hs kd55 ml_L_35 rfl ⟨Nat.le_of_ble_eq_true rfl, Nat.le_of_ble_eq_true rfl⟩ ⟨Nat.le_of_ble_eq_true rfl, Nat.le_of_ble_eq_true rfl⟩ (Nat.le_of_ble_eq_true rfl) dL_law_335 rfl (fun r20 s19 => ?_)
      refine T_icmp_eq (pc := 338) (tgt := 1075) h dL_law_338 (by decide) ?_ ?_
      · refine T_sub [0, 1, 2, 3] rfl ?_
        exact t_L_law_L1075 h hs hc1 hc2 hX rec18 hr18 (s.1) s19
      · refine T_iconst (pc := 341) h dL_law_341 ki_0 ?_
        exact T_zreturn (pc := 342) h (by rw [hc1]; exact Nat.le_of_ble_eq_true rfl) (by rw [hc2]; exact Nat.le_of_ble_eq_true rfl) dL_law_342
    · dsimp only
      refine T_aload_n (pc := 343) h dL_law_343 rfl 1 rfl ?_
      refine T_callVi (pc := 344) h (M_X8_clear (kl K) hs 0 (s.2) kd0) mv_X8_clear hs kd0 ml_L_36 rfl ⟨Nat.le_of_ble_eq_true rfl, Nat.le_of_ble_eq_true rfl⟩ ⟨Nat.le_of_ble_eq_true rfl, Nat.le_of_ble_eq_true rfl⟩ (Nat.le_of_ble_eq_true rfl) dL_law_344 rfl (fun r22 s21 => ?_)
      refine T_aload_n (pc := 347) h dL_law_347 rfl 2 rfl ?_
      refine T_callVi (pc := 348) h (M_X9_clear (kl K) hs 55 s21 kd55) mv_X9_clear hs kd55 ml_L_40 rfl ⟨Nat.le_of_ble_eq_true rfl, Nat.le_of_ble_eq_true rfl⟩ ⟨Nat.le_of_ble_eq_true rfl, Nat.le_of_ble_eq_true rfl⟩ (Nat.le_of_ble_eq_true rfl) dL_law_348 rfl (fun r24 s23 => ?_)
      refine T_icmp_eq (pc := 351) (tgt := 1075) h dL_law_351 (by decide) ?_ ?_
      · refine T_sub [0, 1, 2, 3] rfl ?_
        exact t_L_law_L1075 h hs hc1 hc2 hX rec18 hr18 (s.1) s23
      · refine T_iconst (pc := 354) h dL_law_354 ki_0 ?_
        exact T_zreturn (pc := 355) h (by rw [hc1]; exact Nat.le_of_ble_eq_true rfl) (by rw [hc2]; exact Nat.le_of_ble_eq_true rfl) dL_law_355
    · dsimp only
      refine T_aload_n (pc := 356) h dL_law_356 rfl 1 rfl ?_
      refine T_aload_n (pc := 357) h dL_law_357 rfl 0 rfl ?_
      refine T_iload_n (pc := 358) h dL_law_358 rfl 3 rfl ?_
      refine T_iconst (pc := 359) h dL_law_359 ki_1 ?_
      refine T_iadd (pc := 360) h dL_law_360 ?_
      refine T_sld (pc := 361) h hX dL_law_361 ?_
      refine T_callVi (pc := 362) h (M_X8_read (kl K) hs 0 (xs ((s.1) + (1 : Int32)).toNatClampNeg) (s.2) kd0) mv_X8_read hs kd0 ml_L_41 rfl ⟨Nat.le_of_ble_eq_true rfl, Nat.le_of_ble_eq_true rfl⟩ ⟨Nat.le_of_ble_eq_true rfl, Nat.le_of_ble_eq_true rfl⟩ (Nat.le_of_ble_eq_true rfl) dL_law_362 rfl (fun r26 s25 => ?_)
      refine T_aload_n (pc := 365) h dL_law_365 rfl 2 rfl ?_
      refine T_aload_n (pc := 366) h dL_law_366 rfl 0 rfl ?_
      refine T_iload_n (pc := 367) h dL_law_367 rfl 3 rfl ?_
      refine T_iconst (pc := 368) h dL_law_368 ki_1 ?_
      refine T_iadd (pc := 369) h dL_law_369 ?_
      refine T_sld (pc := 370) h hX dL_law_370 ?_
      refine T_callVi (pc := 371) h (M_X9_read (kl K) hs 55 (xs ((s.1) + (1 : Int32)).toNatClampNeg) s25 kd55) mv_X9_read hs kd55 ml_L_44 rfl ⟨Nat.le_of_ble_eq_true rfl, Nat.le_of_ble_eq_true rfl⟩ ⟨Nat.le_of_ble_eq_true rfl, Nat.le_of_ble_eq_true rfl⟩ (Nat.le_of_ble_eq_true rfl) dL_law_371 rfl (fun r28 s27 => ?_)
      refine T_icmp_eq (pc := 374) (tgt := 1075) h dL_law_374 (by decide) ?_ ?_
      · refine T_sub [0, 1, 2, 3] rfl ?_
        exact t_L_law_L1075 h hs hc1 hc2 hX rec18 hr18 (s.1) s27
      · refine T_iconst (pc := 377) h dL_law_377 ki_0 ?_
        exact T_zreturn (pc := 378) h (by rw [hc1]; exact Nat.le_of_ble_eq_true rfl) (by rw [hc2]; exact Nat.le_of_ble_eq_true rfl) dL_law_378
    · dsimp only
      refine T_aload_n (pc := 379) h dL_law_379 rfl 1 rfl ?_
      refine T_aload_n (pc := 380) h dL_law_380 rfl 0 rfl ?_
      refine T_iload_n (pc := 381) h dL_law_381 rfl 3 rfl ?_
      refine T_iconst (pc := 382) h dL_law_382 ki_1 ?_
      refine T_iadd (pc := 383) h dL_law_383 ?_
      refine T_sld (pc := 384) h hX dL_law_384 ?_
      refine T_aload_n (pc := 385) h dL_law_385 rfl 0 rfl ?_
      refine T_iload_n (pc := 386) h dL_law_386 rfl 3 rfl ?_
      refine T_iconst (pc := 387) h dL_law_387 ki_2 ?_
      refine T_iadd (pc := 388) h dL_law_388 ?_
      refine T_sld (pc := 389) h hX dL_law_389 ?_
      refine T_callVi (pc := 390) h (M_X8_info (kl K) hs 0 (xs ((s.1) + (1 : Int32)).toNatClampNeg) (xs ((s.1) + (2 : Int32)).toNatClampNeg) (s.2) kd0) mv_X8_info hs kd0 ml_L_45 rfl ⟨Nat.le_of_ble_eq_true rfl, Nat.le_of_ble_eq_true rfl⟩ ⟨Nat.le_of_ble_eq_true rfl, Nat.le_of_ble_eq_true rfl⟩ (Nat.le_of_ble_eq_true rfl) dL_law_390 rfl (fun r30 s29 => ?_)
      refine T_aload_n (pc := 393) h dL_law_393 rfl 2 rfl ?_
      refine T_aload_n (pc := 394) h dL_law_394 rfl 0 rfl ?_
      refine T_iload_n (pc := 395) h dL_law_395 rfl 3 rfl ?_
      refine T_iconst (pc := 396) h dL_law_396 ki_1 ?_
      refine T_iadd (pc := 397) h dL_law_397 ?_
      refine T_sld (pc := 398) h hX dL_law_398 ?_
      refine T_aload_n (pc := 399) h dL_law_399 rfl 0 rfl ?_
      refine T_iload_n (pc := 400) h dL_law_400 rfl 3 rfl ?_
      refine T_iconst (pc := 401) h dL_law_401 ki_2 ?_
      refine T_iadd (pc := 402) h dL_law_402 ?_
      refine T_sld (pc := 403) h hX dL_law_403 ?_
      refine T_callVi (pc := 404) h (M_X9_info (kl K) hs 55 (xs ((s.1) + (1 : Int32)).toNatClampNeg) (xs ((s.1) + (2 : Int32)).toNatClampNeg) s29 kd55) mv_X9_info hs kd55 ml_L_48 rfl ⟨Nat.le_of_ble_eq_true rfl, Nat.le_of_ble_eq_true rfl⟩ ⟨Nat.le_of_ble_eq_true rfl, Nat.le_of_ble_eq_true rfl⟩ (Nat.le_of_ble_eq_true rfl) dL_law_404 rfl (fun r32 s31 => ?_)
      refine T_icmp_eq (pc := 407) (tgt := 1075) h dL_law_407 (by decide) ?_ ?_
      · refine T_sub [0, 1, 2, 3] rfl ?_
        exact t_L_law_L1075 h hs hc1 hc2 hX rec18 hr18 (s.1) s31
      · refine T_iconst (pc := 410) h dL_law_410 ki_0 ?_
        exact T_zreturn (pc := 411) h (by rw [hc1]; exact Nat.le_of_ble_eq_true rfl) (by rw [hc2]; exact Nat.le_of_ble_eq_true rfl) dL_law_411
    · dsimp only
      refine T_aload_n (pc := 412) h dL_law_412 rfl 1 rfl ?_
      refine T_aload_n (pc := 413) h dL_law_413 rfl 0 rfl ?_
      refine T_iload_n (pc := 414) h dL_law_414 rfl 3 rfl ?_
      refine T_iconst (pc := 415) h dL_law_415 ki_1 ?_
      refine T_iadd (pc := 416) h dL_law_416 ?_
      refine T_sld (pc := 417) h hX dL_law_417 ?_
      refine T_aload_n (pc := 418) h dL_law_418 rfl 0 rfl ?_
      refine T_iload_n (pc := 419) h dL_law_419 rfl 3 rfl ?_
      refine T_iconst (pc := 420) h dL_law_420 ki_2 ?_
      refine T_iadd (pc := 421) h dL_law_421 ?_
      refine T_sld (pc := 422) h hX dL_law_422 ?_
      refine T_callVi (pc := 423) h (M_X8_course (kl K) hs 0 (xs ((s.1) + (1 : Int32)).toNatClampNeg) (xs ((s.1) + (2 : Int32)).toNatClampNeg) (s.2) kd0) mv_X8_course hs kd0 ml_L_49 rfl ⟨Nat.le_of_ble_eq_true rfl, Nat.le_of_ble_eq_true rfl⟩ ⟨Nat.le_of_ble_eq_true rfl, Nat.le_of_ble_eq_true rfl⟩ (Nat.le_of_ble_eq_true rfl) dL_law_423 rfl (fun r34 s33 => ?_)
      refine T_aload_n (pc := 426) h dL_law_426 rfl 2 rfl ?_
      refine T_aload_n (pc := 427) h dL_law_427 rfl 0 rfl ?_
      refine T_iload_n (pc := 428) h dL_law_428 rfl 3 rfl ?_
      refine T_iconst (pc := 429) h dL_law_429 ki_1 ?_
      refine T_iadd (pc := 430) h dL_law_430 ?_
      refine T_sld (pc := 431) h hX dL_law_431 ?_
      refine T_aload_n (pc := 432) h dL_law_432 rfl 0 rfl ?_
      refine T_iload_n (pc := 433) h dL_law_433 rfl 3 rfl ?_
      refine T_iconst (pc := 434) h dL_law_434 ki_2 ?_
      refine T_iadd (pc := 435) h dL_law_435 ?_
      refine T_sld (pc := 436) h hX dL_law_436 ?_
      refine T_callVi (pc := 437) h (M_X9_course (kl K) hs 55 (xs ((s.1) + (1 : Int32)).toNatClampNeg) (xs ((s.1) + (2 : Int32)).toNatClampNeg) s33 kd55) mv_X9_course hs kd55 ml_L_52 rfl ⟨Nat.le_of_ble_eq_true rfl, Nat.le_of_ble_eq_true rfl⟩ ⟨Nat.le_of_ble_eq_true rfl, Nat.le_of_ble_eq_true rfl⟩ (Nat.le_of_ble_eq_true rfl) dL_law_437 rfl (fun r36 s35 => ?_)
      refine T_icmp_eq (pc := 440) (tgt := 1075) h dL_law_440 (by decide) ?_ ?_
      · refine T_sub [0, 1, 2, 3] rfl ?_
        exact t_L_law_L1075 h hs hc1 hc2 hX rec18 hr18 (s.1) s35
      · refine T_iconst (pc := 443) h dL_law_443 ki_0 ?_
        exact T_zreturn (pc := 444) h (by rw [hc1]; exact Nat.le_of_ble_eq_true rfl) (by rw [hc2]; exact Nat.le_of_ble_eq_true rfl) dL_law_444
    · dsimp only
      refine T_aload_n (pc := 445) h dL_law_445 rfl 1 rfl ?_
      refine T_callVi (pc := 446) h (M_X8_least (kl K) hs 0 (s.2) kd0) mv_X8_least hs kd0 ml_L_53 rfl ⟨Nat.le_of_ble_eq_true rfl, Nat.le_of_ble_eq_true rfl⟩ ⟨Nat.le_of_ble_eq_true rfl, Nat.le_of_ble_eq_true rfl⟩ (Nat.le_of_ble_eq_true rfl) dL_law_446 rfl (fun r38 s37 => ?_)
      refine T_aload_n (pc := 449) h dL_law_449 rfl 2 rfl ?_
      refine T_callVi (pc := 450) h (M_X9_least (kl K) hs 55 s37 kd55) mv_X9_least hs kd55 ml_L_56 rfl ⟨Nat.le_of_ble_eq_true rfl, Nat.le_of_ble_eq_true rfl⟩ ⟨Nat.le_of_ble_eq_true rfl, Nat.le_of_ble_eq_true rfl⟩ (Nat.le_of_ble_eq_true rfl) dL_law_450 rfl (fun r40 s39 => ?_)
      refine T_icmp_eq (pc := 453) (tgt := 1075) h dL_law_453 (by decide) ?_ ?_
      · refine T_sub [0, 1, 2, 3] rfl ?_
        exact t_L_law_L1075 h hs hc1 hc2 hX rec18 hr18 (s.1) s39
      · refine T_iconst (pc := 456) h dL_law_456 ki_0 ?_
        exact T_zreturn (pc := 457) h (by rw [hc1]; exact Nat.le_of_ble_eq_true rfl) (by rw [hc2]; exact Nat.le_of_ble_eq_true rfl) dL_law_457
    · dsimp only
      refine T_aload_n (pc := 458) h dL_law_458 rfl 1 rfl ?_
      refine T_callVi (pc := 459) h (M_X8_fault (kl K) hs 0 (s.2) kd0) mv_X8_fault hs kd0 ml_L_57 rfl ⟨Nat.le_of_ble_eq_true rfl, Nat.le_of_ble_eq_true rfl⟩ ⟨Nat.le_of_ble_eq_true rfl, Nat.le_of_ble_eq_true rfl⟩ (Nat.le_of_ble_eq_true rfl) dL_law_459 rfl (fun r42 s41 => ?_)
      refine T_aload_n (pc := 462) h dL_law_462 rfl 2 rfl ?_
      refine T_callVi (pc := 463) h (M_X9_fault (kl K) hs 55 s41 kd55) mv_X9_fault hs kd55 ml_L_60 rfl ⟨Nat.le_of_ble_eq_true rfl, Nat.le_of_ble_eq_true rfl⟩ ⟨Nat.le_of_ble_eq_true rfl, Nat.le_of_ble_eq_true rfl⟩ (Nat.le_of_ble_eq_true rfl) dL_law_463 rfl (fun r44 s43 => ?_)
      refine T_icmp_eq (pc := 466) (tgt := 1075) h dL_law_466 (by decide) ?_ ?_
      · refine T_sub [0, 1, 2, 3] rfl ?_
        exact t_L_law_L1075 h hs hc1 hc2 hX rec18 hr18 (s.1) s43
      · refine T_iconst (pc := 469) h dL_law_469 ki_0 ?_
        exact T_zreturn (pc := 470) h (by rw [hc1]; exact Nat.le_of_ble_eq_true rfl) (by rw [hc2]; exact Nat.le_of_ble_eq_true rfl) dL_law_470
    · dsimp only
      refine T_aload_n (pc := 471) h dL_law_471 rfl 1 rfl ?_
      refine T_callVi (pc := 472) h (M_X8_mend (kl K) hs 0 (s.2) kd0) mv_X8_mend hs kd0 ml_L_61 rfl ⟨Nat.le_of_ble_eq_true rfl, Nat.le_of_ble_eq_true rfl⟩ ⟨Nat.le_of_ble_eq_true rfl, Nat.le_of_ble_eq_true rfl⟩ (Nat.le_of_ble_eq_true rfl) dL_law_472 rfl (fun r46 s45 => ?_)
      refine T_aload_n (pc := 475) h dL_law_475 rfl 2 rfl ?_
      refine T_callVi (pc := 476) h (M_X9_mend (kl K) hs 55 s45 kd55) mv_X9_mend hs kd55 ml_L_64 rfl ⟨Nat.le_of_ble_eq_true rfl, Nat.le_of_ble_eq_true rfl⟩ ⟨Nat.le_of_ble_eq_true rfl, Nat.le_of_ble_eq_true rfl⟩ (Nat.le_of_ble_eq_true rfl) dL_law_476 rfl (fun r48 s47 => ?_)
      refine T_icmp_eq (pc := 479) (tgt := 1075) h dL_law_479 (by decide) ?_ ?_
      · refine T_sub [0, 1, 2, 3] rfl ?_
        exact t_L_law_L1075 h hs hc1 hc2 hX rec18 hr18 (s.1) s47
      · refine T_iconst (pc := 482) h dL_law_482 ki_0 ?_
        exact T_zreturn (pc := 483) h (by rw [hc1]; exact Nat.le_of_ble_eq_true rfl) (by rw [hc2]; exact Nat.le_of_ble_eq_true rfl) dL_law_483
    · dsimp only
      refine T_aload_n (pc := 484) h dL_law_484 rfl 1 rfl ?_
      refine T_aload_n (pc := 485) h dL_law_485 rfl 0 rfl ?_
      refine T_iload_n (pc := 486) h dL_law_486 rfl 3 rfl ?_
      refine T_iconst (pc := 487) h dL_law_487 ki_1 ?_
      refine T_iadd (pc := 488) h dL_law_488 ?_
      refine T_sld (pc := 489) h hX dL_law_489 ?_
      refine T_aload_n (pc := 490) h dL_law_490 rfl 0 rfl ?_
      refine T_iload_n (pc := 491) h dL_law_491 rfl 3 rfl ?_
      refine T_iconst (pc := 492) h dL_law_492 ki_2 ?_
      refine T_iadd (pc := 493) h dL_law_493 ?_
      refine T_sld (pc := 494) h hX dL_law_494 ?_
      refine T_callVi (pc := 495) h (M_X8_lay (kl K) hs 0 (xs ((s.1) + (1 : Int32)).toNatClampNeg) (xs ((s.1) + (2 : Int32)).toNatClampNeg) (s.2) kd0) mv_X8_lay hs kd0 ml_L_65 rfl ⟨Nat.le_of_ble_eq_true rfl, Nat.le_of_ble_eq_true rfl⟩ ⟨Nat.le_of_ble_eq_true rfl, Nat.le_of_ble_eq_true rfl⟩ (Nat.le_of_ble_eq_true rfl) dL_law_495 rfl (fun r50 s49 => ?_)
      refine T_aload_n (pc := 498) h dL_law_498 rfl 2 rfl ?_
      refine T_aload_n (pc := 499) h dL_law_499 rfl 0 rfl ?_
      refine T_iload_n (pc := 500) h dL_law_500 rfl 3 rfl ?_
      refine T_iconst (pc := 501) h dL_law_501 ki_1 ?_
      refine T_iadd (pc := 502) h dL_law_502 ?_
      refine T_sld (pc := 503) h hX dL_law_503 ?_
      refine T_aload_n (pc := 504) h dL_law_504 rfl 0 rfl ?_
      refine T_iload_n (pc := 505) h dL_law_505 rfl 3 rfl ?_
      refine T_iconst (pc := 506) h dL_law_506 ki_2 ?_
      refine T_iadd (pc := 507) h dL_law_507 ?_
      refine T_sld (pc := 508) h hX dL_law_508 ?_
      refine T_callVi (pc := 509) h (M_X9_lay (kl K) hs 55 (xs ((s.1) + (1 : Int32)).toNatClampNeg) (xs ((s.1) + (2 : Int32)).toNatClampNeg) s49 kd55) mv_X9_lay hs kd55 ml_L_68 rfl ⟨Nat.le_of_ble_eq_true rfl, Nat.le_of_ble_eq_true rfl⟩ ⟨Nat.le_of_ble_eq_true rfl, Nat.le_of_ble_eq_true rfl⟩ (Nat.le_of_ble_eq_true rfl) dL_law_509 rfl (fun r52 s51 => ?_)
      refine T_icmp_eq (pc := 512) (tgt := 1075) h dL_law_512 (by decide) ?_ ?_
      · refine T_sub [0, 1, 2, 3] rfl ?_
        exact t_L_law_L1075 h hs hc1 hc2 hX rec18 hr18 (s.1) s51
      · refine T_iconst (pc := 515) h dL_law_515 ki_0 ?_
        exact T_zreturn (pc := 516) h (by rw [hc1]; exact Nat.le_of_ble_eq_true rfl) (by rw [hc2]; exact Nat.le_of_ble_eq_true rfl) dL_law_516
    · dsimp only
      refine T_aload_n (pc := 517) h dL_law_517 rfl 1 rfl ?_
      refine T_callVi (pc := 518) h (M_X8_wrong (kl K) hs 0 (s.2) kd0) mv_X8_wrong hs kd0 ml_L_69 rfl ⟨Nat.le_of_ble_eq_true rfl, Nat.le_of_ble_eq_true rfl⟩ ⟨Nat.le_of_ble_eq_true rfl, Nat.le_of_ble_eq_true rfl⟩ (Nat.le_of_ble_eq_true rfl) dL_law_518 rfl (fun r54 s53 => ?_)
      refine T_aload_n (pc := 521) h dL_law_521 rfl 2 rfl ?_
      refine T_callVi (pc := 522) h (M_X9_wrong (kl K) hs 55 s53 kd55) mv_X9_wrong hs kd55 ml_L_72 rfl ⟨Nat.le_of_ble_eq_true rfl, Nat.le_of_ble_eq_true rfl⟩ ⟨Nat.le_of_ble_eq_true rfl, Nat.le_of_ble_eq_true rfl⟩ (Nat.le_of_ble_eq_true rfl) dL_law_522 rfl (fun r56 s55 => ?_)
      refine T_icmp_eq (pc := 525) (tgt := 1075) h dL_law_525 (by decide) ?_ ?_
      · refine T_sub [0, 1, 2, 3] rfl ?_
        exact t_L_law_L1075 h hs hc1 hc2 hX rec18 hr18 (s.1) s55
      · refine T_iconst (pc := 528) h dL_law_528 ki_0 ?_
        exact T_zreturn (pc := 529) h (by rw [hc1]; exact Nat.le_of_ble_eq_true rfl) (by rw [hc2]; exact Nat.le_of_ble_eq_true rfl) dL_law_529
    · dsimp only
      refine T_aload_n (pc := 530) h dL_law_530 rfl 1 rfl ?_
      refine T_callVi (pc := 531) h (M_X8_cost (kl K) hs 0 (s.2) kd0) mv_X8_cost hs kd0 ml_L_73 rfl ⟨Nat.le_of_ble_eq_true rfl, Nat.le_of_ble_eq_true rfl⟩ ⟨Nat.le_of_ble_eq_true rfl, Nat.le_of_ble_eq_true rfl⟩ (Nat.le_of_ble_eq_true rfl) dL_law_531 rfl (fun r58 s57 => ?_)
      refine T_aload_n (pc := 534) h dL_law_534 rfl 2 rfl ?_
      refine T_callVi (pc := 535) h (M_X9_cost (kl K) hs 55 s57 kd55) mv_X9_cost hs kd55 ml_L_76 rfl ⟨Nat.le_of_ble_eq_true rfl, Nat.le_of_ble_eq_true rfl⟩ ⟨Nat.le_of_ble_eq_true rfl, Nat.le_of_ble_eq_true rfl⟩ (Nat.le_of_ble_eq_true rfl) dL_law_535 rfl (fun r60 s59 => ?_)
      refine T_icmp_eq (pc := 538) (tgt := 1075) h dL_law_538 (by decide) ?_ ?_
      · refine T_sub [0, 1, 2, 3] rfl ?_
        exact t_L_law_L1075 h hs hc1 hc2 hX rec18 hr18 (s.1) s59
      · refine T_iconst (pc := 541) h dL_law_541 ki_0 ?_
        exact T_zreturn (pc := 542) h (by rw [hc1]; exact Nat.le_of_ble_eq_true rfl) (by rw [hc2]; exact Nat.le_of_ble_eq_true rfl) dL_law_542
    · dsimp only
      refine T_aload_n (pc := 543) h dL_law_543 rfl 1 rfl ?_
      refine T_aload_n (pc := 544) h dL_law_544 rfl 0 rfl ?_
      refine T_iload_n (pc := 545) h dL_law_545 rfl 3 rfl ?_
      refine T_iconst (pc := 546) h dL_law_546 ki_1 ?_
      refine T_iadd (pc := 547) h dL_law_547 ?_
      refine T_sld (pc := 548) h hX dL_law_548 ?_
      refine T_aload_n (pc := 549) h dL_law_549 rfl 0 rfl ?_
      refine T_iload_n (pc := 550) h dL_law_550 rfl 3 rfl ?_
      refine T_iconst (pc := 551) h dL_law_551 ki_2 ?_
      refine T_iadd (pc := 552) h dL_law_552 ?_
      refine T_sld (pc := 553) h hX dL_law_553 ?_
      refine T_callVi (pc := 554) h (M_X8_chord (kl K) hs 0 (xs ((s.1) + (1 : Int32)).toNatClampNeg) (xs ((s.1) + (2 : Int32)).toNatClampNeg) (s.2) kd0) mv_X8_chord hs kd0 ml_L_77 rfl ⟨Nat.le_of_ble_eq_true rfl, Nat.le_of_ble_eq_true rfl⟩ ⟨Nat.le_of_ble_eq_true rfl, Nat.le_of_ble_eq_true rfl⟩ (Nat.le_of_ble_eq_true rfl) dL_law_554 rfl (fun r62 s61 => ?_)
      refine T_aload_n (pc := 557) h dL_law_557 rfl 2 rfl ?_
      refine T_aload_n (pc := 558) h dL_law_558 rfl 0 rfl ?_
      refine T_iload_n (pc := 559) h dL_law_559 rfl 3 rfl ?_
      refine T_iconst (pc := 560) h dL_law_560 ki_1 ?_
      refine T_iadd (pc := 561) h dL_law_561 ?_
      refine T_sld (pc := 562) h hX dL_law_562 ?_
      refine T_aload_n (pc := 563) h dL_law_563 rfl 0 rfl ?_
      refine T_iload_n (pc := 564) h dL_law_564 rfl 3 rfl ?_
      refine T_iconst (pc := 565) h dL_law_565 ki_2 ?_
      refine T_iadd (pc := 566) h dL_law_566 ?_
      refine T_sld (pc := 567) h hX dL_law_567 ?_
      refine T_callVi (pc := 568) h (M_X9_chord (kl K) hs 55 (xs ((s.1) + (1 : Int32)).toNatClampNeg) (xs ((s.1) + (2 : Int32)).toNatClampNeg) s61 kd55) mv_X9_chord hs kd55 ml_L_80 rfl ⟨Nat.le_of_ble_eq_true rfl, Nat.le_of_ble_eq_true rfl⟩ ⟨Nat.le_of_ble_eq_true rfl, Nat.le_of_ble_eq_true rfl⟩ (Nat.le_of_ble_eq_true rfl) dL_law_568 rfl (fun r64 s63 => ?_)
      refine T_icmp_eq (pc := 571) (tgt := 1075) h dL_law_571 (by decide) ?_ ?_
      · refine T_sub [0, 1, 2, 3] rfl ?_
        exact t_L_law_L1075 h hs hc1 hc2 hX rec18 hr18 (s.1) s63
      · refine T_iconst (pc := 574) h dL_law_574 ki_0 ?_
        exact T_zreturn (pc := 575) h (by rw [hc1]; exact Nat.le_of_ble_eq_true rfl) (by rw [hc2]; exact Nat.le_of_ble_eq_true rfl) dL_law_575
    · dsimp only
      refine T_aload_n (pc := 576) h dL_law_576 rfl 1 rfl ?_
      refine T_aload_n (pc := 577) h dL_law_577 rfl 0 rfl ?_
      refine T_iload_n (pc := 578) h dL_law_578 rfl 3 rfl ?_
      refine T_iconst (pc := 579) h dL_law_579 ki_1 ?_
      refine T_iadd (pc := 580) h dL_law_580 ?_
      refine T_sld (pc := 581) h hX dL_law_581 ?_
      refine T_callVi (pc := 582) h (M_X8_without (kl K) hs 0 (xs ((s.1) + (1 : Int32)).toNatClampNeg) (s.2) kd0) mv_X8_without hs kd0 ml_L_81 rfl ⟨Nat.le_of_ble_eq_true rfl, Nat.le_of_ble_eq_true rfl⟩ ⟨Nat.le_of_ble_eq_true rfl, Nat.le_of_ble_eq_true rfl⟩ (Nat.le_of_ble_eq_true rfl) dL_law_582 rfl (fun r66 s65 => ?_)
      refine T_aload_n (pc := 585) h dL_law_585 rfl 2 rfl ?_
      refine T_aload_n (pc := 586) h dL_law_586 rfl 0 rfl ?_
      refine T_iload_n (pc := 587) h dL_law_587 rfl 3 rfl ?_
      refine T_iconst (pc := 588) h dL_law_588 ki_1 ?_
      refine T_iadd (pc := 589) h dL_law_589 ?_
      refine T_sld (pc := 590) h hX dL_law_590 ?_
      refine T_callVi (pc := 591) h (M_X9_without (kl K) hs 55 (xs ((s.1) + (1 : Int32)).toNatClampNeg) s65 kd55) mv_X9_without hs kd55 ml_L_84 rfl ⟨Nat.le_of_ble_eq_true rfl, Nat.le_of_ble_eq_true rfl⟩ ⟨Nat.le_of_ble_eq_true rfl, Nat.le_of_ble_eq_true rfl⟩ (Nat.le_of_ble_eq_true rfl) dL_law_591 rfl (fun r68 s67 => ?_)
      refine T_icmp_eq (pc := 594) (tgt := 1075) h dL_law_594 (by decide) ?_ ?_
      · refine T_sub [0, 1, 2, 3] rfl ?_
        exact t_L_law_L1075 h hs hc1 hc2 hX rec18 hr18 (s.1) s67
      · refine T_iconst (pc := 597) h dL_law_597 ki_0 ?_
        exact T_zreturn (pc := 598) h (by rw [hc1]; exact Nat.le_of_ble_eq_true rfl) (by rw [hc2]; exact Nat.le_of_ble_eq_true rfl) dL_law_598
    · dsimp only
      refine T_aload_n (pc := 599) h dL_law_599 rfl 1 rfl ?_
      refine T_aload_n (pc := 600) h dL_law_600 rfl 0 rfl ?_
      refine T_iload_n (pc := 601) h dL_law_601 rfl 3 rfl ?_
      refine T_iconst (pc := 602) h dL_law_602 ki_1 ?_
      refine T_iadd (pc := 603) h dL_law_603 ?_
      refine T_sld (pc := 604) h hX dL_law_604 ?_
      refine T_callVi (pc := 605) h (M_X8_key (kl K) hs 0 (xs ((s.1) + (1 : Int32)).toNatClampNeg) (s.2) kd0) mv_X8_key hs kd0 ml_L_85 rfl ⟨Nat.le_of_ble_eq_true rfl, Nat.le_of_ble_eq_true rfl⟩ ⟨Nat.le_of_ble_eq_true rfl, Nat.le_of_ble_eq_true rfl⟩ (Nat.le_of_ble_eq_true rfl) dL_law_605 rfl (fun r70 s69 => ?_)
      refine T_aload_n (pc := 608) h dL_law_608 rfl 2 rfl ?_
      refine T_aload_n (pc := 609) h dL_law_609 rfl 0 rfl ?_
      refine T_iload_n (pc := 610) h dL_law_610 rfl 3 rfl ?_
      refine T_iconst (pc := 611) h dL_law_611 ki_1 ?_
      refine T_iadd (pc := 612) h dL_law_612 ?_
      refine T_sld (pc := 613) h hX dL_law_613 ?_
      refine T_callVi (pc := 614) h (M_X9_key (kl K) hs 55 (xs ((s.1) + (1 : Int32)).toNatClampNeg) s69 kd55) mv_X9_key hs kd55 ml_L_88 rfl ⟨Nat.le_of_ble_eq_true rfl, Nat.le_of_ble_eq_true rfl⟩ ⟨Nat.le_of_ble_eq_true rfl, Nat.le_of_ble_eq_true rfl⟩ (Nat.le_of_ble_eq_true rfl) dL_law_614 rfl (fun r72 s71 => ?_)
      refine T_icmp_eq (pc := 617) (tgt := 1075) h dL_law_617 (by decide) ?_ ?_
      · refine T_sub [0, 1, 2, 3] rfl ?_
        exact t_L_law_L1075 h hs hc1 hc2 hX rec18 hr18 (s.1) s71
      · refine T_iconst (pc := 620) h dL_law_620 ki_0 ?_
        exact T_zreturn (pc := 621) h (by rw [hc1]; exact Nat.le_of_ble_eq_true rfl) (by rw [hc2]; exact Nat.le_of_ble_eq_true rfl) dL_law_621
    · dsimp only
      refine T_aload_n (pc := 622) h dL_law_622 rfl 1 rfl ?_
      refine T_aload_n (pc := 623) h dL_law_623 rfl 0 rfl ?_
      refine T_iload_n (pc := 624) h dL_law_624 rfl 3 rfl ?_
      refine T_iconst (pc := 625) h dL_law_625 ki_1 ?_
      refine T_iadd (pc := 626) h dL_law_626 ?_
      refine T_sld (pc := 627) h hX dL_law_627 ?_
      refine T_callVi (pc := 628) h (M_X8_easiest (kl K) hs 0 (xs ((s.1) + (1 : Int32)).toNatClampNeg) (s.2) kd0) mv_X8_easiest hs kd0 ml_L_89 rfl ⟨Nat.le_of_ble_eq_true rfl, Nat.le_of_ble_eq_true rfl⟩ ⟨Nat.le_of_ble_eq_true rfl, Nat.le_of_ble_eq_true rfl⟩ (Nat.le_of_ble_eq_true rfl) dL_law_628 rfl (fun r74 s73 => ?_)
      refine T_aload_n (pc := 631) h dL_law_631 rfl 2 rfl ?_
      refine T_aload_n (pc := 632) h dL_law_632 rfl 0 rfl ?_
      refine T_iload_n (pc := 633) h dL_law_633 rfl 3 rfl ?_
      refine T_iconst (pc := 634) h dL_law_634 ki_1 ?_
      refine T_iadd (pc := 635) h dL_law_635 ?_
      refine T_sld (pc := 636) h hX dL_law_636 ?_
      refine T_callVi (pc := 637) h (M_X9_easiest (kl K) hs 55 (xs ((s.1) + (1 : Int32)).toNatClampNeg) s73 kd55) mv_X9_easiest hs kd55 ml_L_92 rfl ⟨Nat.le_of_ble_eq_true rfl, Nat.le_of_ble_eq_true rfl⟩ ⟨Nat.le_of_ble_eq_true rfl, Nat.le_of_ble_eq_true rfl⟩ (Nat.le_of_ble_eq_true rfl) dL_law_637 rfl (fun r76 s75 => ?_)
      refine T_icmp_eq (pc := 640) (tgt := 1075) h dL_law_640 (by decide) ?_ ?_
      · refine T_sub [0, 1, 2, 3] rfl ?_
        exact t_L_law_L1075 h hs hc1 hc2 hX rec18 hr18 (s.1) s75
      · refine T_iconst (pc := 643) h dL_law_643 ki_0 ?_
        exact T_zreturn (pc := 644) h (by rw [hc1]; exact Nat.le_of_ble_eq_true rfl) (by rw [hc2]; exact Nat.le_of_ble_eq_true rfl) dL_law_644
    · dsimp only
      refine T_aload_n (pc := 645) h dL_law_645 rfl 1 rfl ?_
      refine T_aload_n (pc := 646) h dL_law_646 rfl 0 rfl ?_
      refine T_iload_n (pc := 647) h dL_law_647 rfl 3 rfl ?_
      refine T_iconst (pc := 648) h dL_law_648 ki_1 ?_
      refine T_iadd (pc := 649) h dL_law_649 ?_
      refine T_sld (pc := 650) h hX dL_law_650 ?_
      refine T_callVi (pc := 651) h (M_X8_keep (kl K) hs 0 (xs ((s.1) + (1 : Int32)).toNatClampNeg) (s.2) kd0) mv_X8_keep hs kd0 ml_L_93 rfl ⟨Nat.le_of_ble_eq_true rfl, Nat.le_of_ble_eq_true rfl⟩ ⟨Nat.le_of_ble_eq_true rfl, Nat.le_of_ble_eq_true rfl⟩ (Nat.le_of_ble_eq_true rfl) dL_law_651 rfl (fun r78 s77 => ?_)
      refine T_aload_n (pc := 654) h dL_law_654 rfl 2 rfl ?_
      refine T_aload_n (pc := 655) h dL_law_655 rfl 0 rfl ?_
      refine T_iload_n (pc := 656) h dL_law_656 rfl 3 rfl ?_
      refine T_iconst (pc := 657) h dL_law_657 ki_1 ?_
      refine T_iadd (pc := 658) h dL_law_658 ?_
      refine T_sld (pc := 659) h hX dL_law_659 ?_
      refine T_callVi (pc := 660) h (M_X9_keep (kl K) hs 55 (xs ((s.1) + (1 : Int32)).toNatClampNeg) s77 kd55) mv_X9_keep hs kd55 ml_L_96 rfl ⟨Nat.le_of_ble_eq_true rfl, Nat.le_of_ble_eq_true rfl⟩ ⟨Nat.le_of_ble_eq_true rfl, Nat.le_of_ble_eq_true rfl⟩ (Nat.le_of_ble_eq_true rfl) dL_law_660 rfl (fun r80 s79 => ?_)
      refine T_icmp_eq (pc := 663) (tgt := 1075) h dL_law_663 (by decide) ?_ ?_
      · refine T_sub [0, 1, 2, 3] rfl ?_
        exact t_L_law_L1075 h hs hc1 hc2 hX rec18 hr18 (s.1) s79
      · refine T_iconst (pc := 666) h dL_law_666 ki_0 ?_
        exact T_zreturn (pc := 667) h (by rw [hc1]; exact Nat.le_of_ble_eq_true rfl) (by rw [hc2]; exact Nat.le_of_ble_eq_true rfl) dL_law_667
    · dsimp only
      refine T_aload_n (pc := 668) h dL_law_668 rfl 1 rfl ?_
      refine T_aload_n (pc := 669) h dL_law_669 rfl 0 rfl ?_
      refine T_iload_n (pc := 670) h dL_law_670 rfl 3 rfl ?_
      refine T_iconst (pc := 671) h dL_law_671 ki_1 ?_
      refine T_iadd (pc := 672) h dL_law_672 ?_
      refine T_sld (pc := 673) h hX dL_law_673 ?_
      refine T_callVi (pc := 674) h (M_X8_go (kl K) hs 0 (xs ((s.1) + (1 : Int32)).toNatClampNeg) (s.2) kd0) mv_X8_go hs kd0 ml_L_97 rfl ⟨Nat.le_of_ble_eq_true rfl, Nat.le_of_ble_eq_true rfl⟩ ⟨Nat.le_of_ble_eq_true rfl, Nat.le_of_ble_eq_true rfl⟩ (Nat.le_of_ble_eq_true rfl) dL_law_674 rfl (fun r82 s81 => ?_)
      refine T_aload_n (pc := 677) h dL_law_677 rfl 2 rfl ?_
      refine T_aload_n (pc := 678) h dL_law_678 rfl 0 rfl ?_
      refine T_iload_n (pc := 679) h dL_law_679 rfl 3 rfl ?_
      refine T_iconst (pc := 680) h dL_law_680 ki_1 ?_
      refine T_iadd (pc := 681) h dL_law_681 ?_
      refine T_sld (pc := 682) h hX dL_law_682 ?_
      refine T_callVi (pc := 683) h (M_X9_go (kl K) hs 55 (xs ((s.1) + (1 : Int32)).toNatClampNeg) s81 kd55) mv_X9_go hs kd55 ml_L_100 rfl ⟨Nat.le_of_ble_eq_true rfl, Nat.le_of_ble_eq_true rfl⟩ ⟨Nat.le_of_ble_eq_true rfl, Nat.le_of_ble_eq_true rfl⟩ (Nat.le_of_ble_eq_true rfl) dL_law_683 rfl (fun r84 s83 => ?_)
      refine T_icmp_eq (pc := 686) (tgt := 1075) h dL_law_686 (by decide) ?_ ?_
      · refine T_sub [0, 1, 2, 3] rfl ?_
        exact t_L_law_L1075 h hs hc1 hc2 hX rec18 hr18 (s.1) s83
      · refine T_iconst (pc := 689) h dL_law_689 ki_0 ?_
        exact T_zreturn (pc := 690) h (by rw [hc1]; exact Nat.le_of_ble_eq_true rfl) (by rw [hc2]; exact Nat.le_of_ble_eq_true rfl) dL_law_690
    · dsimp only
      refine T_aload_n (pc := 691) h dL_law_691 rfl 1 rfl ?_
      refine T_aload_n (pc := 692) h dL_law_692 rfl 0 rfl ?_
      refine T_iload_n (pc := 693) h dL_law_693 rfl 3 rfl ?_
      refine T_iconst (pc := 694) h dL_law_694 ki_1 ?_
      refine T_iadd (pc := 695) h dL_law_695 ?_
      refine T_sld (pc := 696) h hX dL_law_696 ?_
      refine T_callVi (pc := 697) h (M_X8_differ (kl K) hs 0 (xs ((s.1) + (1 : Int32)).toNatClampNeg) (s.2) kd0) mv_X8_differ hs kd0 ml_L_101 rfl ⟨Nat.le_of_ble_eq_true rfl, Nat.le_of_ble_eq_true rfl⟩ ⟨Nat.le_of_ble_eq_true rfl, Nat.le_of_ble_eq_true rfl⟩ (Nat.le_of_ble_eq_true rfl) dL_law_697 rfl (fun r86 s85 => ?_)
      refine T_aload_n (pc := 700) h dL_law_700 rfl 2 rfl ?_
      refine T_aload_n (pc := 701) h dL_law_701 rfl 0 rfl ?_
      refine T_iload_n (pc := 702) h dL_law_702 rfl 3 rfl ?_
      refine T_iconst (pc := 703) h dL_law_703 ki_1 ?_
      refine T_iadd (pc := 704) h dL_law_704 ?_
      refine T_sld (pc := 705) h hX dL_law_705 ?_
      refine T_callVi (pc := 706) h (M_X9_differ (kl K) hs 55 (xs ((s.1) + (1 : Int32)).toNatClampNeg) s85 kd55) mv_X9_differ hs kd55 ml_L_104 rfl ⟨Nat.le_of_ble_eq_true rfl, Nat.le_of_ble_eq_true rfl⟩ ⟨Nat.le_of_ble_eq_true rfl, Nat.le_of_ble_eq_true rfl⟩ (Nat.le_of_ble_eq_true rfl) dL_law_706 rfl (fun r88 s87 => ?_)
      refine T_icmp_eq (pc := 709) (tgt := 1075) h dL_law_709 (by decide) ?_ ?_
      · refine T_sub [0, 1, 2, 3] rfl ?_
        exact t_L_law_L1075 h hs hc1 hc2 hX rec18 hr18 (s.1) s87
      · refine T_iconst (pc := 712) h dL_law_712 ki_0 ?_
        exact T_zreturn (pc := 713) h (by rw [hc1]; exact Nat.le_of_ble_eq_true rfl) (by rw [hc2]; exact Nat.le_of_ble_eq_true rfl) dL_law_713
    · dsimp only
      refine T_aload_n (pc := 714) h dL_law_714 rfl 1 rfl ?_
      refine T_aload_n (pc := 715) h dL_law_715 rfl 0 rfl ?_
      refine T_iload_n (pc := 716) h dL_law_716 rfl 3 rfl ?_
      refine T_iconst (pc := 717) h dL_law_717 ki_1 ?_
      refine T_iadd (pc := 718) h dL_law_718 ?_
      refine T_sld (pc := 719) h hX dL_law_719 ?_
      refine T_callVi (pc := 720) h (M_X8_text (kl K) hs 0 (xs ((s.1) + (1 : Int32)).toNatClampNeg) (s.2) kd0) mv_X8_text hs kd0 ml_L_105 rfl ⟨Nat.le_of_ble_eq_true rfl, Nat.le_of_ble_eq_true rfl⟩ ⟨Nat.le_of_ble_eq_true rfl, Nat.le_of_ble_eq_true rfl⟩ (Nat.le_of_ble_eq_true rfl) dL_law_720 rfl (fun r90 s89 => ?_)
      refine T_aload_n (pc := 723) h dL_law_723 rfl 2 rfl ?_
      refine T_aload_n (pc := 724) h dL_law_724 rfl 0 rfl ?_
      refine T_iload_n (pc := 725) h dL_law_725 rfl 3 rfl ?_
      refine T_iconst (pc := 726) h dL_law_726 ki_1 ?_
      refine T_iadd (pc := 727) h dL_law_727 ?_
      refine T_sld (pc := 728) h hX dL_law_728 ?_
      refine T_callVi (pc := 729) h (M_X9_text (kl K) hs 55 (xs ((s.1) + (1 : Int32)).toNatClampNeg) s89 kd55) mv_X9_text hs kd55 ml_L_108 rfl ⟨Nat.le_of_ble_eq_true rfl, Nat.le_of_ble_eq_true rfl⟩ ⟨Nat.le_of_ble_eq_true rfl, Nat.le_of_ble_eq_true rfl⟩ (Nat.le_of_ble_eq_true rfl) dL_law_729 rfl (fun r92 s91 => ?_)
      refine T_icmp_eq (pc := 732) (tgt := 1075) h dL_law_732 (by decide) ?_ ?_
      · refine T_sub [0, 1, 2, 3] rfl ?_
        exact t_L_law_L1075 h hs hc1 hc2 hX rec18 hr18 (s.1) s91
      · refine T_iconst (pc := 735) h dL_law_735 ki_0 ?_
        exact T_zreturn (pc := 736) h (by rw [hc1]; exact Nat.le_of_ble_eq_true rfl) (by rw [hc2]; exact Nat.le_of_ble_eq_true rfl) dL_law_736
    · dsimp only
      refine T_aload_n (pc := 737) h dL_law_737 rfl 1 rfl ?_
      refine T_aload_n (pc := 738) h dL_law_738 rfl 0 rfl ?_
      refine T_iload_n (pc := 739) h dL_law_739 rfl 3 rfl ?_
      refine T_iconst (pc := 740) h dL_law_740 ki_1 ?_
      refine T_iadd (pc := 741) h dL_law_741 ?_
      refine T_sld (pc := 742) h hX dL_law_742 ?_
      refine T_callVi (pc := 743) h (M_X8_type (kl K) hs 0 (xs ((s.1) + (1 : Int32)).toNatClampNeg) (s.2) kd0) mv_X8_type hs kd0 ml_L_109 rfl ⟨Nat.le_of_ble_eq_true rfl, Nat.le_of_ble_eq_true rfl⟩ ⟨Nat.le_of_ble_eq_true rfl, Nat.le_of_ble_eq_true rfl⟩ (Nat.le_of_ble_eq_true rfl) dL_law_743 rfl (fun r94 s93 => ?_)
      refine T_aload_n (pc := 746) h dL_law_746 rfl 2 rfl ?_
      refine T_aload_n (pc := 747) h dL_law_747 rfl 0 rfl ?_
      refine T_iload_n (pc := 748) h dL_law_748 rfl 3 rfl ?_
      refine T_iconst (pc := 749) h dL_law_749 ki_1 ?_
      refine T_iadd (pc := 750) h dL_law_750 ?_
      refine T_sld (pc := 751) h hX dL_law_751 ?_
      refine T_callVi (pc := 752) h (M_X9_type (kl K) hs 55 (xs ((s.1) + (1 : Int32)).toNatClampNeg) s93 kd55) mv_X9_type hs kd55 ml_L_112 rfl ⟨Nat.le_of_ble_eq_true rfl, Nat.le_of_ble_eq_true rfl⟩ ⟨Nat.le_of_ble_eq_true rfl, Nat.le_of_ble_eq_true rfl⟩ (Nat.le_of_ble_eq_true rfl) dL_law_752 rfl (fun r96 s95 => ?_)
      refine T_icmp_eq (pc := 755) (tgt := 1075) h dL_law_755 (by decide) ?_ ?_
      · refine T_sub [0, 1, 2, 3] rfl ?_
        exact t_L_law_L1075 h hs hc1 hc2 hX rec18 hr18 (s.1) s95
      · refine T_iconst (pc := 758) h dL_law_758 ki_0 ?_
        exact T_zreturn (pc := 759) h (by rw [hc1]; exact Nat.le_of_ble_eq_true rfl) (by rw [hc2]; exact Nat.le_of_ble_eq_true rfl) dL_law_759
    · dsimp only
      refine T_aload_n (pc := 760) h dL_law_760 rfl 1 rfl ?_
      refine T_callVi (pc := 761) h (M_X8_wipe (kl K) hs 0 (s.2) kd0) mv_X8_wipe hs kd0 ml_L_113 rfl ⟨Nat.le_of_ble_eq_true rfl, Nat.le_of_ble_eq_true rfl⟩ ⟨Nat.le_of_ble_eq_true rfl, Nat.le_of_ble_eq_true rfl⟩ (Nat.le_of_ble_eq_true rfl) dL_law_761 rfl (fun r98 s97 => ?_)
      refine T_aload_n (pc := 764) h dL_law_764 rfl 2 rfl ?_
      refine T_callVi (pc := 765) h (M_X9_wipe (kl K) hs 55 s97 kd55) mv_X9_wipe hs kd55 ml_L_116 rfl ⟨Nat.le_of_ble_eq_true rfl, Nat.le_of_ble_eq_true rfl⟩ ⟨Nat.le_of_ble_eq_true rfl, Nat.le_of_ble_eq_true rfl⟩ (Nat.le_of_ble_eq_true rfl) dL_law_765 rfl (fun r100 s99 => ?_)
      refine T_icmp_eq (pc := 768) (tgt := 1075) h dL_law_768 (by decide) ?_ ?_
      · refine T_sub [0, 1, 2, 3] rfl ?_
        exact t_L_law_L1075 h hs hc1 hc2 hX rec18 hr18 (s.1) s99
      · refine T_iconst (pc := 771) h dL_law_771 ki_0 ?_
        exact T_zreturn (pc := 772) h (by rw [hc1]; exact Nat.le_of_ble_eq_true rfl) (by rw [hc2]; exact Nat.le_of_ble_eq_true rfl) dL_law_772
    · dsimp only
      refine T_aload_n (pc := 773) h dL_law_773 rfl 1 rfl ?_
      refine T_callVi (pc := 774) h (M_X8_flaw (kl K) hs 0 (s.2) kd0) mv_X8_flaw hs kd0 ml_L_117 rfl ⟨Nat.le_of_ble_eq_true rfl, Nat.le_of_ble_eq_true rfl⟩ ⟨Nat.le_of_ble_eq_true rfl, Nat.le_of_ble_eq_true rfl⟩ (Nat.le_of_ble_eq_true rfl) dL_law_774 rfl (fun r102 s101 => ?_)
      refine T_aload_n (pc := 777) h dL_law_777 rfl 2 rfl ?_
      refine T_callVi (pc := 778) h (M_X9_flaw (kl K) hs 55 s101 kd55) mv_X9_flaw hs kd55 ml_L_120 rfl ⟨Nat.le_of_ble_eq_true rfl, Nat.le_of_ble_eq_true rfl⟩ ⟨Nat.le_of_ble_eq_true rfl, Nat.le_of_ble_eq_true rfl⟩ (Nat.le_of_ble_eq_true rfl) dL_law_778 rfl (fun r104 s103 => ?_)
      refine T_icmp_eq (pc := 781) (tgt := 1075) h dL_law_781 (by decide) ?_ ?_
      · refine T_sub [0, 1, 2, 3] rfl ?_
        exact t_L_law_L1075 h hs hc1 hc2 hX rec18 hr18 (s.1) s103
      · refine T_iconst (pc := 784) h dL_law_784 ki_0 ?_
        exact T_zreturn (pc := 785) h (by rw [hc1]; exact Nat.le_of_ble_eq_true rfl) (by rw [hc2]; exact Nat.le_of_ble_eq_true rfl) dL_law_785
    · dsimp only
      refine T_aload_n (pc := 786) h dL_law_786 rfl 1 rfl ?_
      refine T_callVi (pc := 787) h (M_X8_back (kl K) hs 0 (s.2) kd0) mv_X8_back hs kd0 ml_L_121 rfl ⟨Nat.le_of_ble_eq_true rfl, Nat.le_of_ble_eq_true rfl⟩ ⟨Nat.le_of_ble_eq_true rfl, Nat.le_of_ble_eq_true rfl⟩ (Nat.le_of_ble_eq_true rfl) dL_law_787 rfl (fun r106 s105 => ?_)
      refine T_aload_n (pc := 790) h dL_law_790 rfl 2 rfl ?_
      refine T_callVi (pc := 791) h (M_X9_back (kl K) hs 55 s105 kd55) mv_X9_back hs kd55 ml_L_124 rfl ⟨Nat.le_of_ble_eq_true rfl, Nat.le_of_ble_eq_true rfl⟩ ⟨Nat.le_of_ble_eq_true rfl, Nat.le_of_ble_eq_true rfl⟩ (Nat.le_of_ble_eq_true rfl) dL_law_791 rfl (fun r108 s107 => ?_)
      refine T_icmp_eq (pc := 794) (tgt := 1075) h dL_law_794 (by decide) ?_ ?_
      · refine T_sub [0, 1, 2, 3] rfl ?_
        exact t_L_law_L1075 h hs hc1 hc2 hX rec18 hr18 (s.1) s107
      · refine T_iconst (pc := 797) h dL_law_797 ki_0 ?_
        exact T_zreturn (pc := 798) h (by rw [hc1]; exact Nat.le_of_ble_eq_true rfl) (by rw [hc2]; exact Nat.le_of_ble_eq_true rfl) dL_law_798
    · dsimp only
      refine T_aload_n (pc := 799) h dL_law_799 rfl 1 rfl ?_
      refine T_aload_n (pc := 800) h dL_law_800 rfl 0 rfl ?_
      refine T_iload_n (pc := 801) h dL_law_801 rfl 3 rfl ?_
      refine T_iconst (pc := 802) h dL_law_802 ki_1 ?_
      refine T_iadd (pc := 803) h dL_law_803 ?_
      refine T_sld (pc := 804) h hX dL_law_804 ?_
      refine T_aload_n (pc := 805) h dL_law_805 rfl 0 rfl ?_
      refine T_iload_n (pc := 806) h dL_law_806 rfl 3 rfl ?_
      refine T_iconst (pc := 807) h dL_law_807 ki_2 ?_
      refine T_iadd (pc := 808) h dL_law_808 ?_
      refine T_sld (pc := 809) h hX dL_law_809 ?_
      refine T_aload_n (pc := 810) h dL_law_810 rfl 0 rfl ?_
      refine T_iload_n (pc := 811) h dL_law_811 rfl 3 rfl ?_
      refine T_iconst (pc := 812) h dL_law_812 ki_3 ?_
      refine T_iadd (pc := 813) h dL_law_813 ?_
      refine T_sld (pc := 814) h hX dL_law_814 ?_
      refine T_callVi (pc := 815) h (M_X8_sheet (kl K) hs 0 (xs ((s.1) + (1 : Int32)).toNatClampNeg) (xs ((s.1) + (2 : Int32)).toNatClampNeg) (xs ((s.1) + (3 : Int32)).toNatClampNeg) (s.2) kd0) mv_X8_sheet hs kd0 ml_L_125 rfl ⟨Nat.le_of_ble_eq_true rfl, Nat.le_of_ble_eq_true rfl⟩ ⟨Nat.le_of_ble_eq_true rfl, Nat.le_of_ble_eq_true rfl⟩ (Nat.le_of_ble_eq_true rfl) dL_law_815 rfl (fun r110 s109 => ?_)
      refine T_aload_n (pc := 818) h dL_law_818 rfl 2 rfl ?_
      refine T_aload_n (pc := 819) h dL_law_819 rfl 0 rfl ?_
      refine T_iload_n (pc := 820) h dL_law_820 rfl 3 rfl ?_
      refine T_iconst (pc := 821) h dL_law_821 ki_1 ?_
      refine T_iadd (pc := 822) h dL_law_822 ?_
      refine T_sld (pc := 823) h hX dL_law_823 ?_
      refine T_aload_n (pc := 824) h dL_law_824 rfl 0 rfl ?_
      refine T_iload_n (pc := 825) h dL_law_825 rfl 3 rfl ?_
      refine T_iconst (pc := 826) h dL_law_826 ki_2 ?_
      refine T_iadd (pc := 827) h dL_law_827 ?_
      refine T_sld (pc := 828) h hX dL_law_828 ?_
      refine T_aload_n (pc := 829) h dL_law_829 rfl 0 rfl ?_
      refine T_iload_n (pc := 830) h dL_law_830 rfl 3 rfl ?_
      refine T_iconst (pc := 831) h dL_law_831 ki_3 ?_
      refine T_iadd (pc := 832) h dL_law_832 ?_
      refine T_sld (pc := 833) h hX dL_law_833 ?_
      refine T_callVi (pc := 834) h (M_X9_sheet (kl K) hs 55 (xs ((s.1) + (1 : Int32)).toNatClampNeg) (xs ((s.1) + (2 : Int32)).toNatClampNeg) (xs ((s.1) + (3 : Int32)).toNatClampNeg) s109 kd55) mv_X9_sheet hs kd55 ml_L_128 rfl ⟨Nat.le_of_ble_eq_true rfl, Nat.le_of_ble_eq_true rfl⟩ ⟨Nat.le_of_ble_eq_true rfl, Nat.le_of_ble_eq_true rfl⟩ (Nat.le_of_ble_eq_true rfl) dL_law_834 rfl (fun r112 s111 => ?_)
      refine T_icmp_eq (pc := 837) (tgt := 1075) h dL_law_837 (by decide) ?_ ?_
      · refine T_sub [0, 1, 2, 3] rfl ?_
        exact t_L_law_L1075 h hs hc1 hc2 hX rec18 hr18 (s.1) s111
      · refine T_iconst (pc := 840) h dL_law_840 ki_0 ?_
        exact T_zreturn (pc := 841) h (by rw [hc1]; exact Nat.le_of_ble_eq_true rfl) (by rw [hc2]; exact Nat.le_of_ble_eq_true rfl) dL_law_841
    · dsimp only
      refine T_aload_n (pc := 842) h dL_law_842 rfl 1 rfl ?_
      refine T_aload_n (pc := 843) h dL_law_843 rfl 0 rfl ?_
      refine T_iload_n (pc := 844) h dL_law_844 rfl 3 rfl ?_
      refine T_iconst (pc := 845) h dL_law_845 ki_1 ?_
      refine T_iadd (pc := 846) h dL_law_846 ?_
      refine T_sld (pc := 847) h hX dL_law_847 ?_
      refine T_callVi (pc := 848) h (M_X8_lose (kl K) hs 0 (xs ((s.1) + (1 : Int32)).toNatClampNeg) (s.2) kd0) mv_X8_lose hs kd0 ml_L_129 rfl ⟨Nat.le_of_ble_eq_true rfl, Nat.le_of_ble_eq_true rfl⟩ ⟨Nat.le_of_ble_eq_true rfl, Nat.le_of_ble_eq_true rfl⟩ (Nat.le_of_ble_eq_true rfl) dL_law_848 rfl (fun r114 s113 => ?_)
      refine T_aload_n (pc := 851) h dL_law_851 rfl 2 rfl ?_
      refine T_aload_n (pc := 852) h dL_law_852 rfl 0 rfl ?_
      refine T_iload_n (pc := 853) h dL_law_853 rfl 3 rfl ?_
      refine T_iconst (pc := 854) h dL_law_854 ki_1 ?_
      refine T_iadd (pc := 855) h dL_law_855 ?_
      refine T_sld (pc := 856) h hX dL_law_856 ?_
      refine T_callVi (pc := 857) h (M_X9_lose (kl K) hs 55 (xs ((s.1) + (1 : Int32)).toNatClampNeg) s113 kd55) mv_X9_lose hs kd55 ml_L_132 rfl ⟨Nat.le_of_ble_eq_true rfl, Nat.le_of_ble_eq_true rfl⟩ ⟨Nat.le_of_ble_eq_true rfl, Nat.le_of_ble_eq_true rfl⟩ (Nat.le_of_ble_eq_true rfl) dL_law_857 rfl (fun r116 s115 => ?_)
      refine T_icmp_eq (pc := 860) (tgt := 1075) h dL_law_860 (by decide) ?_ ?_
      · refine T_sub [0, 1, 2, 3] rfl ?_
        exact t_L_law_L1075 h hs hc1 hc2 hX rec18 hr18 (s.1) s115
      · refine T_iconst (pc := 863) h dL_law_863 ki_0 ?_
        exact T_zreturn (pc := 864) h (by rw [hc1]; exact Nat.le_of_ble_eq_true rfl) (by rw [hc2]; exact Nat.le_of_ble_eq_true rfl) dL_law_864
    · dsimp only
      refine T_aload_n (pc := 865) h dL_law_865 rfl 1 rfl ?_
      refine T_aload_n (pc := 866) h dL_law_866 rfl 0 rfl ?_
      refine T_iload_n (pc := 867) h dL_law_867 rfl 3 rfl ?_
      refine T_iconst (pc := 868) h dL_law_868 ki_1 ?_
      refine T_iadd (pc := 869) h dL_law_869 ?_
      refine T_sld (pc := 870) h hX dL_law_870 ?_
      refine T_aload_n (pc := 871) h dL_law_871 rfl 0 rfl ?_
      refine T_iload_n (pc := 872) h dL_law_872 rfl 3 rfl ?_
      refine T_iconst (pc := 873) h dL_law_873 ki_2 ?_
      refine T_iadd (pc := 874) h dL_law_874 ?_
      refine T_sld (pc := 875) h hX dL_law_875 ?_
      refine T_aload_n (pc := 876) h dL_law_876 rfl 0 rfl ?_
      refine T_iload_n (pc := 877) h dL_law_877 rfl 3 rfl ?_
      refine T_iconst (pc := 878) h dL_law_878 ki_3 ?_
      refine T_iadd (pc := 879) h dL_law_879 ?_
      refine T_sld (pc := 880) h hX dL_law_880 ?_
      refine T_aload_n (pc := 881) h dL_law_881 rfl 0 rfl ?_
      refine T_iload_n (pc := 882) h dL_law_882 rfl 3 rfl ?_
      refine T_iconst (pc := 883) h dL_law_883 ki_4 ?_
      refine T_iadd (pc := 884) h dL_law_884 ?_
      refine T_sld (pc := 885) h hX dL_law_885 ?_
      refine T_callVi (pc := 886) h (M_X8_put (kl K) hs 0 (xs ((s.1) + (1 : Int32)).toNatClampNeg) (xs ((s.1) + (2 : Int32)).toNatClampNeg) (xs ((s.1) + (3 : Int32)).toNatClampNeg) (xs ((s.1) + (4 : Int32)).toNatClampNeg) (s.2) kd0) mv_X8_put hs kd0 ml_L_133 rfl ⟨Nat.le_of_ble_eq_true rfl, Nat.le_of_ble_eq_true rfl⟩ ⟨Nat.le_of_ble_eq_true rfl, Nat.le_of_ble_eq_true rfl⟩ (Nat.le_of_ble_eq_true rfl) dL_law_886 rfl (fun r118 s117 => ?_)
      refine T_aload_n (pc := 889) h dL_law_889 rfl 2 rfl ?_
      refine T_aload_n (pc := 890) h dL_law_890 rfl 0 rfl ?_
      refine T_iload_n (pc := 891) h dL_law_891 rfl 3 rfl ?_
      refine T_iconst (pc := 892) h dL_law_892 ki_1 ?_
      refine T_iadd (pc := 893) h dL_law_893 ?_
      refine T_sld (pc := 894) h hX dL_law_894 ?_
      refine T_aload_n (pc := 895) h dL_law_895 rfl 0 rfl ?_
      refine T_iload_n (pc := 896) h dL_law_896 rfl 3 rfl ?_
      refine T_iconst (pc := 897) h dL_law_897 ki_2 ?_
      refine T_iadd (pc := 898) h dL_law_898 ?_
      refine T_sld (pc := 899) h hX dL_law_899 ?_
      refine T_aload_n (pc := 900) h dL_law_900 rfl 0 rfl ?_
      refine T_iload_n (pc := 901) h dL_law_901 rfl 3 rfl ?_
      refine T_iconst (pc := 902) h dL_law_902 ki_3 ?_
      refine T_iadd (pc := 903) h dL_law_903 ?_
      refine T_sld (pc := 904) h hX dL_law_904 ?_
      refine T_aload_n (pc := 905) h dL_law_905 rfl 0 rfl ?_
      refine T_iload_n (pc := 906) h dL_law_906 rfl 3 rfl ?_
      refine T_iconst (pc := 907) h dL_law_907 ki_4 ?_
      refine T_iadd (pc := 908) h dL_law_908 ?_
      refine T_sld (pc := 909) h hX dL_law_909 ?_
      refine T_callVi (pc := 910) h (M_X9_put (kl K) hs 55 (xs ((s.1) + (1 : Int32)).toNatClampNeg) (xs ((s.1) + (2 : Int32)).toNatClampNeg) (xs ((s.1) + (3 : Int32)).toNatClampNeg) (xs ((s.1) + (4 : Int32)).toNatClampNeg) s117 kd55) mv_X9_put hs kd55 ml_L_137 rfl ⟨Nat.le_of_ble_eq_true rfl, Nat.le_of_ble_eq_true rfl⟩ ⟨Nat.le_of_ble_eq_true rfl, Nat.le_of_ble_eq_true rfl⟩ (Nat.le_of_ble_eq_true rfl) dL_law_910 rfl (fun r120 s119 => ?_)
      refine T_icmp_eq (pc := 913) (tgt := 1075) h dL_law_913 (by decide) ?_ ?_
      · refine T_sub [0, 1, 2, 3] rfl ?_
        exact t_L_law_L1075 h hs hc1 hc2 hX rec18 hr18 (s.1) s119
      · refine T_iconst (pc := 916) h dL_law_916 ki_0 ?_
        exact T_zreturn (pc := 917) h (by rw [hc1]; exact Nat.le_of_ble_eq_true rfl) (by rw [hc2]; exact Nat.le_of_ble_eq_true rfl) dL_law_917
    · dsimp only
      refine T_aload_n (pc := 918) h dL_law_918 rfl 1 rfl ?_
      refine T_aload_n (pc := 919) h dL_law_919 rfl 0 rfl ?_
      refine T_iload_n (pc := 920) h dL_law_920 rfl 3 rfl ?_
      refine T_iconst (pc := 921) h dL_law_921 ki_1 ?_
      refine T_iadd (pc := 922) h dL_law_922 ?_
      refine T_sld (pc := 923) h hX dL_law_923 ?_
      refine T_aload_n (pc := 924) h dL_law_924 rfl 0 rfl ?_
      refine T_iload_n (pc := 925) h dL_law_925 rfl 3 rfl ?_
      refine T_iconst (pc := 926) h dL_law_926 ki_2 ?_
      refine T_iadd (pc := 927) h dL_law_927 ?_
      refine T_sld (pc := 928) h hX dL_law_928 ?_
      refine T_callVl (pc := 929) h (M_X8_get (kl K) hs 0 (xs ((s.1) + (1 : Int32)).toNatClampNeg) (xs ((s.1) + (2 : Int32)).toNatClampNeg) (s.2) kd0) mv_X8_get hs kd0 ml_L_138 rfl ⟨Nat.le_of_ble_eq_true rfl, Nat.le_of_ble_eq_true rfl⟩ ⟨Nat.le_of_ble_eq_true rfl, Nat.le_of_ble_eq_true rfl⟩ (Nat.le_of_ble_eq_true rfl) dL_law_929 rfl (fun r122 s121 => ?_)
      refine T_aload_n (pc := 932) h dL_law_932 rfl 2 rfl ?_
      refine T_aload_n (pc := 933) h dL_law_933 rfl 0 rfl ?_
      refine T_iload_n (pc := 934) h dL_law_934 rfl 3 rfl ?_
      refine T_iconst (pc := 935) h dL_law_935 ki_1 ?_
      refine T_iadd (pc := 936) h dL_law_936 ?_
      refine T_sld (pc := 937) h hX dL_law_937 ?_
      refine T_aload_n (pc := 938) h dL_law_938 rfl 0 rfl ?_
      refine T_iload_n (pc := 939) h dL_law_939 rfl 3 rfl ?_
      refine T_iconst (pc := 940) h dL_law_940 ki_2 ?_
      refine T_iadd (pc := 941) h dL_law_941 ?_
      refine T_sld (pc := 942) h hX dL_law_942 ?_
      refine T_callVl (pc := 943) h (M_X9_get (kl K) hs 55 (xs ((s.1) + (1 : Int32)).toNatClampNeg) (xs ((s.1) + (2 : Int32)).toNatClampNeg) s121 kd55) mv_X9_get hs kd55 ml_L_142 rfl ⟨Nat.le_of_ble_eq_true rfl, Nat.le_of_ble_eq_true rfl⟩ ⟨Nat.le_of_ble_eq_true rfl, Nat.le_of_ble_eq_true rfl⟩ (Nat.le_of_ble_eq_true rfl) dL_law_943 rfl (fun r124 s123 => ?_)
      refine T_lcmp (pc := 946) h dL_law_946 ?_
      refine T_if_eq (pc := 947) (tgt := 1075) h dL_law_947 (by decide) ?_ ?_
      · refine T_sub [0, 1, 2, 3] rfl ?_
        exact t_L_law_L1075 h hs hc1 hc2 hX rec18 hr18 (s.1) s123
      · refine T_iconst (pc := 950) h dL_law_950 ki_0 ?_
        exact T_zreturn (pc := 951) h (by rw [hc1]; exact Nat.le_of_ble_eq_true rfl) (by rw [hc2]; exact Nat.le_of_ble_eq_true rfl) dL_law_951
    · dsimp only
      refine T_aload_n (pc := 952) h dL_law_952 rfl 1 rfl ?_
      refine T_aload_n (pc := 953) h dL_law_953 rfl 0 rfl ?_
      refine T_iload_n (pc := 954) h dL_law_954 rfl 3 rfl ?_
      refine T_iconst (pc := 955) h dL_law_955 ki_1 ?_
      refine T_iadd (pc := 956) h dL_law_956 ?_
      refine T_sld (pc := 957) h hX dL_law_957 ?_
      refine T_aload_n (pc := 958) h dL_law_958 rfl 0 rfl ?_
      refine T_iload_n (pc := 959) h dL_law_959 rfl 3 rfl ?_
      refine T_iconst (pc := 960) h dL_law_960 ki_2 ?_
      refine T_iadd (pc := 961) h dL_law_961 ?_
      refine T_sld (pc := 962) h hX dL_law_962 ?_
      refine T_aload_n (pc := 963) h dL_law_963 rfl 0 rfl ?_
      refine T_iload_n (pc := 964) h dL_law_964 rfl 3 rfl ?_
      refine T_iconst (pc := 965) h dL_law_965 ki_3 ?_
      refine T_iadd (pc := 966) h dL_law_966 ?_
      refine T_sld (pc := 967) h hX dL_law_967 ?_
      refine T_aload_n (pc := 968) h dL_law_968 rfl 0 rfl ?_
      refine T_iload_n (pc := 969) h dL_law_969 rfl 3 rfl ?_
      refine T_iconst (pc := 970) h dL_law_970 ki_4 ?_
      refine T_iadd (pc := 971) h dL_law_971 ?_
      refine T_sld (pc := 972) h hX dL_law_972 ?_
      refine T_aload_n (pc := 973) h dL_law_973 rfl 0 rfl ?_
      refine T_iload_n (pc := 974) h dL_law_974 rfl 3 rfl ?_
      refine T_iconst (pc := 975) h dL_law_975 ki_5 ?_
      refine T_iadd (pc := 976) h dL_law_976 ?_
      refine T_sld (pc := 977) h hX dL_law_977 ?_
      refine T_callVi (pc := 978) h (M_X8_copy (kl K) hs 0 (xs ((s.1) + (1 : Int32)).toNatClampNeg) (xs ((s.1) + (2 : Int32)).toNatClampNeg) (xs ((s.1) + (3 : Int32)).toNatClampNeg) (xs ((s.1) + (4 : Int32)).toNatClampNeg) (xs ((s.1) + (5 : Int32)).toNatClampNeg) (s.2) kd0) mv_X8_copy hs kd0 ml_L_143 rfl ⟨Nat.le_of_ble_eq_true rfl, Nat.le_of_ble_eq_true rfl⟩ ⟨Nat.le_of_ble_eq_true rfl, Nat.le_of_ble_eq_true rfl⟩ (Nat.le_of_ble_eq_true rfl) dL_law_978 rfl (fun r126 s125 => ?_)
      refine T_aload_n (pc := 981) h dL_law_981 rfl 2 rfl ?_
      refine T_aload_n (pc := 982) h dL_law_982 rfl 0 rfl ?_
      refine T_iload_n (pc := 983) h dL_law_983 rfl 3 rfl ?_
      refine T_iconst (pc := 984) h dL_law_984 ki_1 ?_
      refine T_iadd (pc := 985) h dL_law_985 ?_
      refine T_sld (pc := 986) h hX dL_law_986 ?_
      refine T_aload_n (pc := 987) h dL_law_987 rfl 0 rfl ?_
      refine T_iload_n (pc := 988) h dL_law_988 rfl 3 rfl ?_
      refine T_iconst (pc := 989) h dL_law_989 ki_2 ?_
      refine T_iadd (pc := 990) h dL_law_990 ?_
      refine T_sld (pc := 991) h hX dL_law_991 ?_
      refine T_aload_n (pc := 992) h dL_law_992 rfl 0 rfl ?_
      refine T_iload_n (pc := 993) h dL_law_993 rfl 3 rfl ?_
      refine T_iconst (pc := 994) h dL_law_994 ki_3 ?_
      refine T_iadd (pc := 995) h dL_law_995 ?_
      refine T_sld (pc := 996) h hX dL_law_996 ?_
      refine T_aload_n (pc := 997) h dL_law_997 rfl 0 rfl ?_
      refine T_iload_n (pc := 998) h dL_law_998 rfl 3 rfl ?_
      refine T_iconst (pc := 999) h dL_law_999 ki_4 ?_
      refine T_iadd (pc := 1000) h dL_law_1000 ?_
      refine T_sld (pc := 1001) h hX dL_law_1001 ?_
      refine T_aload_n (pc := 1002) h dL_law_1002 rfl 0 rfl ?_
      refine T_iload_n (pc := 1003) h dL_law_1003 rfl 3 rfl ?_
      refine T_iconst (pc := 1004) h dL_law_1004 ki_5 ?_
      refine T_iadd (pc := 1005) h dL_law_1005 ?_
      refine T_sld (pc := 1006) h hX dL_law_1006 ?_
      refine T_callVi (pc := 1007) h (M_X9_copy (kl K) hs 55 (xs ((s.1) + (1 : Int32)).toNatClampNeg) (xs ((s.1) + (2 : Int32)).toNatClampNeg) (xs ((s.1) + (3 : Int32)).toNatClampNeg) (xs ((s.1) + (4 : Int32)).toNatClampNeg) (xs ((s.1) + (5 : Int32)).toNatClampNeg) s125 kd55) mv_X9_copy hs kd55 ml_L_147 rfl ⟨Nat.le_of_ble_eq_true rfl, Nat.le_of_ble_eq_true rfl⟩ ⟨Nat.le_of_ble_eq_true rfl, Nat.le_of_ble_eq_true rfl⟩ (Nat.le_of_ble_eq_true rfl) dL_law_1007 rfl (fun r128 s127 => ?_)
      refine T_icmp_eq (pc := 1010) (tgt := 1075) h dL_law_1010 (by decide) ?_ ?_
      · refine T_sub [0, 1, 2, 3] rfl ?_
        exact t_L_law_L1075 h hs hc1 hc2 hX rec18 hr18 (s.1) s127
      · refine T_iconst (pc := 1013) h dL_law_1013 ki_0 ?_
        exact T_zreturn (pc := 1014) h (by rw [hc1]; exact Nat.le_of_ble_eq_true rfl) (by rw [hc2]; exact Nat.le_of_ble_eq_true rfl) dL_law_1014
    · dsimp only
      refine T_aload_n (pc := 1015) h dL_law_1015 rfl 1 rfl ?_
      refine T_aload_n (pc := 1016) h dL_law_1016 rfl 0 rfl ?_
      refine T_iload_n (pc := 1017) h dL_law_1017 rfl 3 rfl ?_
      refine T_iconst (pc := 1018) h dL_law_1018 ki_1 ?_
      refine T_iadd (pc := 1019) h dL_law_1019 ?_
      refine T_sld (pc := 1020) h hX dL_law_1020 ?_
      refine T_callVi (pc := 1021) h (M_X8_write (kl K) hs 0 (xs ((s.1) + (1 : Int32)).toNatClampNeg) (s.2) kd0) mv_X8_write hs kd0 ml_L_148 rfl ⟨Nat.le_of_ble_eq_true rfl, Nat.le_of_ble_eq_true rfl⟩ ⟨Nat.le_of_ble_eq_true rfl, Nat.le_of_ble_eq_true rfl⟩ (Nat.le_of_ble_eq_true rfl) dL_law_1021 rfl (fun r130 s129 => ?_)
      refine T_aload_n (pc := 1024) h dL_law_1024 rfl 2 rfl ?_
      refine T_aload_n (pc := 1025) h dL_law_1025 rfl 0 rfl ?_
      refine T_iload_n (pc := 1026) h dL_law_1026 rfl 3 rfl ?_
      refine T_iconst (pc := 1027) h dL_law_1027 ki_1 ?_
      refine T_iadd (pc := 1028) h dL_law_1028 ?_
      refine T_sld (pc := 1029) h hX dL_law_1029 ?_
      refine T_callVi (pc := 1030) h (M_X9_write (kl K) hs 55 (xs ((s.1) + (1 : Int32)).toNatClampNeg) s129 kd55) mv_X9_write hs kd55 ml_L_151 rfl ⟨Nat.le_of_ble_eq_true rfl, Nat.le_of_ble_eq_true rfl⟩ ⟨Nat.le_of_ble_eq_true rfl, Nat.le_of_ble_eq_true rfl⟩ (Nat.le_of_ble_eq_true rfl) dL_law_1030 rfl (fun r132 s131 => ?_)
      refine T_icmp_eq (pc := 1033) (tgt := 1075) h dL_law_1033 (by decide) ?_ ?_
      · refine T_sub [0, 1, 2, 3] rfl ?_
        exact t_L_law_L1075 h hs hc1 hc2 hX rec18 hr18 (s.1) s131
      · refine T_iconst (pc := 1036) h dL_law_1036 ki_0 ?_
        exact T_zreturn (pc := 1037) h (by rw [hc1]; exact Nat.le_of_ble_eq_true rfl) (by rw [hc2]; exact Nat.le_of_ble_eq_true rfl) dL_law_1037
    · dsimp only
      refine T_aload_n (pc := 1038) h dL_law_1038 rfl 1 rfl ?_
      refine T_aload_n (pc := 1039) h dL_law_1039 rfl 0 rfl ?_
      refine T_iload_n (pc := 1040) h dL_law_1040 rfl 3 rfl ?_
      refine T_iconst (pc := 1041) h dL_law_1041 ki_1 ?_
      refine T_iadd (pc := 1042) h dL_law_1042 ?_
      refine T_sld (pc := 1043) h hX dL_law_1043 ?_
      refine T_callVi (pc := 1044) h (M_X8_count (kl K) hs 0 (xs ((s.1) + (1 : Int32)).toNatClampNeg) (s.2) kd0) mv_X8_count hs kd0 ml_L_152 rfl ⟨Nat.le_of_ble_eq_true rfl, Nat.le_of_ble_eq_true rfl⟩ ⟨Nat.le_of_ble_eq_true rfl, Nat.le_of_ble_eq_true rfl⟩ (Nat.le_of_ble_eq_true rfl) dL_law_1044 rfl (fun r134 s133 => ?_)
      refine T_aload_n (pc := 1047) h dL_law_1047 rfl 2 rfl ?_
      refine T_aload_n (pc := 1048) h dL_law_1048 rfl 0 rfl ?_
      refine T_iload_n (pc := 1049) h dL_law_1049 rfl 3 rfl ?_
      refine T_iconst (pc := 1050) h dL_law_1050 ki_1 ?_
      refine T_iadd (pc := 1051) h dL_law_1051 ?_
      refine T_sld (pc := 1052) h hX dL_law_1052 ?_
      refine T_callVi (pc := 1053) h (M_X9_count (kl K) hs 55 (xs ((s.1) + (1 : Int32)).toNatClampNeg) s133 kd55) mv_X9_count hs kd55 ml_L_155 rfl ⟨Nat.le_of_ble_eq_true rfl, Nat.le_of_ble_eq_true rfl⟩ ⟨Nat.le_of_ble_eq_true rfl, Nat.le_of_ble_eq_true rfl⟩ (Nat.le_of_ble_eq_true rfl) dL_law_1053 rfl (fun r136 s135 => ?_)
      refine T_icmp_eq (pc := 1056) (tgt := 1075) h dL_law_1056 (by decide) ?_ ?_
      · refine T_sub [0, 1, 2, 3] rfl ?_
        exact t_L_law_L1075 h hs hc1 hc2 hX rec18 hr18 (s.1) s135
      · refine T_iconst (pc := 1059) h dL_law_1059 ki_0 ?_
        exact T_zreturn (pc := 1060) h (by rw [hc1]; exact Nat.le_of_ble_eq_true rfl) (by rw [hc2]; exact Nat.le_of_ble_eq_true rfl) dL_law_1060
    · dsimp only
      refine T_aload_n (pc := 1061) h dL_law_1061 rfl 1 rfl ?_
      refine T_callVl (pc := 1062) h (M_X8_digest (kl K) hs 0 (s.2) kd0) mv_X8_digest hs kd0 ml_L_156 rfl ⟨Nat.le_of_ble_eq_true rfl, Nat.le_of_ble_eq_true rfl⟩ ⟨Nat.le_of_ble_eq_true rfl, Nat.le_of_ble_eq_true rfl⟩ (Nat.le_of_ble_eq_true rfl) dL_law_1062 rfl (fun r138 s137 => ?_)
      refine T_aload_n (pc := 1065) h dL_law_1065 rfl 2 rfl ?_
      refine T_callVl (pc := 1066) h (M_X9_digest (kl K) hs 55 s137 kd55) mv_X9_digest hs kd55 ml_L_160 rfl ⟨Nat.le_of_ble_eq_true rfl, Nat.le_of_ble_eq_true rfl⟩ ⟨Nat.le_of_ble_eq_true rfl, Nat.le_of_ble_eq_true rfl⟩ (Nat.le_of_ble_eq_true rfl) dL_law_1066 rfl (fun r140 s139 => ?_)
      refine T_lcmp (pc := 1069) h dL_law_1069 ?_
      refine T_if_eq (pc := 1070) (tgt := 1075) h dL_law_1070 (by decide) ?_ ?_
      · refine T_sub [0, 1, 2, 3] rfl ?_
        exact t_L_law_L1075 h hs hc1 hc2 hX rec18 hr18 (s.1) s139
      · refine T_iconst (pc := 1073) h dL_law_1073 ki_0 ?_
        exact T_zreturn (pc := 1074) h (by rw [hc1]; exact Nat.le_of_ble_eq_true rfl) (by rw [hc2]; exact Nat.le_of_ble_eq_true rfl) dL_law_1074
