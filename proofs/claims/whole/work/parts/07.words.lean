/-! the constants; words of the tables -/
theorem SHn : ∀ q ∈ SH, q.1 < 10 → q.2 = nfc q.1 := by decide
theorem kd_n {p c : Nat} (h : kd p c) (hc : c < 10) : SH[p]? = some (c, nfc c) := by
  obtain ⟨n, hn⟩ := h
  have e : n = nfc c := SHn _ (List.mem_of_getElem? hn) hc
  rw [hn, e]
theorem T_gR {ρ : Type} {K : Cx} {QQ : ρ → Sg → Array Value → State → Outcome → State → Prop} {cc : ByteArray} {own : String} {nL : Nat} {rm : Room} {ret : Option FieldType} {pc : Nat} {lv : List (Nat × Value)} {st : List Value} {c1 s1 : Nat} {σ : Sg} {o : Option (ρ × Sg)} (h : Ok K cc own nL rm ret) (hs : kiv K = St) {p c k c' idx : Nat} (hk : kd p c) (hf : FL own idx c k) (hr : isR c k = true) (hfk : fk c k = c') (hd : decode cc pc = .ok (.getfield idx, 3)) (kk : kd (gR σ p k) c' → T K QQ (pc + 3) lv (.ref (gR σ p k) :: st) c1 s1 σ o) : T K QQ pc lv (.ref p :: st) c1 s1 σ o :=
  T_getR h hs hk hf hr hfk ⟨nfc c, kd_n hk hf.1, hf.2.1⟩ hd kk
theorem ac_nat : Cond.native arraycopyName ∈ gw_tbl := mw (i := 643) (by decide +kernel) (by decide +kernel)
theorem ac_sta : Cond.static arraycopyName ∈ gw_tbl := mw (i := 642) (by decide +kernel) (by decide +kernel)
theorem ac_ini : Cond.initialized "java/lang/System" ∈ gw_tbl := mw (i := 14) (by decide +kernel) (by decide +kernel)
theorem mm_i : Cond.initialized "java/lang/Math" ∈ gw_tbl := mw (i := 11) (by decide +kernel) (by decide +kernel)
theorem mm_max_s : Cond.static Lib.Math.max.name ∈ gw_tbl := mw (i := 509) (by decide +kernel) (by decide +kernel)
theorem mm_max_c : Cond.code Lib.Math.max.name Lib.Math.max.code 2 (some .int) ∈ gw_tbl := mw (i := 510) (by decide +kernel) (by decide +kernel)
theorem mm_min_s : Cond.static Lib.Math.min.name ∈ gw_tbl := mw (i := 512) (by decide +kernel) (by decide +kernel)
theorem mm_min_c : Cond.code Lib.Math.min.name Lib.Math.min.code 2 (some .int) ∈ gw_tbl := mw (i := 513) (by decide +kernel) (by decide +kernel)
theorem mm_abs_s : Cond.static Lib.Math.abs.name ∈ gw_tbl := mw (i := 536) (by decide +kernel) (by decide +kernel)
theorem mm_abs_c : Cond.code Lib.Math.abs.name Lib.Math.abs.code 1 (some .int) ∈ gw_tbl := mw (i := 537) (by decide +kernel) (by decide +kernel)
theorem mm_minL_s : Cond.static Lib.MathLoose.min_long.x ∈ gw_tbl := mw (i := 547) (by decide +kernel) (by decide +kernel)
theorem mm_minL_c : Cond.code Lib.MathLoose.min_long.x Lib.MathLoose.min_long.code 4 (some .long) ∈ gw_tbl := mw (i := 548) (by decide +kernel) (by decide +kernel)
theorem kb_m12 : (Int8.ofInt (-12)).toInt32 = (-12 : Int32) := by decide +kernel
theorem kb_m10 : (Int8.ofInt (-10)).toInt32 = (-10 : Int32) := by decide +kernel
theorem kb_m4 : (Int8.ofInt (-4)).toInt32 = (-4 : Int32) := by decide +kernel
theorem kb_m3 : (Int8.ofInt (-3)).toInt32 = (-3 : Int32) := by decide +kernel
theorem kb_m2 : (Int8.ofInt (-2)).toInt32 = (-2 : Int32) := by decide +kernel
theorem kb_6 : (Int8.ofInt (6)).toInt32 = (6 : Int32) := by decide +kernel
theorem kb_7 : (Int8.ofInt (7)).toInt32 = (7 : Int32) := by decide +kernel
theorem kb_8 : (Int8.ofInt (8)).toInt32 = (8 : Int32) := by decide +kernel
theorem kb_9 : (Int8.ofInt (9)).toInt32 = (9 : Int32) := by decide +kernel
theorem kb_10 : (Int8.ofInt (10)).toInt32 = (10 : Int32) := by decide +kernel
theorem kb_12 : (Int8.ofInt (12)).toInt32 = (12 : Int32) := by decide +kernel
theorem kb_13 : (Int8.ofInt (13)).toInt32 = (13 : Int32) := by decide +kernel
theorem kb_14 : (Int8.ofInt (14)).toInt32 = (14 : Int32) := by decide +kernel
theorem kb_16 : (Int8.ofInt (16)).toInt32 = (16 : Int32) := by decide +kernel
theorem kb_24 : (Int8.ofInt (24)).toInt32 = (24 : Int32) := by decide +kernel
theorem kb_25 : (Int8.ofInt (25)).toInt32 = (25 : Int32) := by decide +kernel
theorem kb_40 : (Int8.ofInt (40)).toInt32 = (40 : Int32) := by decide +kernel
theorem kb_42 : (Int8.ofInt (42)).toInt32 = (42 : Int32) := by decide +kernel
theorem kb_45 : (Int8.ofInt (45)).toInt32 = (45 : Int32) := by decide +kernel
theorem kb_48 : (Int8.ofInt (48)).toInt32 = (48 : Int32) := by decide +kernel
theorem kb_57 : (Int8.ofInt (57)).toInt32 = (57 : Int32) := by decide +kernel
theorem kb_58 : (Int8.ofInt (58)).toInt32 = (58 : Int32) := by decide +kernel
theorem kb_59 : (Int8.ofInt (59)).toInt32 = (59 : Int32) := by decide +kernel
theorem kb_60 : (Int8.ofInt (60)).toInt32 = (60 : Int32) := by decide +kernel
theorem kb_63 : (Int8.ofInt (63)).toInt32 = (63 : Int32) := by decide +kernel
theorem kb_70 : (Int8.ofInt (70)).toInt32 = (70 : Int32) := by decide +kernel
theorem kb_80 : (Int8.ofInt (80)).toInt32 = (80 : Int32) := by decide +kernel
theorem kb_97 : (Int8.ofInt (97)).toInt32 = (97 : Int32) := by decide +kernel
theorem kb_99 : (Int8.ofInt (99)).toInt32 = (99 : Int32) := by decide +kernel
theorem kb_100 : (Int8.ofInt (100)).toInt32 = (100 : Int32) := by decide +kernel
theorem kb_120 : (Int8.ofInt (120)).toInt32 = (120 : Int32) := by decide +kernel
theorem ki_m1 : Int32.ofInt (-1) = (-1 : Int32) := by decide +kernel
theorem ki_0 : Int32.ofInt (0) = (0 : Int32) := by decide +kernel
theorem ki_1 : Int32.ofInt (1) = (1 : Int32) := by decide +kernel
theorem ki_2 : Int32.ofInt (2) = (2 : Int32) := by decide +kernel
theorem ki_3 : Int32.ofInt (3) = (3 : Int32) := by decide +kernel
theorem ki_4 : Int32.ofInt (4) = (4 : Int32) := by decide +kernel
theorem ki_5 : Int32.ofInt (5) = (5 : Int32) := by decide +kernel
theorem kl_0 : Int64.ofNat 0 = (0 : Int64) := by decide +kernel
theorem kl_1 : Int64.ofNat 1 = (1 : Int64) := by decide +kernel
theorem ks_128 : (Int16.ofInt (128)).toInt32 = (128 : Int32) := by decide +kernel
theorem ks_199 : (Int16.ofInt (199)).toInt32 = (199 : Int32) := by decide +kernel
theorem ks_255 : (Int16.ofInt (255)).toInt32 = (255 : Int32) := by decide +kernel
theorem fl_X5_36 : FL RX5 36 5 8 := ⟨by decide, by decide, mw (i := 186) (by decide +kernel) (by decide +kernel)⟩
theorem fk_5_8 : fk 5 8 = 12 := by decide +kernel
theorem fl_X8_37 : FL RX8 37 8 3 := ⟨by decide, by decide, mw (i := 291) (by decide +kernel) (by decide +kernel)⟩
theorem fk_8_3 : fk 8 3 = 5 := by decide +kernel
theorem ml_X8_110 : Cond.methodLink RX8 110 yX5_forget ∈ gw_tbl := mw (i := 336) (by decide +kernel) (by decide +kernel)
theorem mv_X5_forget : MV yX5_forget 5 cX5_forget 2 none 0 := ⟨by decide, ⟨rfl, by decide, by decide, by decide +kernel⟩, mw (i := 337) (by decide +kernel) (by decide +kernel), mw (i := 338) (by decide +kernel) (by decide +kernel), mw (i := 5) (by decide +kernel) (by decide +kernel), mw (i := 339) (by decide +kernel) (by decide +kernel)⟩
theorem fl_X8_73 : FL RX8 73 8 9 := ⟨by decide, by decide, mw (i := 297) (by decide +kernel) (by decide +kernel)⟩
theorem fk_8_9 : fk 8 9 = 12 := by decide +kernel
theorem fl_X8_81 : FL RX8 81 8 11 := ⟨by decide, by decide, mw (i := 299) (by decide +kernel) (by decide +kernel)⟩
theorem fl_X8_10 : FL RX8 10 8 0 := ⟨by decide, by decide, mw (i := 288) (by decide +kernel) (by decide +kernel)⟩
theorem fk_8_0 : fk 8 0 = 1 := by decide +kernel
theorem fl_X8_90 : FL RX8 90 1 0 := ⟨by decide, by decide, mw (i := 30) (by decide +kernel) (by decide +kernel)⟩
theorem ml_X8_93 : Cond.methodLink RX8 93 yX8_startAnew ∈ gw_tbl := mw (i := 332) (by decide +kernel) (by decide +kernel)
theorem mv_X8_startAnew : MV yX8_startAnew 8 cX8_startAnew 2 none 0 := ⟨by decide, ⟨rfl, by decide, by decide, by decide +kernel⟩, mw (i := 334) (by decide +kernel) (by decide +kernel), ms (i := 0) (by decide +kernel) (by decide +kernel), mw (i := 1) (by decide +kernel) (by decide +kernel), mw (i := 335) (by decide +kernel) (by decide +kernel)⟩
theorem fl_X1_9 : FL RX1 9 1 0 := ⟨by decide, by decide, mw (i := 29) (by decide +kernel) (by decide +kernel)⟩
theorem ml_X8_96 : Cond.methodLink RX8 96 yX1_has ∈ gw_tbl := mw (i := 344) (by decide +kernel) (by decide +kernel)
theorem fl_X8_100 : FL RX8 100 1 1 := ⟨by decide, by decide, mw (i := 35) (by decide +kernel) (by decide +kernel)⟩
theorem fk_1_1 : fk 1 1 = 10 := by decide +kernel
theorem mv_X1_has : MV yX1_has 1 cX1_has 2 (some .boolean) 1 := ⟨by decide, ⟨rfl, by decide, by decide, by decide +kernel⟩, mw (i := 345) (by decide +kernel) (by decide +kernel), mw (i := 346) (by decide +kernel) (by decide +kernel), mw (i := 2) (by decide +kernel) (by decide +kernel), mw (i := 347) (by decide +kernel) (by decide +kernel)⟩
theorem ml_X8_103 : Cond.methodLink RX8 103 yX1_mayBeSet ∈ gw_tbl := mw (i := 352) (by decide +kernel) (by decide +kernel)
theorem fl_X8_107 : FL RX8 107 1 2 := ⟨by decide, by decide, mw (i := 38) (by decide +kernel) (by decide +kernel)⟩
theorem fk_1_2 : fk 1 2 = 10 := by decide +kernel
theorem mst_X1_mayBeSet : MS yX1_mayBeSet cX1_mayBeSet 2 (some .boolean) 2 := ⟨⟨by decide, by decide, by decide +kernel⟩, mw (i := 353) (by decide +kernel) (by decide +kernel), mw (i := 2) (by decide +kernel) (by decide +kernel), mw (i := 354) (by decide +kernel) (by decide +kernel)⟩
theorem kc_X2_35 : Cond.constantLong RX2 35 (199 : Int64) ∈ gw_tbl := mw (i := 366) (by decide +kernel) (by decide +kernel)
theorem kc_X2_37 : Cond.constantLong RX2 37 (70 : Int64) ∈ gw_tbl := mw (i := 367) (by decide +kernel) (by decide +kernel)
theorem kc_X2_39 : Cond.constantLong RX2 39 (40 : Int64) ∈ gw_tbl := mw (i := 368) (by decide +kernel) (by decide +kernel)
theorem fl_X2_28 : FL RX2 28 2 6 := ⟨by decide, by decide, mw (i := 72) (by decide +kernel) (by decide +kernel)⟩
theorem fl_X2_9 : FL RX2 9 2 0 := ⟨by decide, by decide, mw (i := 54) (by decide +kernel) (by decide +kernel)⟩
theorem fk_2_0 : fk 2 0 = 10 := by decide +kernel
theorem fl_X2_13 : FL RX2 13 2 1 := ⟨by decide, by decide, mw (i := 56) (by decide +kernel) (by decide +kernel)⟩
theorem fk_2_1 : fk 2 1 = 10 := by decide +kernel
theorem fl_X2_16 : FL RX2 16 2 2 := ⟨by decide, by decide, mw (i := 60) (by decide +kernel) (by decide +kernel)⟩
theorem fk_2_2 : fk 2 2 = 10 := by decide +kernel
theorem fl_X2_22 : FL RX2 22 2 4 := ⟨by decide, by decide, mw (i := 64) (by decide +kernel) (by decide +kernel)⟩
theorem fk_2_4 : fk 2 4 = 10 := by decide +kernel
theorem ml_X2_52 : Cond.methodLink RX2 52 yX2_timeOfChord ∈ gw_tbl := mw (i := 389) (by decide +kernel) (by decide +kernel)
theorem mv_X2_timeOfChord : MV yX2_timeOfChord 2 cX2_timeOfChord 2 (some .int) 1 := ⟨by decide, ⟨rfl, by decide, by decide, by decide +kernel⟩, mw (i := 390) (by decide +kernel) (by decide +kernel), mw (i := 391) (by decide +kernel) (by decide +kernel), mw (i := 3) (by decide +kernel) (by decide +kernel), mw (i := 392) (by decide +kernel) (by decide +kernel)⟩
theorem fl_X2_19 : FL RX2 19 2 3 := ⟨by decide, by decide, mw (i := 62) (by decide +kernel) (by decide +kernel)⟩
theorem fk_2_3 : fk 2 3 = 10 := by decide +kernel
theorem fl_X2_32 : FL RX2 32 2 7 := ⟨by decide, by decide, mw (i := 74) (by decide +kernel) (by decide +kernel)⟩
theorem fl_X2_25 : FL RX2 25 2 5 := ⟨by decide, by decide, mw (i := 68) (by decide +kernel) (by decide +kernel)⟩
theorem fk_2_5 : fk 2 5 = 10 := by decide +kernel
theorem ml_X2_48 : Cond.methodLink RX2 48 yX2_soundingAt ∈ gw_tbl := mw (i := 385) (by decide +kernel) (by decide +kernel)
theorem mv_X2_soundingAt : MV yX2_soundingAt 2 cX2_soundingAt 4 (some .int) 1 := ⟨by decide, ⟨rfl, by decide, by decide, by decide +kernel⟩, mw (i := 387) (by decide +kernel) (by decide +kernel), ms (i := 3) (by decide +kernel) (by decide +kernel), mw (i := 3) (by decide +kernel) (by decide +kernel), mw (i := 388) (by decide +kernel) (by decide +kernel)⟩
theorem ml_X2_41 : Cond.methodLink RX2 41 yX2_move ∈ gw_tbl := mw (i := 377) (by decide +kernel) (by decide +kernel)
theorem mv_X2_move : MV yX2_move 2 cX2_move 3 none 2 := ⟨by decide, ⟨rfl, by decide, by decide, by decide +kernel⟩, mw (i := 379) (by decide +kernel) (by decide +kernel), ms (i := 1) (by decide +kernel) (by decide +kernel), mw (i := 3) (by decide +kernel) (by decide +kernel), mw (i := 380) (by decide +kernel) (by decide +kernel)⟩
theorem ml_X2_45 : Cond.methodLink RX2 45 yX2_findChords ∈ gw_tbl := mw (i := 381) (by decide +kernel) (by decide +kernel)
theorem mv_X2_findChords : MV yX2_findChords 2 cX2_findChords 2 none 0 := ⟨by decide, ⟨rfl, by decide, by decide, by decide +kernel⟩, mw (i := 383) (by decide +kernel) (by decide +kernel), ms (i := 2) (by decide +kernel) (by decide +kernel), mw (i := 3) (by decide +kernel) (by decide +kernel), mw (i := 384) (by decide +kernel) (by decide +kernel)⟩
theorem ml_X8_113 : Cond.methodLink RX8 113 yX2_mayBe ∈ gw_tbl := mw (i := 363) (by decide +kernel) (by decide +kernel)
theorem fl_X8_19 : FL RX8 19 8 1 := ⟨by decide, by decide, mw (i := 289) (by decide +kernel) (by decide +kernel)⟩
theorem fk_8_1 : fk 8 1 = 2 := by decide +kernel
theorem ml_X8_117 : Cond.methodLink RX8 117 yX2_hasRoomAt ∈ gw_tbl := mw (i := 369) (by decide +kernel) (by decide +kernel)
theorem ml_X8_120 : Cond.methodLink RX8 120 yX2_add ∈ gw_tbl := mw (i := 373) (by decide +kernel) (by decide +kernel)
theorem mv_X2_add : MV yX2_add 2 cX2_add 5 (some .int) 3 := ⟨by decide, ⟨rfl, by decide, by decide, by decide +kernel⟩, mw (i := 374) (by decide +kernel) (by decide +kernel), mw (i := 375) (by decide +kernel) (by decide +kernel), mw (i := 3) (by decide +kernel) (by decide +kernel), mw (i := 376) (by decide +kernel) (by decide +kernel)⟩
theorem mv_X2_hasRoomAt : MV yX2_hasRoomAt 2 cX2_hasRoomAt 4 (some .boolean) 1 := ⟨by decide, ⟨rfl, by decide, by decide, by decide +kernel⟩, mw (i := 370) (by decide +kernel) (by decide +kernel), mw (i := 371) (by decide +kernel) (by decide +kernel), mw (i := 3) (by decide +kernel) (by decide +kernel), mw (i := 372) (by decide +kernel) (by decide +kernel)⟩
theorem mst_X2_mayBe : MS yX2_mayBe cX2_mayBe 6 (some .boolean) 3 := ⟨⟨by decide, by decide, by decide +kernel⟩, mw (i := 364) (by decide +kernel) (by decide +kernel), mw (i := 3) (by decide +kernel) (by decide +kernel), mw (i := 365) (by decide +kernel) (by decide +kernel)⟩
theorem ml_X8_124 : Cond.methodLink RX8 124 yX2_has ∈ gw_tbl := mw (i := 397) (by decide +kernel) (by decide +kernel)
theorem ml_X8_125 : Cond.methodLink RX8 125 yX2_remove ∈ gw_tbl := mw (i := 401) (by decide +kernel) (by decide +kernel)
theorem fl_X8_128 : FL RX8 128 2 6 := ⟨by decide, by decide, mw (i := 73) (by decide +kernel) (by decide +kernel)⟩
theorem mv_X2_remove : MV yX2_remove 2 cX2_remove 3 none 1 := ⟨by decide, ⟨rfl, by decide, by decide, by decide +kernel⟩, mw (i := 402) (by decide +kernel) (by decide +kernel), mw (i := 403) (by decide +kernel) (by decide +kernel), mw (i := 3) (by decide +kernel) (by decide +kernel), mw (i := 404) (by decide +kernel) (by decide +kernel)⟩
theorem mv_X2_has : MV yX2_has 2 cX2_has 2 (some .boolean) 1 := ⟨by decide, ⟨rfl, by decide, by decide, by decide +kernel⟩, mw (i := 398) (by decide +kernel) (by decide +kernel), mw (i := 399) (by decide +kernel) (by decide +kernel), mw (i := 3) (by decide +kernel) (by decide +kernel), mw (i := 400) (by decide +kernel) (by decide +kernel)⟩
theorem ml_X8_129 : Cond.methodLink RX8 129 yX2_removeAll ∈ gw_tbl := mw (i := 409) (by decide +kernel) (by decide +kernel)
theorem mv_X2_removeAll : MV yX2_removeAll 2 cX2_removeAll 1 none 0 := ⟨by decide, ⟨rfl, by decide, by decide, by decide +kernel⟩, mw (i := 410) (by decide +kernel) (by decide +kernel), mw (i := 411) (by decide +kernel) (by decide +kernel), mw (i := 3) (by decide +kernel) (by decide +kernel), mw (i := 412) (by decide +kernel) (by decide +kernel)⟩
theorem fl_X8_85 : FL RX8 85 8 12 := ⟨by decide, by decide, mw (i := 300) (by decide +kernel) (by decide +kernel)⟩
theorem ml_X8_253 : Cond.methodLink RX8 253 yX8_isSheet ∈ gw_tbl := mw (i := 421) (by decide +kernel) (by decide +kernel)
theorem fl_X8_64 : FL RX8 64 8 7 := ⟨by decide, by decide, mw (i := 295) (by decide +kernel) (by decide +kernel)⟩
theorem fk_8_7 : fk 8 7 = 13 := by decide +kernel
theorem fl_X8_263 : FL RX8 263 6 0 := ⟨by decide, by decide, mw (i := 272) (by decide +kernel) (by decide +kernel)⟩
theorem ml_X8_229 : Cond.methodLink RX8 229 yX8_finding ∈ gw_tbl := mw (i := 424) (by decide +kernel) (by decide +kernel)
theorem mv_X8_finding : MV yX8_finding 8 cX8_finding 2 (some .int) 1 := ⟨by decide, ⟨rfl, by decide, by decide, by decide +kernel⟩, mw (i := 426) (by decide +kernel) (by decide +kernel), ms (i := 5) (by decide +kernel) (by decide +kernel), mw (i := 1) (by decide +kernel) (by decide +kernel), mw (i := 427) (by decide +kernel) (by decide +kernel)⟩
theorem mst_X8_isSheet : MS yX8_isSheet cX8_isSheet 1 (some .boolean) 1 := ⟨⟨by decide, by decide, by decide +kernel⟩, mw (i := 422) (by decide +kernel) (by decide +kernel), mw (i := 1) (by decide +kernel) (by decide +kernel), mw (i := 423) (by decide +kernel) (by decide +kernel)⟩
theorem fl_X6_17 : FL RX6 17 6 2 := ⟨by decide, by decide, mw (i := 275) (by decide +kernel) (by decide +kernel)⟩
theorem ml_X8_283 : Cond.methodLink RX8 283 yX6_hasRow ∈ gw_tbl := mw (i := 432) (by decide +kernel) (by decide +kernel)
theorem fl_X8_277 : FL RX8 277 6 3 := ⟨by decide, by decide, mw (i := 278) (by decide +kernel) (by decide +kernel)⟩
theorem fk_6_3 : fk 6 3 = 11 := by decide +kernel
theorem mv_X6_hasRow : MV yX6_hasRow 6 cX6_hasRow 3 (some .boolean) 2 := ⟨by decide, ⟨rfl, by decide, by decide, by decide +kernel⟩, mw (i := 433) (by decide +kernel) (by decide +kernel), mw (i := 434) (by decide +kernel) (by decide +kernel), mw (i := 9) (by decide +kernel) (by decide +kernel), mw (i := 435) (by decide +kernel) (by decide +kernel)⟩
theorem ml_X8_136 : Cond.methodLink RX8 136 yX8_addFromSheet ∈ gw_tbl := mw (i := 428) (by decide +kernel) (by decide +kernel)
theorem mv_X8_addFromSheet : MV yX8_addFromSheet 8 cX8_addFromSheet 9 (some .boolean) 2 := ⟨by decide, ⟨rfl, by decide, by decide, by decide +kernel⟩, mw (i := 430) (by decide +kernel) (by decide +kernel), ms (i := 6) (by decide +kernel) (by decide +kernel), mw (i := 1) (by decide +kernel) (by decide +kernel), mw (i := 431) (by decide +kernel) (by decide +kernel)⟩
theorem ml_X8_132 : Cond.methodLink RX8 132 yX8_refusalOfSheet ∈ gw_tbl := mw (i := 417) (by decide +kernel) (by decide +kernel)
theorem mv_X8_refusalOfSheet : MV yX8_refusalOfSheet 8 cX8_refusalOfSheet 2 (some .int) 1 := ⟨by decide, ⟨rfl, by decide, by decide, by decide +kernel⟩, mw (i := 419) (by decide +kernel) (by decide +kernel), ms (i := 4) (by decide +kernel) (by decide +kernel), mw (i := 1) (by decide +kernel) (by decide +kernel), mw (i := 420) (by decide +kernel) (by decide +kernel)⟩
theorem fl_X1_17 : FL RX1 17 1 2 := ⟨by decide, by decide, mw (i := 37) (by decide +kernel) (by decide +kernel)⟩
theorem fl_X8_143 : FL RX8 143 2 1 := ⟨by decide, by decide, mw (i := 58) (by decide +kernel) (by decide +kernel)⟩
theorem ml_X8_353 : Cond.methodLink RX8 353 yX1_hasFret ∈ gw_tbl := mw (i := 444) (by decide +kernel) (by decide +kernel)
theorem mv_X1_hasFret : MV yX1_hasFret 1 cX1_hasFret 2 (some .boolean) 1 := ⟨by decide, ⟨rfl, by decide, by decide, by decide +kernel⟩, mw (i := 445) (by decide +kernel) (by decide +kernel), mw (i := 446) (by decide +kernel) (by decide +kernel), mw (i := 2) (by decide +kernel) (by decide +kernel), mw (i := 447) (by decide +kernel) (by decide +kernel)⟩
theorem fl_X8_140 : FL RX8 140 2 0 := ⟨by decide, by decide, mw (i := 55) (by decide +kernel) (by decide +kernel)⟩
theorem fl_X8_146 : FL RX8 146 2 2 := ⟨by decide, by decide, mw (i := 61) (by decide +kernel) (by decide +kernel)⟩
theorem fl_X8_149 : FL RX8 149 2 3 := ⟨by decide, by decide, mw (i := 63) (by decide +kernel) (by decide +kernel)⟩
theorem ml_X8_152 : Cond.methodLink RX8 152 yX8_coursesFor ∈ gw_tbl := mw (i := 440) (by decide +kernel) (by decide +kernel)
theorem mv_X8_coursesFor : MV yX8_coursesFor 8 cX8_coursesFor 4 (some .int) 1 := ⟨by decide, ⟨rfl, by decide, by decide, by decide +kernel⟩, mw (i := 442) (by decide +kernel) (by decide +kernel), ms (i := 7) (by decide +kernel) (by decide +kernel), mw (i := 1) (by decide +kernel) (by decide +kernel), mw (i := 443) (by decide +kernel) (by decide +kernel)⟩
theorem fl_X8_77 : FL RX8 77 8 10 := ⟨by decide, by decide, mw (i := 298) (by decide +kernel) (by decide +kernel)⟩
theorem fk_8_10 : fk 8 10 = 10 := by decide +kernel
theorem ml_X8_155 : Cond.methodLink RX8 155 yX8_notesFor ∈ gw_tbl := mw (i := 452) (by decide +kernel) (by decide +kernel)
theorem mv_X8_notesFor : MV yX8_notesFor 8 cX8_notesFor 4 (some .int) 1 := ⟨by decide, ⟨rfl, by decide, by decide, by decide +kernel⟩, mw (i := 454) (by decide +kernel) (by decide +kernel), ms (i := 8) (by decide +kernel) (by decide +kernel), mw (i := 1) (by decide +kernel) (by decide +kernel), mw (i := 455) (by decide +kernel) (by decide +kernel)⟩
theorem ml_X8_158 : Cond.methodLink RX8 158 yX8_notesLaidOn ∈ gw_tbl := mw (i := 456) (by decide +kernel) (by decide +kernel)
theorem mv_X8_notesLaidOn : MV yX8_notesLaidOn 8 cX8_notesLaidOn 4 (some .int) 1 := ⟨by decide, ⟨rfl, by decide, by decide, by decide +kernel⟩, mw (i := 458) (by decide +kernel) (by decide +kernel), ms (i := 9) (by decide +kernel) (by decide +kernel), mw (i := 1) (by decide +kernel) (by decide +kernel), mw (i := 459) (by decide +kernel) (by decide +kernel)⟩
theorem fl_X7_23 : FL RX7 23 7 4 := ⟨by decide, by decide, mw (i := 164) (by decide +kernel) (by decide +kernel)⟩
theorem fl_X7_9 : FL RX7 9 7 0 := ⟨by decide, by decide, mw (i := 156) (by decide +kernel) (by decide +kernel)⟩
theorem fk_7_0 : fk 7 0 = 11 := by decide +kernel
theorem fl_X7_13 : FL RX7 13 7 1 := ⟨by decide, by decide, mw (i := 158) (by decide +kernel) (by decide +kernel)⟩
theorem fk_7_1 : fk 7 1 = 10 := by decide +kernel
theorem fl_X7_17 : FL RX7 17 7 2 := ⟨by decide, by decide, mw (i := 160) (by decide +kernel) (by decide +kernel)⟩
theorem fk_7_2 : fk 7 2 = 10 := by decide +kernel
theorem fl_X7_20 : FL RX7 20 7 3 := ⟨by decide, by decide, mw (i := 162) (by decide +kernel) (by decide +kernel)⟩
theorem fk_7_3 : fk 7 3 = 11 := by decide +kernel
theorem fl_X5_40 : FL RX5 40 5 0 := ⟨by decide, by decide, mw (i := 178) (by decide +kernel) (by decide +kernel)⟩
theorem fk_5_0 : fk 5 0 = 1 := by decide +kernel
theorem fl_X5_97 : FL RX5 97 1 1 := ⟨by decide, by decide, mw (i := 36) (by decide +kernel) (by decide +kernel)⟩
theorem ml_X5_100 : Cond.methodLink RX5 100 yX1_hasFret ∈ gw_tbl := mw (i := 480) (by decide +kernel) (by decide +kernel)
theorem fl_X5_23 : FL RX5 23 5 5 := ⟨by decide, by decide, mw (i := 183) (by decide +kernel) (by decide +kernel)⟩
theorem fk_5_5 : fk 5 5 = 7 := by decide +kernel
theorem fl_X5_20 : FL RX5 20 5 4 := ⟨by decide, by decide, mw (i := 182) (by decide +kernel) (by decide +kernel)⟩
theorem fk_5_4 : fk 5 4 = 7 := by decide +kernel
theorem fl_X5_104 : FL RX5 104 7 0 := ⟨by decide, by decide, mw (i := 157) (by decide +kernel) (by decide +kernel)⟩
theorem ml_X5_52 : Cond.methodLink RX5 52 yX5_bitsOf ∈ gw_tbl := mw (i := 481) (by decide +kernel) (by decide +kernel)
theorem fl_X5_94 : FL RX5 94 7 1 := ⟨by decide, by decide, mw (i := 159) (by decide +kernel) (by decide +kernel)⟩
theorem ml_X5_107 : Cond.methodLink RX5 107 yX7_add ∈ gw_tbl := mw (i := 484) (by decide +kernel) (by decide +kernel)
theorem mv_X7_add : MV yX7_add 7 cX7_add 4 none 2 := ⟨by decide, ⟨rfl, by decide, by decide, by decide +kernel⟩, mw (i := 485) (by decide +kernel) (by decide +kernel), mw (i := 486) (by decide +kernel) (by decide +kernel), mw (i := 6) (by decide +kernel) (by decide +kernel), mw (i := 487) (by decide +kernel) (by decide +kernel)⟩
theorem mst_X5_bitsOf : MS yX5_bitsOf cX5_bitsOf 1 (some .int) 1 := ⟨⟨by decide, by decide, by decide +kernel⟩, mw (i := 482) (by decide +kernel) (by decide +kernel), mw (i := 5) (by decide +kernel) (by decide +kernel), mw (i := 483) (by decide +kernel) (by decide +kernel)⟩
theorem fl_X5_93 : FL RX5 93 1 0 := ⟨by decide, by decide, mw (i := 32) (by decide +kernel) (by decide +kernel)⟩
theorem fl_X5_86 : FL RX5 86 7 4 := ⟨by decide, by decide, mw (i := 165) (by decide +kernel) (by decide +kernel)⟩
theorem fl_X5_44 : FL RX5 44 5 1 := ⟨by decide, by decide, mw (i := 179) (by decide +kernel) (by decide +kernel)⟩
theorem fk_5_1 : fk 5 1 = 2 := by decide +kernel
theorem fl_X5_69 : FL RX5 69 2 4 := ⟨by decide, by decide, mw (i := 66) (by decide +kernel) (by decide +kernel)⟩
theorem fl_X5_72 : FL RX5 72 2 5 := ⟨by decide, by decide, mw (i := 70) (by decide +kernel) (by decide +kernel)⟩
theorem kc_X5_144 : Cond.constantLong RX5 144 (7 : Int64) ∈ gw_tbl := mw (i := 496) (by decide +kernel) (by decide +kernel)
theorem fl_X0_17 : FL RX0 17 0 2 := ⟨by decide, by decide, mw (i := 102) (by decide +kernel) (by decide +kernel)⟩
theorem fl_X0_34 : FL RX0 34 0 8 := ⟨by decide, by decide, mw (i := 112) (by decide +kernel) (by decide +kernel)⟩
theorem fl_X0_77 : FL RX0 77 0 9 := ⟨by decide, by decide, mw (i := 113) (by decide +kernel) (by decide +kernel)⟩
theorem ml_X0_83 : Cond.methodLink RX0 83 Lib.Math.min.name ∈ gw_tbl := mw (i := 511) (by decide +kernel) (by decide +kernel)
theorem fl_X0_80 : FL RX0 80 0 10 := ⟨by decide, by decide, mw (i := 114) (by decide +kernel) (by decide +kernel)⟩
theorem ml_X0_71 : Cond.methodLink RX0 71 Lib.Math.max.name ∈ gw_tbl := mw (i := 508) (by decide +kernel) (by decide +kernel)
theorem fl_X0_24 : FL RX0 24 0 5 := ⟨by decide, by decide, mw (i := 109) (by decide +kernel) (by decide +kernel)⟩
theorem fl_X0_37 : FL RX0 37 0 11 := ⟨by decide, by decide, mw (i := 115) (by decide +kernel) (by decide +kernel)⟩
theorem fl_X0_21 : FL RX0 21 0 3 := ⟨by decide, by decide, mw (i := 105) (by decide +kernel) (by decide +kernel)⟩
theorem fl_X0_28 : FL RX0 28 0 6 := ⟨by decide, by decide, mw (i := 110) (by decide +kernel) (by decide +kernel)⟩
theorem fl_X0_31 : FL RX0 31 0 7 := ⟨by decide, by decide, mw (i := 111) (by decide +kernel) (by decide +kernel)⟩
theorem fl_X0_40 : FL RX0 40 0 12 := ⟨by decide, by decide, mw (i := 116) (by decide +kernel) (by decide +kernel)⟩
theorem ml_X0_60 : Cond.methodLink RX0 60 yX0_take ∈ gw_tbl := mw (i := 504) (by decide +kernel) (by decide +kernel)
theorem mv_X0_take : MV yX0_take 0 cX0_take 4 none 3 := ⟨by decide, ⟨rfl, by decide, by decide, by decide +kernel⟩, mw (i := 506) (by decide +kernel) (by decide +kernel), ms (i := 14) (by decide +kernel) (by decide +kernel), mw (i := 4) (by decide +kernel) (by decide +kernel), mw (i := 507) (by decide +kernel) (by decide +kernel)⟩
theorem fl_X0_68 : FL RX0 68 0 4 := ⟨by decide, by decide, mw (i := 107) (by decide +kernel) (by decide +kernel)⟩
theorem fl_X0_13 : FL RX0 13 0 1 := ⟨by decide, by decide, mw (i := 101) (by decide +kernel) (by decide +kernel)⟩
theorem fk_0_1 : fk 0 1 = 2 := by decide +kernel
theorem fl_X0_43 : FL RX0 43 2 4 := ⟨by decide, by decide, mw (i := 65) (by decide +kernel) (by decide +kernel)⟩
theorem ml_X0_64 : Cond.methodLink RX0 64 yX0_nutBetween ∈ gw_tbl := mw (i := 514) (by decide +kernel) (by decide +kernel)
theorem mv_X0_nutBetween : MV yX0_nutBetween 0 cX0_nutBetween 2 (some .boolean) 0 := ⟨by decide, ⟨rfl, by decide, by decide, by decide +kernel⟩, mw (i := 516) (by decide +kernel) (by decide +kernel), ms (i := 15) (by decide +kernel) (by decide +kernel), mw (i := 4) (by decide +kernel) (by decide +kernel), mw (i := 517) (by decide +kernel) (by decide +kernel)⟩
theorem fl_X0_49 : FL RX0 49 2 5 := ⟨by decide, by decide, mw (i := 69) (by decide +kernel) (by decide +kernel)⟩
theorem fl_X0_52 : FL RX0 52 2 1 := ⟨by decide, by decide, mw (i := 57) (by decide +kernel) (by decide +kernel)⟩
theorem fl_X0_7 : FL RX0 7 0 0 := ⟨by decide, by decide, mw (i := 100) (by decide +kernel) (by decide +kernel)⟩
theorem fk_0_0 : fk 0 0 = 1 := by decide +kernel
theorem fl_X0_55 : FL RX0 55 1 1 := ⟨by decide, by decide, mw (i := 34) (by decide +kernel) (by decide +kernel)⟩
theorem fl_X0_86 : FL RX0 86 1 2 := ⟨by decide, by decide, mw (i := 39) (by decide +kernel) (by decide +kernel)⟩
theorem ml_X0_89 : Cond.methodLink RX0 89 yX0_stretched ∈ gw_tbl := mw (i := 522) (by decide +kernel) (by decide +kernel)
theorem mv_X0_stretched : MV yX0_stretched 0 cX0_stretched 1 (some .boolean) 0 := ⟨by decide, ⟨rfl, by decide, by decide, by decide +kernel⟩, mw (i := 524) (by decide +kernel) (by decide +kernel), ms (i := 16) (by decide +kernel) (by decide +kernel), mw (i := 4) (by decide +kernel) (by decide +kernel), mw (i := 525) (by decide +kernel) (by decide +kernel)⟩
theorem ml_X1_26 : Cond.methodLink RX1 26 Lib.Math.abs.name ∈ gw_tbl := mw (i := 535) (by decide +kernel) (by decide +kernel)
theorem fl_X5_16 : FL RX5 16 5 3 := ⟨by decide, by decide, mw (i := 181) (by decide +kernel) (by decide +kernel)⟩
theorem fk_5_3 : fk 5 3 = 7 := by decide +kernel
theorem fl_X5_136 : FL RX5 136 7 2 := ⟨by decide, by decide, mw (i := 161) (by decide +kernel) (by decide +kernel)⟩
theorem ml_X5_146 : Cond.methodLink RX5 146 yX1_chargeOfShift ∈ gw_tbl := mw (i := 531) (by decide +kernel) (by decide +kernel)
theorem fl_X5_138 : FL RX5 138 7 3 := ⟨by decide, by decide, mw (i := 163) (by decide +kernel) (by decide +kernel)⟩
theorem kc_X5_56 : Cond.constantLong RX5 56 (-1 : Int64) ∈ gw_tbl := mw (i := 530) (by decide +kernel) (by decide +kernel)
theorem mv_X1_chargeOfShift : MV yX1_chargeOfShift 1 cX1_chargeOfShift 3 (some .int) 2 := ⟨by decide, ⟨rfl, by decide, by decide, by decide +kernel⟩, mw (i := 532) (by decide +kernel) (by decide +kernel), mw (i := 533) (by decide +kernel) (by decide +kernel), mw (i := 2) (by decide +kernel) (by decide +kernel), mw (i := 534) (by decide +kernel) (by decide +kernel)⟩
theorem fl_X5_48 : FL RX5 48 5 2 := ⟨by decide, by decide, mw (i := 180) (by decide +kernel) (by decide +kernel)⟩
theorem fk_5_2 : fk 5 2 = 0 := by decide +kernel
theorem fl_X5_129 : FL RX5 129 0 2 := ⟨by decide, by decide, mw (i := 103) (by decide +kernel) (by decide +kernel)⟩
theorem ml_X5_141 : Cond.methodLink RX5 141 yX0_charge ∈ gw_tbl := mw (i := 538) (by decide +kernel) (by decide +kernel)
theorem mv_X0_charge : MV yX0_charge 0 cX0_charge 1 (some .int) 0 := ⟨by decide, ⟨rfl, by decide, by decide, by decide +kernel⟩, mw (i := 539) (by decide +kernel) (by decide +kernel), mw (i := 540) (by decide +kernel) (by decide +kernel), mw (i := 4) (by decide +kernel) (by decide +kernel), mw (i := 541) (by decide +kernel) (by decide +kernel)⟩
theorem fl_X5_26 : FL RX5 26 5 6 := ⟨by decide, by decide, mw (i := 184) (by decide +kernel) (by decide +kernel)⟩
theorem fk_5_6 : fk 5 6 = 10 := by decide +kernel
theorem ml_X5_119 : Cond.methodLink RX5 119 yX0_look ∈ gw_tbl := mw (i := 500) (by decide +kernel) (by decide +kernel)
theorem ml_X5_125 : Cond.methodLink RX5 125 yX0_wrongs ∈ gw_tbl := mw (i := 518) (by decide +kernel) (by decide +kernel)
theorem ml_X5_132 : Cond.methodLink RX5 132 yX5_bestAhead ∈ gw_tbl := mw (i := 526) (by decide +kernel) (by decide +kernel)
theorem mv_X5_bestAhead : MV yX5_bestAhead 5 cX5_bestAhead 13 (some .long) 3 := ⟨by decide, ⟨rfl, by decide, by decide, by decide +kernel⟩, mw (i := 528) (by decide +kernel) (by decide +kernel), ms (i := 17) (by decide +kernel) (by decide +kernel), mw (i := 5) (by decide +kernel) (by decide +kernel), mw (i := 529) (by decide +kernel) (by decide +kernel)⟩
theorem mv_X0_wrongs : MV yX0_wrongs 0 cX0_wrongs 1 (some .int) 0 := ⟨by decide, ⟨rfl, by decide, by decide, by decide +kernel⟩, mw (i := 519) (by decide +kernel) (by decide +kernel), mw (i := 520) (by decide +kernel) (by decide +kernel), mw (i := 4) (by decide +kernel) (by decide +kernel), mw (i := 521) (by decide +kernel) (by decide +kernel)⟩
theorem mv_X0_look : MV yX0_look 0 cX0_look 6 none 3 := ⟨by decide, ⟨rfl, by decide, by decide, by decide +kernel⟩, mw (i := 501) (by decide +kernel) (by decide +kernel), mw (i := 502) (by decide +kernel) (by decide +kernel), mw (i := 4) (by decide +kernel) (by decide +kernel), mw (i := 503) (by decide +kernel) (by decide +kernel)⟩
theorem ml_X5_115 : Cond.methodLink RX5 115 yX5_courseIn ∈ gw_tbl := mw (i := 497) (by decide +kernel) (by decide +kernel)
theorem mst_X5_courseIn : MS yX5_courseIn cX5_courseIn 3 (some .int) 2 := ⟨⟨by decide, by decide, by decide +kernel⟩, mw (i := 498) (by decide +kernel) (by decide +kernel), mw (i := 5) (by decide +kernel) (by decide +kernel), mw (i := 499) (by decide +kernel) (by decide +kernel)⟩
theorem ml_X5_111 : Cond.methodLink RX5 111 yX5_heldBits ∈ gw_tbl := mw (i := 492) (by decide +kernel) (by decide +kernel)
theorem mv_X5_heldBits : MV yX5_heldBits 5 cX5_heldBits 5 (some .long) 1 := ⟨by decide, ⟨rfl, by decide, by decide, by decide +kernel⟩, mw (i := 494) (by decide +kernel) (by decide +kernel), ms (i := 13) (by decide +kernel) (by decide +kernel), mw (i := 5) (by decide +kernel) (by decide +kernel), mw (i := 495) (by decide +kernel) (by decide +kernel)⟩
theorem ml_X7_27 : Cond.methodLink RX7 27 Lib.MathLoose.min_long.x ∈ gw_tbl := mw (i := 546) (by decide +kernel) (by decide +kernel)
theorem ml_X5_82 : Cond.methodLink RX5 82 yX5_keepGood ∈ gw_tbl := mw (i := 488) (by decide +kernel) (by decide +kernel)
theorem mv_X5_keepGood : MV yX5_keepGood 5 cX5_keepGood 11 none 2 := ⟨by decide, ⟨rfl, by decide, by decide, by decide +kernel⟩, mw (i := 490) (by decide +kernel) (by decide +kernel), ms (i := 12) (by decide +kernel) (by decide +kernel), mw (i := 5) (by decide +kernel) (by decide +kernel), mw (i := 491) (by decide +kernel) (by decide +kernel)⟩
theorem fl_X5_75 : FL RX5 75 2 1 := ⟨by decide, by decide, mw (i := 59) (by decide +kernel) (by decide +kernel)⟩
theorem ml_X5_78 : Cond.methodLink RX5 78 yX5_spread ∈ gw_tbl := mw (i := 476) (by decide +kernel) (by decide +kernel)
theorem mv_X5_spread : MV yX5_spread 5 cX5_spread 7 none 3 := ⟨by decide, ⟨rfl, by decide, by decide, by decide +kernel⟩, mw (i := 478) (by decide +kernel) (by decide +kernel), ms (i := 11) (by decide +kernel) (by decide +kernel), mw (i := 5) (by decide +kernel) (by decide +kernel), mw (i := 479) (by decide +kernel) (by decide +kernel)⟩
theorem fl_X5_65 : FL RX5 65 2 7 := ⟨by decide, by decide, mw (i := 75) (by decide +kernel) (by decide +kernel)⟩
theorem ml_X5_89 : Cond.methodLink RX5 89 yX7_leastBest ∈ gw_tbl := mw (i := 542) (by decide +kernel) (by decide +kernel)
theorem mv_X7_leastBest : MV yX7_leastBest 7 cX7_leastBest 4 (some .long) 0 := ⟨by decide, ⟨rfl, by decide, by decide, by decide +kernel⟩, mw (i := 543) (by decide +kernel) (by decide +kernel), mw (i := 544) (by decide +kernel) (by decide +kernel), mw (i := 6) (by decide +kernel) (by decide +kernel), mw (i := 545) (by decide +kernel) (by decide +kernel)⟩
theorem ml_X5_62 : Cond.methodLink RX5 62 yX7_startWithNothingLaid ∈ gw_tbl := mw (i := 472) (by decide +kernel) (by decide +kernel)
theorem mv_X7_startWithNothingLaid : MV yX7_startWithNothingLaid 7 cX7_startWithNothingLaid 1 none 0 := ⟨by decide, ⟨rfl, by decide, by decide, by decide +kernel⟩, mw (i := 473) (by decide +kernel) (by decide +kernel), mw (i := 474) (by decide +kernel) (by decide +kernel), mw (i := 6) (by decide +kernel) (by decide +kernel), mw (i := 475) (by decide +kernel) (by decide +kernel)⟩
theorem fl_X5_32 : FL RX5 32 5 7 := ⟨by decide, by decide, mw (i := 185) (by decide +kernel) (by decide +kernel)⟩
theorem fk_5_7 : fk 5 7 = 11 := by decide +kernel
theorem ml_X5_58 : Cond.methodLink RX5 58 yX5_find ∈ gw_tbl := mw (i := 468) (by decide +kernel) (by decide +kernel)
theorem mv_X5_find : MV yX5_find 5 cX5_find 5 (some .long) 2 := ⟨by decide, ⟨rfl, by decide, by decide, by decide +kernel⟩, mw (i := 470) (by decide +kernel) (by decide +kernel), ms (i := 10) (by decide +kernel) (by decide +kernel), mw (i := 5) (by decide +kernel) (by decide +kernel), mw (i := 471) (by decide +kernel) (by decide +kernel)⟩
theorem ml_X8_161 : Cond.methodLink RX8 161 yX5_inKey ∈ gw_tbl := mw (i := 464) (by decide +kernel) (by decide +kernel)
theorem ml_X8_165 : Cond.methodLink RX8 165 yX5_costOf ∈ gw_tbl := mw (i := 549) (by decide +kernel) (by decide +kernel)
theorem mst_X5_costOf : MS yX5_costOf cX5_costOf 2 (some .int) 1 := ⟨⟨by decide, by decide, by decide +kernel⟩, mw (i := 550) (by decide +kernel) (by decide +kernel), mw (i := 5) (by decide +kernel) (by decide +kernel), mw (i := 551) (by decide +kernel) (by decide +kernel)⟩
theorem mv_X5_inKey : MV yX5_inKey 5 cX5_inKey 3 (some .long) 1 := ⟨by decide, ⟨rfl, by decide, by decide, by decide +kernel⟩, mw (i := 465) (by decide +kernel) (by decide +kernel), mw (i := 466) (by decide +kernel) (by decide +kernel), mw (i := 5) (by decide +kernel) (by decide +kernel), mw (i := 467) (by decide +kernel) (by decide +kernel)⟩
theorem ml_X8_169 : Cond.methodLink RX8 169 yX5_faultOf ∈ gw_tbl := mw (i := 556) (by decide +kernel) (by decide +kernel)
theorem mst_X5_faultOf : MS yX5_faultOf cX5_faultOf 2 (some .int) 1 := ⟨⟨by decide, by decide, by decide +kernel⟩, mw (i := 557) (by decide +kernel) (by decide +kernel), mw (i := 5) (by decide +kernel) (by decide +kernel), mw (i := 558) (by decide +kernel) (by decide +kernel)⟩
theorem ml_X8_172 : Cond.methodLink RX8 172 yX5_courseIn ∈ gw_tbl := mw (i := 563) (by decide +kernel) (by decide +kernel)
theorem ml_X8_176 : Cond.methodLink RX8 176 yJ7_fill_53178 ∈ gw_tbl := mw (i := 568) (by decide +kernel) (by decide +kernel)
theorem mst_J7_fill_53178 : MS yJ7_fill_53178 cJ7_fill_53178 4 none 2 := ⟨⟨by decide, by decide, by decide +kernel⟩, mw (i := 569) (by decide +kernel) (by decide +kernel), mw (i := 12) (by decide +kernel) (by decide +kernel), mw (i := 570) (by decide +kernel) (by decide +kernel)⟩
theorem fl_X8_294 : FL RX8 294 2 7 := ⟨by decide, by decide, mw (i := 76) (by decide +kernel) (by decide +kernel)⟩
theorem fl_X8_28 : FL RX8 28 8 2 := ⟨by decide, by decide, mw (i := 290) (by decide +kernel) (by decide +kernel)⟩
theorem fk_8_2 : fk 8 2 = 0 := by decide +kernel
theorem ml_X8_356 : Cond.methodLink RX8 356 yX0_look ∈ gw_tbl := mw (i := 583) (by decide +kernel) (by decide +kernel)
theorem ml_X8_360 : Cond.methodLink RX8 360 yX0_wrongs ∈ gw_tbl := mw (i := 584) (by decide +kernel) (by decide +kernel)
theorem ml_X8_291 : Cond.methodLink RX8 291 yX8_fretOfLaid ∈ gw_tbl := mw (i := 579) (by decide +kernel) (by decide +kernel)
theorem mv_X8_fretOfLaid : MV yX8_fretOfLaid 8 cX8_fretOfLaid 2 (some .int) 1 := ⟨by decide, ⟨rfl, by decide, by decide, by decide +kernel⟩, mw (i := 581) (by decide +kernel) (by decide +kernel), ms (i := 19) (by decide +kernel) (by decide +kernel), mw (i := 1) (by decide +kernel) (by decide +kernel), mw (i := 582) (by decide +kernel) (by decide +kernel)⟩
theorem ml_X8_182 : Cond.methodLink RX8 182 yX8_wrongs ∈ gw_tbl := mw (i := 575) (by decide +kernel) (by decide +kernel)
theorem mv_X8_wrongs : MV yX8_wrongs 8 cX8_wrongs 3 (some .int) 0 := ⟨by decide, ⟨rfl, by decide, by decide, by decide +kernel⟩, mw (i := 577) (by decide +kernel) (by decide +kernel), ms (i := 18) (by decide +kernel) (by decide +kernel), mw (i := 1) (by decide +kernel) (by decide +kernel), mw (i := 578) (by decide +kernel) (by decide +kernel)⟩
theorem ml_X8_361 : Cond.methodLink RX8 361 yX0_charge ∈ gw_tbl := mw (i := 593) (by decide +kernel) (by decide +kernel)
theorem fl_X8_364 : FL RX8 364 0 2 := ⟨by decide, by decide, mw (i := 104) (by decide +kernel) (by decide +kernel)⟩
theorem ml_X8_367 : Cond.methodLink RX8 367 yX1_chargeOfShift ∈ gw_tbl := mw (i := 594) (by decide +kernel) (by decide +kernel)
theorem ml_X8_186 : Cond.methodLink RX8 186 yX8_costOfLaid ∈ gw_tbl := mw (i := 589) (by decide +kernel) (by decide +kernel)
theorem mv_X8_costOfLaid : MV yX8_costOfLaid 8 cX8_costOfLaid 4 (some .int) 0 := ⟨by decide, ⟨rfl, by decide, by decide, by decide +kernel⟩, mw (i := 591) (by decide +kernel) (by decide +kernel), ms (i := 20) (by decide +kernel) (by decide +kernel), mw (i := 1) (by decide +kernel) (by decide +kernel), mw (i := 592) (by decide +kernel) (by decide +kernel)⟩
theorem kc_J6_265 : Cond.constant RJ6 265 (1431655765 : Int32) ∈ gw_tbl := mw (i := 607) (by decide +kernel) (by decide +kernel)
theorem kc_J6_266 : Cond.constant RJ6 266 (858993459 : Int32) ∈ gw_tbl := mw (i := 608) (by decide +kernel) (by decide +kernel)
theorem kc_J6_267 : Cond.constant RJ6 267 (252645135 : Int32) ∈ gw_tbl := mw (i := 609) (by decide +kernel) (by decide +kernel)
theorem fl_X8_373 : FL RX8 373 0 4 := ⟨by decide, by decide, mw (i := 108) (by decide +kernel) (by decide +kernel)⟩
theorem fl_X8_370 : FL RX8 370 0 3 := ⟨by decide, by decide, mw (i := 106) (by decide +kernel) (by decide +kernel)⟩
theorem ml_X8_189 : Cond.methodLink RX8 189 yX2_hasChord ∈ gw_tbl := mw (i := 599) (by decide +kernel) (by decide +kernel)
theorem ml_X8_206 : Cond.methodLink RX8 206 yX8_ofLaidChord ∈ gw_tbl := mw (i := 610) (by decide +kernel) (by decide +kernel)
theorem mv_X8_ofLaidChord : MV yX8_ofLaidChord 8 cX8_ofLaidChord 4 (some .int) 2 := ⟨by decide, ⟨rfl, by decide, by decide, by decide +kernel⟩, mw (i := 612) (by decide +kernel) (by decide +kernel), ms (i := 21) (by decide +kernel) (by decide +kernel), mw (i := 1) (by decide +kernel) (by decide +kernel), mw (i := 613) (by decide +kernel) (by decide +kernel)⟩
theorem fl_X8_198 : FL RX8 198 2 5 := ⟨by decide, by decide, mw (i := 71) (by decide +kernel) (by decide +kernel)⟩
theorem ml_X8_201 : Cond.methodLink RX8 201 yJ6_bitCount_0f7a4 ∈ gw_tbl := mw (i := 604) (by decide +kernel) (by decide +kernel)
theorem mst_J6_bitCount_0f7a4 : MS yJ6_bitCount_0f7a4 cJ6_bitCount_0f7a4 1 (some .int) 1 := ⟨⟨by decide, by decide, by decide +kernel⟩, mw (i := 605) (by decide +kernel) (by decide +kernel), mw (i := 13) (by decide +kernel) (by decide +kernel), mw (i := 606) (by decide +kernel) (by decide +kernel)⟩
theorem fl_X8_195 : FL RX8 195 2 4 := ⟨by decide, by decide, mw (i := 67) (by decide +kernel) (by decide +kernel)⟩
theorem ml_X8_192 : Cond.methodLink RX8 192 yX2_timeOfChord ∈ gw_tbl := mw (i := 603) (by decide +kernel) (by decide +kernel)
theorem mv_X2_hasChord : MV yX2_hasChord 2 cX2_hasChord 2 (some .boolean) 1 := ⟨by decide, ⟨rfl, by decide, by decide, by decide +kernel⟩, mw (i := 600) (by decide +kernel) (by decide +kernel), mw (i := 601) (by decide +kernel) (by decide +kernel), mw (i := 3) (by decide +kernel) (by decide +kernel), mw (i := 602) (by decide +kernel) (by decide +kernel)⟩
theorem ml_X8_210 : Cond.methodLink RX8 210 yX5_withoutCourse ∈ gw_tbl := mw (i := 618) (by decide +kernel) (by decide +kernel)
theorem mv_X5_withoutCourse : MV yX5_withoutCourse 5 cX5_withoutCourse 3 (some .long) 1 := ⟨by decide, ⟨rfl, by decide, by decide, by decide +kernel⟩, mw (i := 619) (by decide +kernel) (by decide +kernel), mw (i := 620) (by decide +kernel) (by decide +kernel), mw (i := 5) (by decide +kernel) (by decide +kernel), mw (i := 621) (by decide +kernel) (by decide +kernel)⟩
theorem kc_X8_213 : Cond.constant RX8 213 (-2147483648 : Int32) ∈ gw_tbl := mw (i := 630) (by decide +kernel) (by decide +kernel)
theorem ml_X8_214 : Cond.methodLink RX8 214 yX8_nthNearestKey ∈ gw_tbl := mw (i := 631) (by decide +kernel) (by decide +kernel)
theorem mst_X8_nthNearestKey : MS yX8_nthNearestKey cX8_nthNearestKey 2 (some .int) 1 := ⟨⟨by decide, by decide, by decide +kernel⟩, mw (i := 632) (by decide +kernel) (by decide +kernel), mw (i := 1) (by decide +kernel) (by decide +kernel), mw (i := 633) (by decide +kernel) (by decide +kernel)⟩
theorem ml_X8_217 : Cond.methodLink RX8 217 yX8_isSlot ∈ gw_tbl := mw (i := 638) (by decide +kernel) (by decide +kernel)
theorem fl_X8_70 : FL RX8 70 8 8 := ⟨by decide, by decide, mw (i := 296) (by decide +kernel) (by decide +kernel)⟩
theorem fk_8_8 : fk 8 8 = 14 := by decide +kernel
theorem ml_X8_220 : Cond.methodLink RX8 220 arraycopyName ∈ gw_tbl := mw (i := 641) (by decide +kernel) (by decide +kernel)
theorem ml_X8_226 : Cond.methodLink RX8 226 yX8_slotsKept ∈ gw_tbl := mw (i := 644) (by decide +kernel) (by decide +kernel)
theorem mv_X8_slotsKept : MV yX8_slotsKept 8 cX8_slotsKept 3 (some .int) 0 := ⟨by decide, ⟨rfl, by decide, by decide, by decide +kernel⟩, mw (i := 646) (by decide +kernel) (by decide +kernel), ms (i := 22) (by decide +kernel) (by decide +kernel), mw (i := 1) (by decide +kernel) (by decide +kernel), mw (i := 647) (by decide +kernel) (by decide +kernel)⟩
theorem mst_X8_isSlot : MS yX8_isSlot cX8_isSlot 1 (some .boolean) 1 := ⟨⟨by decide, by decide, by decide +kernel⟩, mw (i := 639) (by decide +kernel) (by decide +kernel), mw (i := 1) (by decide +kernel) (by decide +kernel), mw (i := 640) (by decide +kernel) (by decide +kernel)⟩
theorem fl_X4_7 : FL RX4 7 4 1 := ⟨by decide, by decide, mw (i := 216) (by decide +kernel) (by decide +kernel)⟩
theorem fl_X4_13 : FL RX4 13 4 0 := ⟨by decide, by decide, mw (i := 213) (by decide +kernel) (by decide +kernel)⟩
theorem fk_4_0 : fk 4 0 = 10 := by decide +kernel
theorem ml_X4_17 : Cond.methodLink RX4 17 yX4_append ∈ gw_tbl := mw (i := 668) (by decide +kernel) (by decide +kernel)
theorem mv_X4_append : MV yX4_append 4 cX4_append 2 none 1 := ⟨by decide, ⟨rfl, by decide, by decide, by decide +kernel⟩, mw (i := 669) (by decide +kernel) (by decide +kernel), mw (i := 670) (by decide +kernel) (by decide +kernel), mw (i := 7) (by decide +kernel) (by decide +kernel), mw (i := 671) (by decide +kernel) (by decide +kernel)⟩
theorem fl_X8_59 : FL RX8 59 8 6 := ⟨by decide, by decide, mw (i := 294) (by decide +kernel) (by decide +kernel)⟩
theorem fk_8_6 : fk 8 6 = 4 := by decide +kernel
theorem ml_X8_240 : Cond.methodLink RX8 240 yX4_append ∈ gw_tbl := mw (i := 672) (by decide +kernel) (by decide +kernel)
theorem ml_X8_379 : Cond.methodLink RX8 379 yX8_letterAt ∈ gw_tbl := mw (i := 673) (by decide +kernel) (by decide +kernel)
theorem mv_X8_letterAt : MV yX8_letterAt 8 cX8_letterAt 4 (some .int) 2 := ⟨by decide, ⟨rfl, by decide, by decide, by decide +kernel⟩, mw (i := 675) (by decide +kernel) (by decide +kernel), ms (i := 24) (by decide +kernel) (by decide +kernel), mw (i := 1) (by decide +kernel) (by decide +kernel), mw (i := 676) (by decide +kernel) (by decide +kernel)⟩
theorem ml_X8_376 : Cond.methodLink RX8 376 yX4_appendFigures ∈ gw_tbl := mw (i := 664) (by decide +kernel) (by decide +kernel)
theorem mv_X4_appendFigures : MV yX4_appendFigures 4 cX4_appendFigures 2 none 1 := ⟨by decide, ⟨rfl, by decide, by decide, by decide +kernel⟩, mw (i := 665) (by decide +kernel) (by decide +kernel), mw (i := 666) (by decide +kernel) (by decide +kernel), mw (i := 7) (by decide +kernel) (by decide +kernel), mw (i := 667) (by decide +kernel) (by decide +kernel)⟩
theorem fl_X8_236 : FL RX8 236 4 1 := ⟨by decide, by decide, mw (i := 218) (by decide +kernel) (by decide +kernel)⟩
theorem ml_X8_232 : Cond.methodLink RX8 232 yX8_makeTablature ∈ gw_tbl := mw (i := 660) (by decide +kernel) (by decide +kernel)
theorem fl_X8_237 : FL RX8 237 4 0 := ⟨by decide, by decide, mw (i := 215) (by decide +kernel) (by decide +kernel)⟩
theorem mv_X8_makeTablature : MV yX8_makeTablature 8 cX8_makeTablature 3 (some .boolean) 0 := ⟨by decide, ⟨rfl, by decide, by decide, by decide +kernel⟩, mw (i := 662) (by decide +kernel) (by decide +kernel), ms (i := 23) (by decide +kernel) (by decide +kernel), mw (i := 1) (by decide +kernel) (by decide +kernel), mw (i := 663) (by decide +kernel) (by decide +kernel)⟩
theorem fl_X8_48 : FL RX8 48 8 4 := ⟨by decide, by decide, mw (i := 292) (by decide +kernel) (by decide +kernel)⟩
theorem fk_8_4 : fk 8 4 = 4 := by decide +kernel
theorem fl_X3_33 : FL RX3 33 3 6 := ⟨by decide, by decide, mw (i := 240) (by decide +kernel) (by decide +kernel)⟩
theorem fl_X3_54 : FL RX3 54 3 5 := ⟨by decide, by decide, mw (i := 239) (by decide +kernel) (by decide +kernel)⟩
theorem fl_X3_51 : FL RX3 51 3 7 := ⟨by decide, by decide, mw (i := 241) (by decide +kernel) (by decide +kernel)⟩
theorem fl_X3_57 : FL RX3 57 3 8 := ⟨by decide, by decide, mw (i := 242) (by decide +kernel) (by decide +kernel)⟩
theorem ml_X3_81 : Cond.methodLink RX3 81 Lib.Math.min.name ∈ gw_tbl := mw (i := 717) (by decide +kernel) (by decide +kernel)
theorem ml_X3_77 : Cond.methodLink RX3 77 yX3_reachesPast ∈ gw_tbl := mw (i := 713) (by decide +kernel) (by decide +kernel)
theorem mv_X3_reachesPast : MV yX3_reachesPast 3 cX3_reachesPast 3 (some .boolean) 2 := ⟨by decide, ⟨rfl, by decide, by decide, by decide +kernel⟩, mw (i := 715) (by decide +kernel) (by decide +kernel), ms (i := 30) (by decide +kernel) (by decide +kernel), mw (i := 8) (by decide +kernel) (by decide +kernel), mw (i := 716) (by decide +kernel) (by decide +kernel)⟩
theorem ml_X3_74 : Cond.methodLink RX3 74 yX3_mayBecomeTime ∈ gw_tbl := mw (i := 709) (by decide +kernel) (by decide +kernel)
theorem mv_X3_mayBecomeTime : MV yX3_mayBecomeTime 3 cX3_mayBecomeTime 2 (some .boolean) 1 := ⟨by decide, ⟨rfl, by decide, by decide, by decide +kernel⟩, mw (i := 711) (by decide +kernel) (by decide +kernel), ms (i := 29) (by decide +kernel) (by decide +kernel), mw (i := 8) (by decide +kernel) (by decide +kernel), mw (i := 712) (by decide +kernel) (by decide +kernel)⟩
theorem fl_X3_25 : FL RX3 25 3 0 := ⟨by decide, by decide, mw (i := 230) (by decide +kernel) (by decide +kernel)⟩
theorem fk_3_0 : fk 3 0 = 1 := by decide +kernel
theorem fl_X3_67 : FL RX3 67 1 0 := ⟨by decide, by decide, mw (i := 31) (by decide +kernel) (by decide +kernel)⟩
theorem fl_X3_29 : FL RX3 29 3 1 := ⟨by decide, by decide, mw (i := 231) (by decide +kernel) (by decide +kernel)⟩
theorem ml_X3_87 : Cond.methodLink RX3 87 yX1_hasFret ∈ gw_tbl := mw (i := 726) (by decide +kernel) (by decide +kernel)
theorem fl_X3_13 : FL RX3 13 3 2 := ⟨by decide, by decide, mw (i := 233) (by decide +kernel) (by decide +kernel)⟩
theorem fk_3_2 : fk 3 2 = 10 := by decide +kernel
theorem fl_X3_19 : FL RX3 19 3 3 := ⟨by decide, by decide, mw (i := 235) (by decide +kernel) (by decide +kernel)⟩
theorem fk_3_3 : fk 3 3 = 10 := by decide +kernel
theorem fl_X3_22 : FL RX3 22 3 4 := ⟨by decide, by decide, mw (i := 237) (by decide +kernel) (by decide +kernel)⟩
theorem fk_3_4 : fk 3 4 = 10 := by decide +kernel
theorem ml_X3_36 : Cond.methodLink RX3 36 yX3_endChord ∈ gw_tbl := mw (i := 693) (by decide +kernel) (by decide +kernel)
theorem mv_X3_endChord : MV yX3_endChord 3 cX3_endChord 1 none 0 := ⟨by decide, ⟨rfl, by decide, by decide, by decide +kernel⟩, mw (i := 695) (by decide +kernel) (by decide +kernel), ms (i := 25) (by decide +kernel) (by decide +kernel), mw (i := 8) (by decide +kernel) (by decide +kernel), mw (i := 696) (by decide +kernel) (by decide +kernel)⟩
theorem ml_X3_71 : Cond.methodLink RX3 71 yX3_takesLetter ∈ gw_tbl := mw (i := 722) (by decide +kernel) (by decide +kernel)
theorem mv_X3_takesLetter : MV yX3_takesLetter 3 cX3_takesLetter 2 (some .boolean) 1 := ⟨by decide, ⟨rfl, by decide, by decide, by decide +kernel⟩, mw (i := 724) (by decide +kernel) (by decide +kernel), ms (i := 32) (by decide +kernel) (by decide +kernel), mw (i := 8) (by decide +kernel) (by decide +kernel), mw (i := 725) (by decide +kernel) (by decide +kernel)⟩
theorem ml_X3_68 : Cond.methodLink RX3 68 yX3_takesDash ∈ gw_tbl := mw (i := 718) (by decide +kernel) (by decide +kernel)
theorem mv_X3_takesDash : MV yX3_takesDash 3 cX3_takesDash 1 (some .boolean) 0 := ⟨by decide, ⟨rfl, by decide, by decide, by decide +kernel⟩, mw (i := 720) (by decide +kernel) (by decide +kernel), ms (i := 31) (by decide +kernel) (by decide +kernel), mw (i := 8) (by decide +kernel) (by decide +kernel), mw (i := 721) (by decide +kernel) (by decide +kernel)⟩
theorem ml_X3_64 : Cond.methodLink RX3 64 yX3_takesFigure ∈ gw_tbl := mw (i := 705) (by decide +kernel) (by decide +kernel)
theorem mv_X3_takesFigure : MV yX3_takesFigure 3 cX3_takesFigure 3 (some .boolean) 1 := ⟨by decide, ⟨rfl, by decide, by decide, by decide +kernel⟩, mw (i := 707) (by decide +kernel) (by decide +kernel), ms (i := 28) (by decide +kernel) (by decide +kernel), mw (i := 8) (by decide +kernel) (by decide +kernel), mw (i := 708) (by decide +kernel) (by decide +kernel)⟩
theorem ml_X3_60 : Cond.methodLink RX3 60 yX3_takesColon ∈ gw_tbl := mw (i := 701) (by decide +kernel) (by decide +kernel)
theorem mv_X3_takesColon : MV yX3_takesColon 3 cX3_takesColon 1 (some .boolean) 0 := ⟨by decide, ⟨rfl, by decide, by decide, by decide +kernel⟩, mw (i := 703) (by decide +kernel) (by decide +kernel), ms (i := 27) (by decide +kernel) (by decide +kernel), mw (i := 8) (by decide +kernel) (by decide +kernel), mw (i := 704) (by decide +kernel) (by decide +kernel)⟩
theorem fl_X3_39 : FL RX3 39 4 1 := ⟨by decide, by decide, mw (i := 217) (by decide +kernel) (by decide +kernel)⟩
theorem fl_X3_44 : FL RX3 44 4 0 := ⟨by decide, by decide, mw (i := 214) (by decide +kernel) (by decide +kernel)⟩
theorem ml_X3_47 : Cond.methodLink RX3 47 yX3_takes ∈ gw_tbl := mw (i := 697) (by decide +kernel) (by decide +kernel)
theorem mv_X3_takes : MV yX3_takes 3 cX3_takes 2 (some .boolean) 1 := ⟨by decide, ⟨rfl, by decide, by decide, by decide +kernel⟩, mw (i := 699) (by decide +kernel) (by decide +kernel), ms (i := 26) (by decide +kernel) (by decide +kernel), mw (i := 8) (by decide +kernel) (by decide +kernel), mw (i := 700) (by decide +kernel) (by decide +kernel)⟩
theorem fl_X8_55 : FL RX8 55 8 5 := ⟨by decide, by decide, mw (i := 293) (by decide +kernel) (by decide +kernel)⟩
theorem fk_8_5 : fk 8 5 = 3 := by decide +kernel
theorem ml_X8_243 : Cond.methodLink RX8 243 yX3_flawOf ∈ gw_tbl := mw (i := 689) (by decide +kernel) (by decide +kernel)
theorem mv_X3_flawOf : MV yX3_flawOf 3 cX3_flawOf 3 (some .int) 1 := ⟨by decide, ⟨rfl, by decide, by decide, by decide +kernel⟩, mw (i := 690) (by decide +kernel) (by decide +kernel), mw (i := 691) (by decide +kernel) (by decide +kernel), mw (i := 8) (by decide +kernel) (by decide +kernel), mw (i := 692) (by decide +kernel) (by decide +kernel)⟩
theorem fl_X8_382 : FL RX8 382 3 3 := ⟨by decide, by decide, mw (i := 236) (by decide +kernel) (by decide +kernel)⟩
theorem fl_X8_385 : FL RX8 385 3 2 := ⟨by decide, by decide, mw (i := 234) (by decide +kernel) (by decide +kernel)⟩
theorem fl_X8_388 : FL RX8 388 3 4 := ⟨by decide, by decide, mw (i := 238) (by decide +kernel) (by decide +kernel)⟩
theorem fl_X8_247 : FL RX8 247 3 1 := ⟨by decide, by decide, mw (i := 232) (by decide +kernel) (by decide +kernel)⟩
theorem ml_X8_250 : Cond.methodLink RX8 250 yX8_addAsRead ∈ gw_tbl := mw (i := 731) (by decide +kernel) (by decide +kernel)
theorem mv_X8_addAsRead : MV yX8_addAsRead 8 cX8_addAsRead 5 none 1 := ⟨by decide, ⟨rfl, by decide, by decide, by decide +kernel⟩, mw (i := 733) (by decide +kernel) (by decide +kernel), ms (i := 33) (by decide +kernel) (by decide +kernel), mw (i := 1) (by decide +kernel) (by decide +kernel), mw (i := 734) (by decide +kernel) (by decide +kernel)⟩
theorem fl_X6_7 : FL RX6 7 6 0 := ⟨by decide, by decide, mw (i := 271) (by decide +kernel) (by decide +kernel)⟩
theorem fl_X6_13 : FL RX6 13 6 1 := ⟨by decide, by decide, mw (i := 273) (by decide +kernel) (by decide +kernel)⟩
theorem fl_X6_20 : FL RX6 20 6 3 := ⟨by decide, by decide, mw (i := 277) (by decide +kernel) (by decide +kernel)⟩
theorem ml_X6_24 : Cond.methodLink RX6 24 yJ7_fill_d0a16 ∈ gw_tbl := mw (i := 746) (by decide +kernel) (by decide +kernel)
theorem mst_J7_fill_d0a16 : MS yJ7_fill_d0a16 cJ7_fill_d0a16 5 none 2 := ⟨⟨by decide, by decide, by decide +kernel⟩, mw (i := 747) (by decide +kernel) (by decide +kernel), mw (i := 12) (by decide +kernel) (by decide +kernel), mw (i := 748) (by decide +kernel) (by decide +kernel)⟩
theorem ml_X8_256 : Cond.methodLink RX8 256 yX6_isForm ∈ gw_tbl := mw (i := 739) (by decide +kernel) (by decide +kernel)
theorem ml_X8_259 : Cond.methodLink RX8 259 yX6_makeNew ∈ gw_tbl := mw (i := 742) (by decide +kernel) (by decide +kernel)
theorem mv_X6_makeNew : MV yX6_makeNew 6 cX6_makeNew 3 none 2 := ⟨by decide, ⟨rfl, by decide, by decide, by decide +kernel⟩, mw (i := 743) (by decide +kernel) (by decide +kernel), mw (i := 744) (by decide +kernel) (by decide +kernel), mw (i := 9) (by decide +kernel) (by decide +kernel), mw (i := 745) (by decide +kernel) (by decide +kernel)⟩
theorem mst_X6_isForm : MS yX6_isForm cX6_isForm 1 (some .boolean) 1 := ⟨⟨by decide, by decide, by decide +kernel⟩, mw (i := 740) (by decide +kernel) (by decide +kernel), mw (i := 9) (by decide +kernel) (by decide +kernel), mw (i := 741) (by decide +kernel) (by decide +kernel)⟩
theorem fl_X8_266 : FL RX8 266 6 2 := ⟨by decide, by decide, mw (i := 276) (by decide +kernel) (by decide +kernel)⟩
theorem ml_X8_273 : Cond.methodLink RX8 273 yX6_store ∈ gw_tbl := mw (i := 762) (by decide +kernel) (by decide +kernel)
theorem mv_X6_store : MV yX6_store 6 cX6_store 4 none 2 := ⟨by decide, ⟨rfl, by decide, by decide, by decide +kernel⟩, mw (i := 763) (by decide +kernel) (by decide +kernel), mw (i := 764) (by decide +kernel) (by decide +kernel), mw (i := 9) (by decide +kernel) (by decide +kernel), mw (i := 765) (by decide +kernel) (by decide +kernel)⟩
theorem fl_X8_267 : FL RX8 267 6 1 := ⟨by decide, by decide, mw (i := 274) (by decide +kernel) (by decide +kernel)⟩
theorem ml_X8_270 : Cond.methodLink RX8 270 yX6_has ∈ gw_tbl := mw (i := 757) (by decide +kernel) (by decide +kernel)
theorem kc_X8_271 : Cond.constantLong RX8 271 (100000007 : Int64) ∈ gw_tbl := mw (i := 761) (by decide +kernel) (by decide +kernel)
theorem mv_X6_has : MV yX6_has 6 cX6_has 2 (some .boolean) 1 := ⟨by decide, ⟨rfl, by decide, by decide, by decide +kernel⟩, mw (i := 758) (by decide +kernel) (by decide +kernel), mw (i := 759) (by decide +kernel) (by decide +kernel), mw (i := 9) (by decide +kernel) (by decide +kernel), mw (i := 760) (by decide +kernel) (by decide +kernel)⟩
theorem kc_X8_281 : Cond.constantLong RX8 281 (-9223372036854775808 : Int64) ∈ gw_tbl := mw (i := 770) (by decide +kernel) (by decide +kernel)
theorem ml_X8_286 : Cond.methodLink RX8 286 Lib.Math.min.name ∈ gw_tbl := mw (i := 779) (by decide +kernel) (by decide +kernel)
theorem kc_X8_343 : Cond.constantLong RX8 343 (31 : Int64) ∈ gw_tbl := mw (i := 793) (by decide +kernel) (by decide +kernel)
theorem ml_X8_345 : Cond.methodLink RX8 345 yX8_info ∈ gw_tbl := mw (i := 803) (by decide +kernel) (by decide +kernel)
theorem ml_X8_302 : Cond.methodLink RX8 302 yX8_mixed ∈ gw_tbl := mw (i := 790) (by decide +kernel) (by decide +kernel)
theorem mst_X8_mixed : MS yX8_mixed cX8_mixed 4 (some .long) 2 := ⟨⟨by decide, by decide, by decide +kernel⟩, mw (i := 791) (by decide +kernel) (by decide +kernel), mw (i := 1) (by decide +kernel) (by decide +kernel), mw (i := 792) (by decide +kernel) (by decide +kernel)⟩
theorem mv_X8_info : MV yX8_info 8 cX8_info 3 (some .int) 2 := ⟨by decide, ⟨rfl, by decide, by decide, by decide +kernel⟩, mw (i := 437) (by decide +kernel) (by decide +kernel), mw (i := 438) (by decide +kernel) (by decide +kernel), mw (i := 1) (by decide +kernel) (by decide +kernel), mw (i := 439) (by decide +kernel) (by decide +kernel)⟩
theorem ml_X8_348 : Cond.methodLink RX8 348 yX8_chord ∈ gw_tbl := mw (i := 808) (by decide +kernel) (by decide +kernel)
theorem mv_X8_chord : MV yX8_chord 8 cX8_chord 3 (some .int) 2 := ⟨by decide, ⟨rfl, by decide, by decide, by decide +kernel⟩, mw (i := 596) (by decide +kernel) (by decide +kernel), mw (i := 597) (by decide +kernel) (by decide +kernel), mw (i := 1) (by decide +kernel) (by decide +kernel), mw (i := 598) (by decide +kernel) (by decide +kernel)⟩
theorem kc_X8_351 : Cond.constantLong RX8 351 (-3 : Int64) ∈ gw_tbl := mw (i := 816) (by decide +kernel) (by decide +kernel)
theorem ml_X8_318 : Cond.methodLink RX8 318 yX8_without ∈ gw_tbl := mw (i := 798) (by decide +kernel) (by decide +kernel)
theorem mv_X8_without : MV yX8_without 8 cX8_without 4 (some .int) 1 := ⟨by decide, ⟨rfl, by decide, by decide, by decide +kernel⟩, mw (i := 615) (by decide +kernel) (by decide +kernel), mw (i := 616) (by decide +kernel) (by decide +kernel), mw (i := 1) (by decide +kernel) (by decide +kernel), mw (i := 617) (by decide +kernel) (by decide +kernel)⟩
theorem ml_X8_315 : Cond.methodLink RX8 315 yX8_course ∈ gw_tbl := mw (i := 797) (by decide +kernel) (by decide +kernel)
theorem mv_X8_course : MV yX8_course 8 cX8_course 3 (some .int) 2 := ⟨by decide, ⟨rfl, by decide, by decide, by decide +kernel⟩, mw (i := 449) (by decide +kernel) (by decide +kernel), mw (i := 450) (by decide +kernel) (by decide +kernel), mw (i := 1) (by decide +kernel) (by decide +kernel), mw (i := 451) (by decide +kernel) (by decide +kernel)⟩
theorem ml_X8_340 : Cond.methodLink RX8 340 yX8_differ ∈ gw_tbl := mw (i := 817) (by decide +kernel) (by decide +kernel)
theorem mv_X8_differ : MV yX8_differ 8 cX8_differ 4 (some .int) 1 := ⟨by decide, ⟨rfl, by decide, by decide, by decide +kernel⟩, mw (i := 653) (by decide +kernel) (by decide +kernel), mw (i := 654) (by decide +kernel) (by decide +kernel), mw (i := 1) (by decide +kernel) (by decide +kernel), mw (i := 655) (by decide +kernel) (by decide +kernel)⟩
theorem ml_X8_331 : Cond.methodLink RX8 331 yX8_easiest ∈ gw_tbl := mw (i := 810) (by decide +kernel) (by decide +kernel)
theorem ml_X8_334 : Cond.methodLink RX8 334 yX8_flaw ∈ gw_tbl := mw (i := 811) (by decide +kernel) (by decide +kernel)
theorem ml_X8_337 : Cond.methodLink RX8 337 yX8_mixedTablature ∈ gw_tbl := mw (i := 812) (by decide +kernel) (by decide +kernel)
theorem mv_X8_mixedTablature : MV yX8_mixedTablature 8 cX8_mixedTablature 6 (some .long) 1 := ⟨by decide, ⟨rfl, by decide, by decide, by decide +kernel⟩, mw (i := 814) (by decide +kernel) (by decide +kernel), ms (i := 36) (by decide +kernel) (by decide +kernel), mw (i := 1) (by decide +kernel) (by decide +kernel), mw (i := 815) (by decide +kernel) (by decide +kernel)⟩
theorem mv_X8_flaw : MV yX8_flaw 8 cX8_flaw 1 (some .int) 0 := ⟨by decide, ⟨rfl, by decide, by decide, by decide +kernel⟩, mw (i := 686) (by decide +kernel) (by decide +kernel), mw (i := 687) (by decide +kernel) (by decide +kernel), mw (i := 1) (by decide +kernel) (by decide +kernel), mw (i := 688) (by decide +kernel) (by decide +kernel)⟩
theorem mv_X8_easiest : MV yX8_easiest 8 cX8_easiest 8 (some .int) 1 := ⟨by decide, ⟨rfl, by decide, by decide, by decide +kernel⟩, mw (i := 627) (by decide +kernel) (by decide +kernel), mw (i := 628) (by decide +kernel) (by decide +kernel), mw (i := 1) (by decide +kernel) (by decide +kernel), mw (i := 629) (by decide +kernel) (by decide +kernel)⟩
theorem ml_X8_328 : Cond.methodLink RX8 328 yX8_key ∈ gw_tbl := mw (i := 809) (by decide +kernel) (by decide +kernel)
theorem mv_X8_key : MV yX8_key 8 cX8_key 4 (some .int) 1 := ⟨by decide, ⟨rfl, by decide, by decide, by decide +kernel⟩, mw (i := 623) (by decide +kernel) (by decide +kernel), mw (i := 624) (by decide +kernel) (by decide +kernel), mw (i := 1) (by decide +kernel) (by decide +kernel), mw (i := 625) (by decide +kernel) (by decide +kernel)⟩
theorem ml_X8_321 : Cond.methodLink RX8 321 yX8_mixedNotes ∈ gw_tbl := mw (i := 799) (by decide +kernel) (by decide +kernel)
theorem ml_X8_325 : Cond.methodLink RX8 325 yX8_mixedChords ∈ gw_tbl := mw (i := 804) (by decide +kernel) (by decide +kernel)
theorem mv_X8_mixedChords : MV yX8_mixedChords 8 cX8_mixedChords 7 (some .long) 1 := ⟨by decide, ⟨rfl, by decide, by decide, by decide +kernel⟩, mw (i := 806) (by decide +kernel) (by decide +kernel), ms (i := 35) (by decide +kernel) (by decide +kernel), mw (i := 1) (by decide +kernel) (by decide +kernel), mw (i := 807) (by decide +kernel) (by decide +kernel)⟩
theorem mv_X8_mixedNotes : MV yX8_mixedNotes 8 cX8_mixedNotes 7 (some .long) 1 := ⟨by decide, ⟨rfl, by decide, by decide, by decide +kernel⟩, mw (i := 801) (by decide +kernel) (by decide +kernel), ms (i := 34) (by decide +kernel) (by decide +kernel), mw (i := 1) (by decide +kernel) (by decide +kernel), mw (i := 802) (by decide +kernel) (by decide +kernel)⟩
theorem ml_X8_306 : Cond.methodLink RX8 306 yX8_least ∈ gw_tbl := mw (i := 794) (by decide +kernel) (by decide +kernel)
theorem ml_X8_309 : Cond.methodLink RX8 309 yX8_fault ∈ gw_tbl := mw (i := 795) (by decide +kernel) (by decide +kernel)
theorem ml_X8_312 : Cond.methodLink RX8 312 yX8_cost ∈ gw_tbl := mw (i := 796) (by decide +kernel) (by decide +kernel)
theorem mv_X8_cost : MV yX8_cost 8 cX8_cost 1 (some .int) 0 := ⟨by decide, ⟨rfl, by decide, by decide, by decide +kernel⟩, mw (i := 586) (by decide +kernel) (by decide +kernel), mw (i := 587) (by decide +kernel) (by decide +kernel), mw (i := 1) (by decide +kernel) (by decide +kernel), mw (i := 588) (by decide +kernel) (by decide +kernel)⟩
theorem mv_X8_fault : MV yX8_fault 8 cX8_fault 3 (some .int) 0 := ⟨by decide, ⟨rfl, by decide, by decide, by decide +kernel⟩, mw (i := 553) (by decide +kernel) (by decide +kernel), mw (i := 554) (by decide +kernel) (by decide +kernel), mw (i := 1) (by decide +kernel) (by decide +kernel), mw (i := 555) (by decide +kernel) (by decide +kernel)⟩
theorem mv_X8_least : MV yX8_least 8 cX8_least 3 (some .int) 0 := ⟨by decide, ⟨rfl, by decide, by decide, by decide +kernel⟩, mw (i := 461) (by decide +kernel) (by decide +kernel), mw (i := 462) (by decide +kernel) (by decide +kernel), mw (i := 1) (by decide +kernel) (by decide +kernel), mw (i := 463) (by decide +kernel) (by decide +kernel)⟩
theorem ml_X8_299 : Cond.methodLink RX8 299 yX8_count ∈ gw_tbl := mw (i := 789) (by decide +kernel) (by decide +kernel)
theorem mv_X8_count : MV yX8_count 8 cX8_count 2 (some .int) 1 := ⟨by decide, ⟨rfl, by decide, by decide, by decide +kernel⟩, mw (i := 781) (by decide +kernel) (by decide +kernel), mw (i := 782) (by decide +kernel) (by decide +kernel), mw (i := 1) (by decide +kernel) (by decide +kernel), mw (i := 783) (by decide +kernel) (by decide +kernel)⟩
theorem kc_X8_297 : Cond.constantLong RX8 297 (17 : Int64) ∈ gw_tbl := mw (i := 788) (by decide +kernel) (by decide +kernel)
theorem kc_X9_109 : Cond.constantLong RX9 109 (-9223372036854775808 : Int64) ∈ gw_tbl := mw (i := 1303) (by decide +kernel) (by decide +kernel)
theorem fl_X9_47 : FL RX9 47 9 14 := ⟨by decide, by decide, mw (i := 838) (by decide +kernel) (by decide +kernel)⟩
theorem fk_9_14 : fk 9 14 = 12 := by decide +kernel
theorem fl_X9_111 : FL RX9 111 9 12 := ⟨by decide, by decide, mw (i := 836) (by decide +kernel) (by decide +kernel)⟩
theorem ml_X9_115 : Cond.methodLink RX9 115 yX9_in ∈ gw_tbl := mw (i := 976) (by decide +kernel) (by decide +kernel)
theorem fl_X9_7 : FL RX9 7 9 0 := ⟨by decide, by decide, mw (i := 824) (by decide +kernel) (by decide +kernel)⟩
theorem ml_X9_119 : Cond.methodLink RX9 119 yX9_forgets ∈ gw_tbl := mw (i := 979) (by decide +kernel) (by decide +kernel)
theorem mv_X9_forgets : MV yX9_forgets 9 cX9_forgets 2 none 0 := ⟨by decide, ⟨rfl, by decide, by decide, by decide +kernel⟩, mw (i := 981) (by decide +kernel) (by decide +kernel), ms (i := 37) (by decide +kernel) (by decide +kernel), mw (i := 10) (by decide +kernel) (by decide +kernel), mw (i := 982) (by decide +kernel) (by decide +kernel)⟩
theorem mst_X9_in : MS yX9_in cX9_in 3 (some .boolean) 3 := ⟨⟨by decide, by decide, by decide +kernel⟩, mw (i := 977) (by decide +kernel) (by decide +kernel), mw (i := 10) (by decide +kernel) (by decide +kernel), mw (i := 978) (by decide +kernel) (by decide +kernel)⟩
theorem ml_X9_122 : Cond.methodLink RX9 122 yX9_isCourse ∈ gw_tbl := mw (i := 987) (by decide +kernel) (by decide +kernel)
theorem fl_X9_13 : FL RX9 13 9 1 := ⟨by decide, by decide, mw (i := 825) (by decide +kernel) (by decide +kernel)⟩
theorem fk_9_1 : fk 9 1 = 10 := by decide +kernel
theorem mv_X9_isCourse : MV yX9_isCourse 9 cX9_isCourse 2 (some .boolean) 1 := ⟨by decide, ⟨rfl, by decide, by decide, by decide +kernel⟩, mw (i := 989) (by decide +kernel) (by decide +kernel), ms (i := 38) (by decide +kernel) (by decide +kernel), mw (i := 10) (by decide +kernel) (by decide +kernel), mw (i := 990) (by decide +kernel) (by decide +kernel)⟩
theorem fl_X9_29 : FL RX9 29 9 6 := ⟨by decide, by decide, mw (i := 830) (by decide +kernel) (by decide +kernel)⟩
theorem fl_X9_26 : FL RX9 26 9 5 := ⟨by decide, by decide, mw (i := 829) (by decide +kernel) (by decide +kernel)⟩
theorem fl_X9_23 : FL RX9 23 9 4 := ⟨by decide, by decide, mw (i := 828) (by decide +kernel) (by decide +kernel)⟩
theorem fl_X9_20 : FL RX9 20 9 3 := ⟨by decide, by decide, mw (i := 827) (by decide +kernel) (by decide +kernel)⟩
theorem fl_X9_17 : FL RX9 17 9 2 := ⟨by decide, by decide, mw (i := 826) (by decide +kernel) (by decide +kernel)⟩
theorem ml_X9_126 : Cond.methodLink RX9 126 yX9_settingOf ∈ gw_tbl := mw (i := 995) (by decide +kernel) (by decide +kernel)
theorem mv_X9_settingOf : MV yX9_settingOf 9 cX9_settingOf 2 (some .int) 1 := ⟨by decide, ⟨rfl, by decide, by decide, by decide +kernel⟩, mw (i := 997) (by decide +kernel) (by decide +kernel), ms (i := 39) (by decide +kernel) (by decide +kernel), mw (i := 10) (by decide +kernel) (by decide +kernel), mw (i := 998) (by decide +kernel) (by decide +kernel)⟩
theorem fl_X9_130 : FL RX9 130 9 10 := ⟨by decide, by decide, mw (i := 834) (by decide +kernel) (by decide +kernel)⟩
theorem fl_X9_32 : FL RX9 32 9 7 := ⟨by decide, by decide, mw (i := 831) (by decide +kernel) (by decide +kernel)⟩
theorem fk_9_7 : fk 9 7 = 10 := by decide +kernel
theorem fl_X9_35 : FL RX9 35 9 8 := ⟨by decide, by decide, mw (i := 832) (by decide +kernel) (by decide +kernel)⟩
theorem fk_9_8 : fk 9 8 = 10 := by decide +kernel
theorem fl_X9_38 : FL RX9 38 9 9 := ⟨by decide, by decide, mw (i := 833) (by decide +kernel) (by decide +kernel)⟩
theorem fk_9_9 : fk 9 9 = 10 := by decide +kernel
theorem fl_X9_41 : FL RX9 41 9 11 := ⟨by decide, by decide, mw (i := 835) (by decide +kernel) (by decide +kernel)⟩
theorem fk_9_11 : fk 9 11 = 10 := by decide +kernel
theorem ml_X9_133 : Cond.methodLink RX9 133 yX9_beginAt ∈ gw_tbl := mw (i := 1007) (by decide +kernel) (by decide +kernel)
theorem ml_X9_136 : Cond.methodLink RX9 136 yX9_puts ∈ gw_tbl := mw (i := 1011) (by decide +kernel) (by decide +kernel)
theorem mv_X9_puts : MV yX9_puts 9 cX9_puts 5 (some .int) 3 := ⟨by decide, ⟨rfl, by decide, by decide, by decide +kernel⟩, mw (i := 1013) (by decide +kernel) (by decide +kernel), ms (i := 42) (by decide +kernel) (by decide +kernel), mw (i := 10) (by decide +kernel) (by decide +kernel), mw (i := 1014) (by decide +kernel) (by decide +kernel)⟩
theorem mv_X9_beginAt : MV yX9_beginAt 9 cX9_beginAt 4 (some .int) 1 := ⟨by decide, ⟨rfl, by decide, by decide, by decide +kernel⟩, mw (i := 1009) (by decide +kernel) (by decide +kernel), ms (i := 41) (by decide +kernel) (by decide +kernel), mw (i := 10) (by decide +kernel) (by decide +kernel), mw (i := 1010) (by decide +kernel) (by decide +kernel)⟩
theorem ml_X9_140 : Cond.methodLink RX9 140 yX9_adds ∈ gw_tbl := mw (i := 1003) (by decide +kernel) (by decide +kernel)
theorem mv_X9_adds : MV yX9_adds 9 cX9_adds 4 (some .int) 3 := ⟨by decide, ⟨rfl, by decide, by decide, by decide +kernel⟩, mw (i := 1005) (by decide +kernel) (by decide +kernel), ms (i := 40) (by decide +kernel) (by decide +kernel), mw (i := 10) (by decide +kernel) (by decide +kernel), mw (i := 1006) (by decide +kernel) (by decide +kernel)⟩
theorem ml_X9_143 : Cond.methodLink RX9 143 yX9_isNote ∈ gw_tbl := mw (i := 1019) (by decide +kernel) (by decide +kernel)
theorem mv_X9_isNote : MV yX9_isNote 9 cX9_isNote 2 (some .boolean) 1 := ⟨by decide, ⟨rfl, by decide, by decide, by decide +kernel⟩, mw (i := 1021) (by decide +kernel) (by decide +kernel), ms (i := 43) (by decide +kernel) (by decide +kernel), mw (i := 10) (by decide +kernel) (by decide +kernel), mw (i := 1022) (by decide +kernel) (by decide +kernel)⟩
theorem fl_X9_102 : FL RX9 102 9 46 := ⟨by decide, by decide, mw (i := 870) (by decide +kernel) (by decide +kernel)⟩
theorem fk_9_46 : fk 9 46 = 11 := by decide +kernel
theorem kc_X9_146 : Cond.constantLong RX9 146 (200 : Int64) ∈ gw_tbl := mw (i := 1042) (by decide +kernel) (by decide +kernel)
theorem fl_X9_325 : FL RX9 325 9 48 := ⟨by decide, by decide, mw (i := 872) (by decide +kernel) (by decide +kernel)⟩
theorem fl_X9_99 : FL RX9 99 9 45 := ⟨by decide, by decide, mw (i := 869) (by decide +kernel) (by decide +kernel)⟩
theorem fk_9_45 : fk 9 45 = 10 := by decide +kernel
theorem ml_X9_154 : Cond.methodLink RX9 154 yX9_small ∈ gw_tbl := mw (i := 1038) (by decide +kernel) (by decide +kernel)
theorem mv_X9_small : MV yX9_small 9 cX9_small 2 (some .int) 1 := ⟨by decide, ⟨rfl, by decide, by decide, by decide +kernel⟩, mw (i := 1040) (by decide +kernel) (by decide +kernel), ms (i := 45) (by decide +kernel) (by decide +kernel), mw (i := 10) (by decide +kernel) (by decide +kernel), mw (i := 1041) (by decide +kernel) (by decide +kernel)⟩
theorem ml_X9_148 : Cond.methodLink RX9 148 yX9_isSheet ∈ gw_tbl := mw (i := 1031) (by decide +kernel) (by decide +kernel)
theorem fl_X9_96 : FL RX9 96 9 44 := ⟨by decide, by decide, mw (i := 868) (by decide +kernel) (by decide +kernel)⟩
theorem fk_9_44 : fk 9 44 = 10 := by decide +kernel
theorem ml_X9_151 : Cond.methodLink RX9 151 yX9_meets ∈ gw_tbl := mw (i := 1034) (by decide +kernel) (by decide +kernel)
theorem mv_X9_meets : MV yX9_meets 9 cX9_meets 2 (some .int) 1 := ⟨by decide, ⟨rfl, by decide, by decide, by decide +kernel⟩, mw (i := 1036) (by decide +kernel) (by decide +kernel), ms (i := 44) (by decide +kernel) (by decide +kernel), mw (i := 10) (by decide +kernel) (by decide +kernel), mw (i := 1037) (by decide +kernel) (by decide +kernel)⟩
theorem mst_X9_isSheet : MS yX9_isSheet cX9_isSheet 1 (some .boolean) 1 := ⟨⟨by decide, by decide, by decide +kernel⟩, mw (i := 1032) (by decide +kernel) (by decide +kernel), mw (i := 10) (by decide +kernel) (by decide +kernel), mw (i := 1033) (by decide +kernel) (by decide +kernel)⟩
theorem fl_X9_51 : FL RX9 51 9 15 := ⟨by decide, by decide, mw (i := 839) (by decide +kernel) (by decide +kernel)⟩
theorem fk_9_15 : fk 9 15 = 10 := by decide +kernel
theorem fl_X9_157 : FL RX9 157 9 16 := ⟨by decide, by decide, mw (i := 840) (by decide +kernel) (by decide +kernel)⟩
theorem fl_X9_54 : FL RX9 54 9 17 := ⟨by decide, by decide, mw (i := 841) (by decide +kernel) (by decide +kernel)⟩
theorem fk_9_17 : fk 9 17 = 10 := by decide +kernel
theorem fl_X9_57 : FL RX9 57 9 18 := ⟨by decide, by decide, mw (i := 842) (by decide +kernel) (by decide +kernel)⟩
theorem fk_9_18 : fk 9 18 = 10 := by decide +kernel
theorem ml_X9_160 : Cond.methodLink RX9 160 yX9_findsChords ∈ gw_tbl := mw (i := 1055) (by decide +kernel) (by decide +kernel)
theorem mv_X9_findsChords : MV yX9_findsChords 9 cX9_findsChords 3 none 0 := ⟨by decide, ⟨rfl, by decide, by decide, by decide +kernel⟩, mw (i := 1057) (by decide +kernel) (by decide +kernel), ms (i := 48) (by decide +kernel) (by decide +kernel), mw (i := 10) (by decide +kernel) (by decide +kernel), mw (i := 1058) (by decide +kernel) (by decide +kernel)⟩
theorem fl_X9_163 : FL RX9 163 9 20 := ⟨by decide, by decide, mw (i := 844) (by decide +kernel) (by decide +kernel)⟩
theorem fl_X9_60 : FL RX9 60 9 19 := ⟨by decide, by decide, mw (i := 843) (by decide +kernel) (by decide +kernel)⟩
theorem fk_9_19 : fk 9 19 = 10 := by decide +kernel
theorem fl_X9_172 : FL RX9 172 9 26 := ⟨by decide, by decide, mw (i := 850) (by decide +kernel) (by decide +kernel)⟩
theorem fl_X9_169 : FL RX9 169 9 22 := ⟨by decide, by decide, mw (i := 846) (by decide +kernel) (by decide +kernel)⟩
theorem fl_X9_166 : FL RX9 166 9 21 := ⟨by decide, by decide, mw (i := 845) (by decide +kernel) (by decide +kernel)⟩
theorem ml_X9_175 : Cond.methodLink RX9 175 yX9_fretOf ∈ gw_tbl := mw (i := 1086) (by decide +kernel) (by decide +kernel)
theorem mv_X9_fretOf : MV yX9_fretOf 9 cX9_fretOf 2 (some .int) 1 := ⟨by decide, ⟨rfl, by decide, by decide, by decide +kernel⟩, mw (i := 1088) (by decide +kernel) (by decide +kernel), ms (i := 55) (by decide +kernel) (by decide +kernel), mw (i := 10) (by decide +kernel) (by decide +kernel), mw (i := 1089) (by decide +kernel) (by decide +kernel)⟩
theorem fl_X9_178 : FL RX9 178 9 23 := ⟨by decide, by decide, mw (i := 847) (by decide +kernel) (by decide +kernel)⟩
theorem fl_X9_188 : FL RX9 188 9 24 := ⟨by decide, by decide, mw (i := 848) (by decide +kernel) (by decide +kernel)⟩
theorem fl_X9_191 : FL RX9 191 9 25 := ⟨by decide, by decide, mw (i := 849) (by decide +kernel) (by decide +kernel)⟩
theorem ml_X9_181 : Cond.methodLink RX9 181 yX9_findsLow ∈ gw_tbl := mw (i := 1082) (by decide +kernel) (by decide +kernel)
theorem ml_X9_185 : Cond.methodLink RX9 185 yX9_findsBar ∈ gw_tbl := mw (i := 1090) (by decide +kernel) (by decide +kernel)
theorem mv_X9_findsBar : MV yX9_findsBar 9 cX9_findsBar 8 none 1 := ⟨by decide, ⟨rfl, by decide, by decide, by decide +kernel⟩, mw (i := 1092) (by decide +kernel) (by decide +kernel), ms (i := 56) (by decide +kernel) (by decide +kernel), mw (i := 10) (by decide +kernel) (by decide +kernel), mw (i := 1093) (by decide +kernel) (by decide +kernel)⟩
theorem mv_X9_findsLow : MV yX9_findsLow 9 cX9_findsLow 5 none 1 := ⟨by decide, ⟨rfl, by decide, by decide, by decide +kernel⟩, mw (i := 1084) (by decide +kernel) (by decide +kernel), ms (i := 54) (by decide +kernel) (by decide +kernel), mw (i := 10) (by decide +kernel) (by decide +kernel), mw (i := 1085) (by decide +kernel) (by decide +kernel)⟩
theorem ml_X9_197 : Cond.methodLink RX9 197 yX9_isOnCourse ∈ gw_tbl := mw (i := 1063) (by decide +kernel) (by decide +kernel)
theorem mv_X9_isOnCourse : MV yX9_isOnCourse 9 cX9_isOnCourse 2 (some .boolean) 1 := ⟨by decide, ⟨rfl, by decide, by decide, by decide +kernel⟩, mw (i := 1065) (by decide +kernel) (by decide +kernel), ms (i := 50) (by decide +kernel) (by decide +kernel), mw (i := 10) (by decide +kernel) (by decide +kernel), mw (i := 1066) (by decide +kernel) (by decide +kernel)⟩
theorem ml_X9_194 : Cond.methodLink RX9 194 yX9_looks ∈ gw_tbl := mw (i := 1078) (by decide +kernel) (by decide +kernel)
theorem mv_X9_looks : MV yX9_looks 9 cX9_looks 5 none 1 := ⟨by decide, ⟨rfl, by decide, by decide, by decide +kernel⟩, mw (i := 1080) (by decide +kernel) (by decide +kernel), ms (i := 53) (by decide +kernel) (by decide +kernel), mw (i := 10) (by decide +kernel) (by decide +kernel), mw (i := 1081) (by decide +kernel) (by decide +kernel)⟩
theorem ml_X9_200 : Cond.methodLink RX9 200 yX9_courseIn ∈ gw_tbl := mw (i := 1071) (by decide +kernel) (by decide +kernel)
theorem mst_X9_courseIn : MS yX9_courseIn cX9_courseIn 2 (some .int) 2 := ⟨⟨by decide, by decide, by decide +kernel⟩, mw (i := 1072) (by decide +kernel) (by decide +kernel), mw (i := 10) (by decide +kernel) (by decide +kernel), mw (i := 1073) (by decide +kernel) (by decide +kernel)⟩
theorem ml_X9_208 : Cond.methodLink RX9 208 yX9_isGood ∈ gw_tbl := mw (i := 1074) (by decide +kernel) (by decide +kernel)
theorem fl_X9_66 : FL RX9 66 9 28 := ⟨by decide, by decide, mw (i := 852) (by decide +kernel) (by decide +kernel)⟩
theorem fk_9_28 : fk 9 28 = 10 := by decide +kernel
theorem fl_X9_63 : FL RX9 63 9 27 := ⟨by decide, by decide, mw (i := 851) (by decide +kernel) (by decide +kernel)⟩
theorem fk_9_27 : fk 9 27 = 10 := by decide +kernel
theorem fl_X9_69 : FL RX9 69 9 29 := ⟨by decide, by decide, mw (i := 853) (by decide +kernel) (by decide +kernel)⟩
theorem fk_9_29 : fk 9 29 = 10 := by decide +kernel
theorem fl_X9_72 : FL RX9 72 9 30 := ⟨by decide, by decide, mw (i := 854) (by decide +kernel) (by decide +kernel)⟩
theorem fk_9_30 : fk 9 30 = 10 := by decide +kernel
theorem ml_X9_211 : Cond.methodLink RX9 211 yX9_ownCost ∈ gw_tbl := mw (i := 1094) (by decide +kernel) (by decide +kernel)
theorem mv_X9_ownCost : MV yX9_ownCost 9 cX9_ownCost 1 (some .int) 0 := ⟨by decide, ⟨rfl, by decide, by decide, by decide +kernel⟩, mw (i := 1096) (by decide +kernel) (by decide +kernel), ms (i := 57) (by decide +kernel) (by decide +kernel), mw (i := 10) (by decide +kernel) (by decide +kernel), mw (i := 1097) (by decide +kernel) (by decide +kernel)⟩
theorem mv_X9_isGood : MV yX9_isGood 9 cX9_isGood 4 (some .boolean) 1 := ⟨by decide, ⟨rfl, by decide, by decide, by decide +kernel⟩, mw (i := 1076) (by decide +kernel) (by decide +kernel), ms (i := 52) (by decide +kernel) (by decide +kernel), mw (i := 10) (by decide +kernel) (by decide +kernel), mw (i := 1077) (by decide +kernel) (by decide +kernel)⟩
theorem ml_X9_204 : Cond.methodLink RX9 204 yX9_layWay ∈ gw_tbl := mw (i := 1067) (by decide +kernel) (by decide +kernel)
theorem mv_X9_layWay : MV yX9_layWay 9 cX9_layWay 4 none 2 := ⟨by decide, ⟨rfl, by decide, by decide, by decide +kernel⟩, mw (i := 1069) (by decide +kernel) (by decide +kernel), ms (i := 51) (by decide +kernel) (by decide +kernel), mw (i := 10) (by decide +kernel) (by decide +kernel), mw (i := 1070) (by decide +kernel) (by decide +kernel)⟩
theorem fl_X9_78 : FL RX9 78 9 32 := ⟨by decide, by decide, mw (i := 856) (by decide +kernel) (by decide +kernel)⟩
theorem fk_9_32 : fk 9 32 = 10 := by decide +kernel
theorem fl_X9_84 : FL RX9 84 9 34 := ⟨by decide, by decide, mw (i := 858) (by decide +kernel) (by decide +kernel)⟩
theorem fk_9_34 : fk 9 34 = 10 := by decide +kernel
theorem fl_X9_81 : FL RX9 81 9 33 := ⟨by decide, by decide, mw (i := 857) (by decide +kernel) (by decide +kernel)⟩
theorem fk_9_33 : fk 9 33 = 10 := by decide +kernel
theorem ml_X9_215 : Cond.methodLink RX9 215 yX9_goesOn ∈ gw_tbl := mw (i := 1111) (by decide +kernel) (by decide +kernel)
theorem kc_X9_221 : Cond.constant RX9 221 (1000000 : Int32) ∈ gw_tbl := mw (i := 1106) (by decide +kernel) (by decide +kernel)
theorem fl_X9_75 : FL RX9 75 9 31 := ⟨by decide, by decide, mw (i := 855) (by decide +kernel) (by decide +kernel)⟩
theorem fk_9_31 : fk 9 31 = 10 := by decide +kernel
theorem ml_X9_218 : Cond.methodLink RX9 218 yX9_shiftCost ∈ gw_tbl := mw (i := 1115) (by decide +kernel) (by decide +kernel)
theorem mv_X9_shiftCost : MV yX9_shiftCost 9 cX9_shiftCost 3 (some .int) 2 := ⟨by decide, ⟨rfl, by decide, by decide, by decide +kernel⟩, mw (i := 1117) (by decide +kernel) (by decide +kernel), ms (i := 62) (by decide +kernel) (by decide +kernel), mw (i := 10) (by decide +kernel) (by decide +kernel), mw (i := 1118) (by decide +kernel) (by decide +kernel)⟩
theorem mv_X9_goesOn : MV yX9_goesOn 9 cX9_goesOn 6 (some .boolean) 3 := ⟨by decide, ⟨rfl, by decide, by decide, by decide +kernel⟩, mw (i := 1113) (by decide +kernel) (by decide +kernel), ms (i := 61) (by decide +kernel) (by decide +kernel), mw (i := 10) (by decide +kernel) (by decide +kernel), mw (i := 1114) (by decide +kernel) (by decide +kernel)⟩
theorem ml_X9_222 : Cond.methodLink RX9 222 yX9_joined ∈ gw_tbl := mw (i := 1107) (by decide +kernel) (by decide +kernel)
theorem mv_X9_joined : MV yX9_joined 9 cX9_joined 4 (some .int) 3 := ⟨by decide, ⟨rfl, by decide, by decide, by decide +kernel⟩, mw (i := 1109) (by decide +kernel) (by decide +kernel), ms (i := 60) (by decide +kernel) (by decide +kernel), mw (i := 10) (by decide +kernel) (by decide +kernel), mw (i := 1110) (by decide +kernel) (by decide +kernel)⟩
theorem ml_X9_231 : Cond.methodLink RX9 231 yX9_findsRest ∈ gw_tbl := mw (i := 1102) (by decide +kernel) (by decide +kernel)
theorem mv_X9_findsRest : MV yX9_findsRest 9 cX9_findsRest 6 none 1 := ⟨by decide, ⟨rfl, by decide, by decide, by decide +kernel⟩, mw (i := 1104) (by decide +kernel) (by decide +kernel), ms (i := 59) (by decide +kernel) (by decide +kernel), mw (i := 10) (by decide +kernel) (by decide +kernel), mw (i := 1105) (by decide +kernel) (by decide +kernel)⟩
theorem ml_X9_225 : Cond.methodLink RX9 225 yX9_findsWays ∈ gw_tbl := mw (i := 1059) (by decide +kernel) (by decide +kernel)
theorem ml_X9_228 : Cond.methodLink RX9 228 yX9_findsShared ∈ gw_tbl := mw (i := 1098) (by decide +kernel) (by decide +kernel)
theorem mv_X9_findsShared : MV yX9_findsShared 9 cX9_findsShared 4 none 1 := ⟨by decide, ⟨rfl, by decide, by decide, by decide +kernel⟩, mw (i := 1100) (by decide +kernel) (by decide +kernel), ms (i := 58) (by decide +kernel) (by decide +kernel), mw (i := 10) (by decide +kernel) (by decide +kernel), mw (i := 1101) (by decide +kernel) (by decide +kernel)⟩
theorem mv_X9_findsWays : MV yX9_findsWays 9 cX9_findsWays 10 none 2 := ⟨by decide, ⟨rfl, by decide, by decide, by decide +kernel⟩, mw (i := 1061) (by decide +kernel) (by decide +kernel), ms (i := 49) (by decide +kernel) (by decide +kernel), mw (i := 10) (by decide +kernel) (by decide +kernel), mw (i := 1062) (by decide +kernel) (by decide +kernel)⟩
theorem ml_X9_234 : Cond.methodLink RX9 234 yX9_leastBy ∈ gw_tbl := mw (i := 1051) (by decide +kernel) (by decide +kernel)
theorem mv_X9_leastBy : MV yX9_leastBy 9 cX9_leastBy 5 (some .int) 2 := ⟨by decide, ⟨rfl, by decide, by decide, by decide +kernel⟩, mw (i := 1053) (by decide +kernel) (by decide +kernel), ms (i := 47) (by decide +kernel) (by decide +kernel), mw (i := 10) (by decide +kernel) (by decide +kernel), mw (i := 1054) (by decide +kernel) (by decide +kernel)⟩
theorem ml_X9_237 : Cond.methodLink RX9 237 yX9_leastNow ∈ gw_tbl := mw (i := 1047) (by decide +kernel) (by decide +kernel)
theorem mv_X9_leastNow : MV yX9_leastNow 9 cX9_leastNow 1 (some .int) 0 := ⟨by decide, ⟨rfl, by decide, by decide, by decide +kernel⟩, mw (i := 1049) (by decide +kernel) (by decide +kernel), ms (i := 46) (by decide +kernel) (by decide +kernel), mw (i := 10) (by decide +kernel) (by decide +kernel), mw (i := 1050) (by decide +kernel) (by decide +kernel)⟩
theorem fl_X9_87 : FL RX9 87 9 35 := ⟨by decide, by decide, mw (i := 859) (by decide +kernel) (by decide +kernel)⟩
theorem fk_9_35 : fk 9 35 = 12 := by decide +kernel
theorem ml_X9_240 : Cond.methodLink RX9 240 yX9_faultNow ∈ gw_tbl := mw (i := 1123) (by decide +kernel) (by decide +kernel)
theorem mv_X9_faultNow : MV yX9_faultNow 9 cX9_faultNow 6 (some .int) 0 := ⟨by decide, ⟨rfl, by decide, by decide, by decide +kernel⟩, mw (i := 1125) (by decide +kernel) (by decide +kernel), ms (i := 63) (by decide +kernel) (by decide +kernel), mw (i := 10) (by decide +kernel) (by decide +kernel), mw (i := 1126) (by decide +kernel) (by decide +kernel)⟩
theorem ml_X9_243 : Cond.methodLink RX9 243 yX9_laysAll ∈ gw_tbl := mw (i := 1143) (by decide +kernel) (by decide +kernel)
theorem mv_X9_laysAll : MV yX9_laysAll 9 cX9_laysAll 2 none 0 := ⟨by decide, ⟨rfl, by decide, by decide, by decide +kernel⟩, mw (i := 1145) (by decide +kernel) (by decide +kernel), ms (i := 65) (by decide +kernel) (by decide +kernel), mw (i := 10) (by decide +kernel) (by decide +kernel), mw (i := 1146) (by decide +kernel) (by decide +kernel)⟩
theorem ml_X9_246 : Cond.methodLink RX9 246 yX9_wrongNow ∈ gw_tbl := mw (i := 1139) (by decide +kernel) (by decide +kernel)
theorem mv_X9_wrongNow : MV yX9_wrongNow 9 cX9_wrongNow 3 (some .int) 0 := ⟨by decide, ⟨rfl, by decide, by decide, by decide +kernel⟩, mw (i := 1141) (by decide +kernel) (by decide +kernel), ms (i := 64) (by decide +kernel) (by decide +kernel), mw (i := 10) (by decide +kernel) (by decide +kernel), mw (i := 1142) (by decide +kernel) (by decide +kernel)⟩
theorem ml_X9_249 : Cond.methodLink RX9 249 yX9_costOf ∈ gw_tbl := mw (i := 1155) (by decide +kernel) (by decide +kernel)
theorem mv_X9_costOf : MV yX9_costOf 9 cX9_costOf 3 (some .int) 1 := ⟨by decide, ⟨rfl, by decide, by decide, by decide +kernel⟩, mw (i := 1157) (by decide +kernel) (by decide +kernel), ms (i := 67) (by decide +kernel) (by decide +kernel), mw (i := 10) (by decide +kernel) (by decide +kernel), mw (i := 1158) (by decide +kernel) (by decide +kernel)⟩
theorem ml_X9_252 : Cond.methodLink RX9 252 yX9_costNow ∈ gw_tbl := mw (i := 1151) (by decide +kernel) (by decide +kernel)
theorem mv_X9_costNow : MV yX9_costNow 9 cX9_costNow 3 (some .int) 0 := ⟨by decide, ⟨rfl, by decide, by decide, by decide +kernel⟩, mw (i := 1153) (by decide +kernel) (by decide +kernel), ms (i := 66) (by decide +kernel) (by decide +kernel), mw (i := 10) (by decide +kernel) (by decide +kernel), mw (i := 1154) (by decide +kernel) (by decide +kernel)⟩
theorem ml_X9_255 : Cond.methodLink RX9 255 yX9_chordOf ∈ gw_tbl := mw (i := 1167) (by decide +kernel) (by decide +kernel)
theorem mv_X9_chordOf : MV yX9_chordOf 9 cX9_chordOf 4 (some .int) 1 := ⟨by decide, ⟨rfl, by decide, by decide, by decide +kernel⟩, mw (i := 1169) (by decide +kernel) (by decide +kernel), ms (i := 69) (by decide +kernel) (by decide +kernel), mw (i := 10) (by decide +kernel) (by decide +kernel), mw (i := 1170) (by decide +kernel) (by decide +kernel)⟩
theorem ml_X9_258 : Cond.methodLink RX9 258 yX9_coursesFor ∈ gw_tbl := mw (i := 1171) (by decide +kernel) (by decide +kernel)
theorem mv_X9_coursesFor : MV yX9_coursesFor 9 cX9_coursesFor 4 (some .int) 1 := ⟨by decide, ⟨rfl, by decide, by decide, by decide +kernel⟩, mw (i := 1173) (by decide +kernel) (by decide +kernel), ms (i := 70) (by decide +kernel) (by decide +kernel), mw (i := 10) (by decide +kernel) (by decide +kernel), mw (i := 1174) (by decide +kernel) (by decide +kernel)⟩
theorem ml_X9_261 : Cond.methodLink RX9 261 yX9_infoOf ∈ gw_tbl := mw (i := 1163) (by decide +kernel) (by decide +kernel)
theorem mv_X9_infoOf : MV yX9_infoOf 9 cX9_infoOf 3 (some .int) 2 := ⟨by decide, ⟨rfl, by decide, by decide, by decide +kernel⟩, mw (i := 1165) (by decide +kernel) (by decide +kernel), ms (i := 68) (by decide +kernel) (by decide +kernel), mw (i := 10) (by decide +kernel) (by decide +kernel), mw (i := 1166) (by decide +kernel) (by decide +kernel)⟩
theorem ml_X9_264 : Cond.methodLink RX9 264 yX9_courseOf ∈ gw_tbl := mw (i := 1179) (by decide +kernel) (by decide +kernel)
theorem mv_X9_courseOf : MV yX9_courseOf 9 cX9_courseOf 6 (some .int) 2 := ⟨by decide, ⟨rfl, by decide, by decide, by decide +kernel⟩, mw (i := 1181) (by decide +kernel) (by decide +kernel), ms (i := 71) (by decide +kernel) (by decide +kernel), mw (i := 10) (by decide +kernel) (by decide +kernel), mw (i := 1182) (by decide +kernel) (by decide +kernel)⟩
theorem ml_X9_267 : Cond.methodLink RX9 267 yX9_chordBy ∈ gw_tbl := mw (i := 1187) (by decide +kernel) (by decide +kernel)
theorem mv_X9_chordBy : MV yX9_chordBy 9 cX9_chordBy 4 (some .int) 2 := ⟨by decide, ⟨rfl, by decide, by decide, by decide +kernel⟩, mw (i := 1189) (by decide +kernel) (by decide +kernel), ms (i := 72) (by decide +kernel) (by decide +kernel), mw (i := 10) (by decide +kernel) (by decide +kernel), mw (i := 1190) (by decide +kernel) (by decide +kernel)⟩
theorem kc_X9_270 : Cond.constant RX9 270 (-2147483648 : Int32) ∈ gw_tbl := mw (i := 1207) (by decide +kernel) (by decide +kernel)
theorem ml_X9_271 : Cond.methodLink RX9 271 yX9_easiestOf ∈ gw_tbl := mw (i := 1203) (by decide +kernel) (by decide +kernel)
theorem mv_X9_easiestOf : MV yX9_easiestOf 9 cX9_easiestOf 9 (some .int) 1 := ⟨by decide, ⟨rfl, by decide, by decide, by decide +kernel⟩, mw (i := 1205) (by decide +kernel) (by decide +kernel), ms (i := 73) (by decide +kernel) (by decide +kernel), mw (i := 10) (by decide +kernel) (by decide +kernel), mw (i := 1206) (by decide +kernel) (by decide +kernel)⟩
theorem ml_X9_277 : Cond.methodLink RX9 277 yX9_fullSlots ∈ gw_tbl := mw (i := 1215) (by decide +kernel) (by decide +kernel)
theorem mv_X9_fullSlots : MV yX9_fullSlots 9 cX9_fullSlots 3 (some .int) 0 := ⟨by decide, ⟨rfl, by decide, by decide, by decide +kernel⟩, mw (i := 1217) (by decide +kernel) (by decide +kernel), ms (i := 74) (by decide +kernel) (by decide +kernel), mw (i := 10) (by decide +kernel) (by decide +kernel), mw (i := 1218) (by decide +kernel) (by decide +kernel)⟩
theorem fl_X9_44 : FL RX9 44 9 13 := ⟨by decide, by decide, mw (i := 837) (by decide +kernel) (by decide +kernel)⟩
theorem fk_9_13 : fk 9 13 = 10 := by decide +kernel
theorem ml_X9_274 : Cond.methodLink RX9 274 yX9_isSlot ∈ gw_tbl := mw (i := 1212) (by decide +kernel) (by decide +kernel)
theorem mst_X9_isSlot : MS yX9_isSlot cX9_isSlot 1 (some .boolean) 1 := ⟨⟨by decide, by decide, by decide +kernel⟩, mw (i := 1213) (by decide +kernel) (by decide +kernel), mw (i := 10) (by decide +kernel) (by decide +kernel), mw (i := 1214) (by decide +kernel) (by decide +kernel)⟩
theorem ml_X9_280 : Cond.methodLink RX9 280 yX9_differOf ∈ gw_tbl := mw (i := 1227) (by decide +kernel) (by decide +kernel)
theorem mv_X9_differOf : MV yX9_differOf 9 cX9_differOf 4 (some .int) 1 := ⟨by decide, ⟨rfl, by decide, by decide, by decide +kernel⟩, mw (i := 1229) (by decide +kernel) (by decide +kernel), ms (i := 75) (by decide +kernel) (by decide +kernel), mw (i := 10) (by decide +kernel) (by decide +kernel), mw (i := 1230) (by decide +kernel) (by decide +kernel)⟩
theorem fl_X9_90 : FL RX9 90 9 36 := ⟨by decide, by decide, mw (i := 860) (by decide +kernel) (by decide +kernel)⟩
theorem fk_9_36 : fk 9 36 = 10 := by decide +kernel
theorem fl_X9_283 : FL RX9 283 9 37 := ⟨by decide, by decide, mw (i := 861) (by decide +kernel) (by decide +kernel)⟩
theorem ml_X9_286 : Cond.methodLink RX9 286 yX9_writes ∈ gw_tbl := mw (i := 1243) (by decide +kernel) (by decide +kernel)
theorem mv_X9_writes : MV yX9_writes 9 cX9_writes 2 none 1 := ⟨by decide, ⟨rfl, by decide, by decide, by decide +kernel⟩, mw (i := 1245) (by decide +kernel) (by decide +kernel), ms (i := 78) (by decide +kernel) (by decide +kernel), mw (i := 10) (by decide +kernel) (by decide +kernel), mw (i := 1246) (by decide +kernel) (by decide +kernel)⟩
theorem ml_X9_289 : Cond.methodLink RX9 289 yX9_writesTime ∈ gw_tbl := mw (i := 1239) (by decide +kernel) (by decide +kernel)
theorem mv_X9_writesTime : MV yX9_writesTime 9 cX9_writesTime 2 none 1 := ⟨by decide, ⟨rfl, by decide, by decide, by decide +kernel⟩, mw (i := 1241) (by decide +kernel) (by decide +kernel), ms (i := 77) (by decide +kernel) (by decide +kernel), mw (i := 10) (by decide +kernel) (by decide +kernel), mw (i := 1242) (by decide +kernel) (by decide +kernel)⟩
theorem ml_X9_292 : Cond.methodLink RX9 292 yX9_tablature ∈ gw_tbl := mw (i := 1235) (by decide +kernel) (by decide +kernel)
theorem mv_X9_tablature : MV yX9_tablature 9 cX9_tablature 5 (some .int) 0 := ⟨by decide, ⟨rfl, by decide, by decide, by decide +kernel⟩, mw (i := 1237) (by decide +kernel) (by decide +kernel), ms (i := 76) (by decide +kernel) (by decide +kernel), mw (i := 10) (by decide +kernel) (by decide +kernel), mw (i := 1238) (by decide +kernel) (by decide +kernel)⟩
theorem fl_X9_295 : FL RX9 295 9 39 := ⟨by decide, by decide, mw (i := 863) (by decide +kernel) (by decide +kernel)⟩
theorem fl_X9_93 : FL RX9 93 9 38 := ⟨by decide, by decide, mw (i := 862) (by decide +kernel) (by decide +kernel)⟩
theorem fk_9_38 : fk 9 38 = 10 := by decide +kernel
theorem fl_X9_298 : FL RX9 298 9 40 := ⟨by decide, by decide, mw (i := 864) (by decide +kernel) (by decide +kernel)⟩
theorem fl_X9_304 : FL RX9 304 9 42 := ⟨by decide, by decide, mw (i := 866) (by decide +kernel) (by decide +kernel)⟩
theorem fl_X9_307 : FL RX9 307 9 43 := ⟨by decide, by decide, mw (i := 867) (by decide +kernel) (by decide +kernel)⟩
theorem fl_X9_301 : FL RX9 301 9 41 := ⟨by decide, by decide, mw (i := 865) (by decide +kernel) (by decide +kernel)⟩
theorem ml_X9_310 : Cond.methodLink RX9 310 yX9_mayBegin ∈ gw_tbl := mw (i := 1267) (by decide +kernel) (by decide +kernel)
theorem mv_X9_mayBegin : MV yX9_mayBegin 9 cX9_mayBegin 6 (some .boolean) 1 := ⟨by decide, ⟨rfl, by decide, by decide, by decide +kernel⟩, mw (i := 1269) (by decide +kernel) (by decide +kernel), ms (i := 81) (by decide +kernel) (by decide +kernel), mw (i := 10) (by decide +kernel) (by decide +kernel), mw (i := 1270) (by decide +kernel) (by decide +kernel)⟩
theorem ml_X9_316 : Cond.methodLink RX9 316 yX9_readsLetter ∈ gw_tbl := mw (i := 1271) (by decide +kernel) (by decide +kernel)
theorem mv_X9_readsLetter : MV yX9_readsLetter 9 cX9_readsLetter 3 (some .boolean) 1 := ⟨by decide, ⟨rfl, by decide, by decide, by decide +kernel⟩, mw (i := 1273) (by decide +kernel) (by decide +kernel), ms (i := 82) (by decide +kernel) (by decide +kernel), mw (i := 10) (by decide +kernel) (by decide +kernel), mw (i := 1274) (by decide +kernel) (by decide +kernel)⟩
theorem ml_X9_313 : Cond.methodLink RX9 313 yX9_readsTime ∈ gw_tbl := mw (i := 1263) (by decide +kernel) (by decide +kernel)
theorem mv_X9_readsTime : MV yX9_readsTime 9 cX9_readsTime 3 (some .boolean) 1 := ⟨by decide, ⟨rfl, by decide, by decide, by decide +kernel⟩, mw (i := 1265) (by decide +kernel) (by decide +kernel), ms (i := 80) (by decide +kernel) (by decide +kernel), mw (i := 10) (by decide +kernel) (by decide +kernel), mw (i := 1266) (by decide +kernel) (by decide +kernel)⟩
theorem ml_X9_319 : Cond.methodLink RX9 319 yX9_flawNow ∈ gw_tbl := mw (i := 1259) (by decide +kernel) (by decide +kernel)
theorem mv_X9_flawNow : MV yX9_flawNow 9 cX9_flawNow 3 (some .int) 0 := ⟨by decide, ⟨rfl, by decide, by decide, by decide +kernel⟩, mw (i := 1261) (by decide +kernel) (by decide +kernel), ms (i := 79) (by decide +kernel) (by decide +kernel), mw (i := 10) (by decide +kernel) (by decide +kernel), mw (i := 1262) (by decide +kernel) (by decide +kernel)⟩
theorem ml_X9_322 : Cond.methodLink RX9 322 yX9_lettersTyped ∈ gw_tbl := mw (i := 1279) (by decide +kernel) (by decide +kernel)
theorem mv_X9_lettersTyped : MV yX9_lettersTyped 9 cX9_lettersTyped 3 (some .int) 0 := ⟨by decide, ⟨rfl, by decide, by decide, by decide +kernel⟩, mw (i := 1281) (by decide +kernel) (by decide +kernel), ms (i := 83) (by decide +kernel) (by decide +kernel), mw (i := 10) (by decide +kernel) (by decide +kernel), mw (i := 1282) (by decide +kernel) (by decide +kernel)⟩
theorem kc_X9_328 : Cond.constantLong RX9 328 (100000007 : Int64) ∈ gw_tbl := mw (i := 1295) (by decide +kernel) (by decide +kernel)
theorem ml_X9_330 : Cond.methodLink RX9 330 yX9_no ∈ gw_tbl := mw (i := 1300) (by decide +kernel) (by decide +kernel)
theorem mst_X9_no : MS yX9_no cX9_no 1 (some .long) 1 := ⟨⟨by decide, by decide, by decide +kernel⟩, mw (i := 1301) (by decide +kernel) (by decide +kernel), mw (i := 10) (by decide +kernel) (by decide +kernel), mw (i := 1302) (by decide +kernel) (by decide +kernel)⟩
theorem fl_X9_106 : FL RX9 106 9 47 := ⟨by decide, by decide, mw (i := 871) (by decide +kernel) (by decide +kernel)⟩
theorem fk_9_47 : fk 9 47 = 11 := by decide +kernel
theorem kc_X9_334 : Cond.constantLong RX9 334 (31 : Int64) ∈ gw_tbl := mw (i := 1321) (by decide +kernel) (by decide +kernel)
theorem ml_X9_341 : Cond.methodLink RX9 341 yX9_least ∈ gw_tbl := mw (i := 1323) (by decide +kernel) (by decide +kernel)
theorem ml_X9_344 : Cond.methodLink RX9 344 yX9_partsDigest ∈ gw_tbl := mw (i := 1324) (by decide +kernel) (by decide +kernel)
theorem mv_X9_partsDigest : MV yX9_partsDigest 9 cX9_partsDigest 7 (some .long) 1 := ⟨by decide, ⟨rfl, by decide, by decide, by decide +kernel⟩, mw (i := 1326) (by decide +kernel) (by decide +kernel), ms (i := 84) (by decide +kernel) (by decide +kernel), mw (i := 10) (by decide +kernel) (by decide +kernel), mw (i := 1327) (by decide +kernel) (by decide +kernel)⟩
theorem mv_X9_least : MV yX9_least 9 cX9_least 2 (some .int) 0 := ⟨by decide, ⟨rfl, by decide, by decide, by decide +kernel⟩, mw (i := 1044) (by decide +kernel) (by decide +kernel), mw (i := 1045) (by decide +kernel) (by decide +kernel), mw (i := 10) (by decide +kernel) (by decide +kernel), mw (i := 1046) (by decide +kernel) (by decide +kernel)⟩
theorem ml_X9_338 : Cond.methodLink RX9 338 yX9_count ∈ gw_tbl := mw (i := 1322) (by decide +kernel) (by decide +kernel)
theorem mv_X9_count : MV yX9_count 9 cX9_count 2 (some .int) 1 := ⟨by decide, ⟨rfl, by decide, by decide, by decide +kernel⟩, mw (i := 1313) (by decide +kernel) (by decide +kernel), mw (i := 1314) (by decide +kernel) (by decide +kernel), mw (i := 10) (by decide +kernel) (by decide +kernel), mw (i := 1315) (by decide +kernel) (by decide +kernel)⟩
theorem kc_X9_336 : Cond.constantLong RX9 336 (17 : Int64) ∈ gw_tbl := mw (i := 1320) (by decide +kernel) (by decide +kernel)
