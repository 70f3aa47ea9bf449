-- ===== PART A: goes FIRST, ahead of the names: the tables' words, and 'selects' of the private methods out of them =====
/-- a private method of a class that the tables say can be made, by its rows of tables_1 -/
def lw_okq (q : MethodName × Nat) : Prop := (q.1.cls ≠ "java/lang/invoke/MethodHandle" ∧ q.1.cls ≠ "java/lang/invoke/VarHandle") ∧ Cond.instantiable q.1.cls q.2 ∈ tables_1 ∧ Cond.privateMethod q.1 ∈ tables_1 ∧ Cond.instanceMethod q.1 ∈ tables_1
theorem lw_p0 : lw_okq (⟨"LuteTabs", "startAnew", "()V"⟩, 13) := ⟨⟨by decide +kernel, by decide +kernel⟩, List.mem_of_getElem? (i := 16) (by decide +kernel), List.mem_of_getElem? (i := 333) (by decide +kernel), List.mem_of_getElem? (i := 334) (by decide +kernel)⟩
theorem lw_p1 : lw_okq (⟨"LuteTabs$Notes", "move", "(II)V"⟩, 8) := ⟨⟨by decide +kernel, by decide +kernel⟩, List.mem_of_getElem? (i := 49) (by decide +kernel), List.mem_of_getElem? (i := 378) (by decide +kernel), List.mem_of_getElem? (i := 379) (by decide +kernel)⟩
theorem lw_p2 : lw_okq (⟨"LuteTabs$Notes", "findChords", "()V"⟩, 8) := ⟨⟨by decide +kernel, by decide +kernel⟩, List.mem_of_getElem? (i := 49) (by decide +kernel), List.mem_of_getElem? (i := 382) (by decide +kernel), List.mem_of_getElem? (i := 383) (by decide +kernel)⟩
theorem lw_p3 : lw_okq (⟨"LuteTabs$Notes", "soundingAt", "(I)I"⟩, 8) := ⟨⟨by decide +kernel, by decide +kernel⟩, List.mem_of_getElem? (i := 49) (by decide +kernel), List.mem_of_getElem? (i := 386) (by decide +kernel), List.mem_of_getElem? (i := 387) (by decide +kernel)⟩
theorem lw_p4 : lw_okq (⟨"LuteTabs", "refusalOfSheet", "(I)I"⟩, 13) := ⟨⟨by decide +kernel, by decide +kernel⟩, List.mem_of_getElem? (i := 16) (by decide +kernel), List.mem_of_getElem? (i := 418) (by decide +kernel), List.mem_of_getElem? (i := 419) (by decide +kernel)⟩
theorem lw_p5 : lw_okq (⟨"LuteTabs", "finding", "(I)I"⟩, 13) := ⟨⟨by decide +kernel, by decide +kernel⟩, List.mem_of_getElem? (i := 16) (by decide +kernel), List.mem_of_getElem? (i := 425) (by decide +kernel), List.mem_of_getElem? (i := 426) (by decide +kernel)⟩
theorem lw_p6 : lw_okq (⟨"LuteTabs", "addFromSheet", "(LLuteTabs$Sheet;I)Z"⟩, 13) := ⟨⟨by decide +kernel, by decide +kernel⟩, List.mem_of_getElem? (i := 16) (by decide +kernel), List.mem_of_getElem? (i := 429) (by decide +kernel), List.mem_of_getElem? (i := 430) (by decide +kernel)⟩
theorem lw_p7 : lw_okq (⟨"LuteTabs", "coursesFor", "(I)I"⟩, 13) := ⟨⟨by decide +kernel, by decide +kernel⟩, List.mem_of_getElem? (i := 16) (by decide +kernel), List.mem_of_getElem? (i := 441) (by decide +kernel), List.mem_of_getElem? (i := 442) (by decide +kernel)⟩
theorem lw_p8 : lw_okq (⟨"LuteTabs", "notesFor", "(I)I"⟩, 13) := ⟨⟨by decide +kernel, by decide +kernel⟩, List.mem_of_getElem? (i := 16) (by decide +kernel), List.mem_of_getElem? (i := 453) (by decide +kernel), List.mem_of_getElem? (i := 454) (by decide +kernel)⟩
theorem lw_p9 : lw_okq (⟨"LuteTabs", "notesLaidOn", "(I)I"⟩, 13) := ⟨⟨by decide +kernel, by decide +kernel⟩, List.mem_of_getElem? (i := 16) (by decide +kernel), List.mem_of_getElem? (i := 457) (by decide +kernel), List.mem_of_getElem? (i := 458) (by decide +kernel)⟩
theorem lw_p10 : lw_okq (⟨"LuteTabs$Search", "find", "(II)J"⟩, 9) := ⟨⟨by decide +kernel, by decide +kernel⟩, List.mem_of_getElem? (i := 145) (by decide +kernel), List.mem_of_getElem? (i := 469) (by decide +kernel), List.mem_of_getElem? (i := 470) (by decide +kernel)⟩
theorem lw_p11 : lw_okq (⟨"LuteTabs$Search", "spread", "(III)V"⟩, 9) := ⟨⟨by decide +kernel, by decide +kernel⟩, List.mem_of_getElem? (i := 145) (by decide +kernel), List.mem_of_getElem? (i := 477) (by decide +kernel), List.mem_of_getElem? (i := 478) (by decide +kernel)⟩
theorem lw_p12 : lw_okq (⟨"LuteTabs$Search", "keepGood", "(II)V"⟩, 9) := ⟨⟨by decide +kernel, by decide +kernel⟩, List.mem_of_getElem? (i := 145) (by decide +kernel), List.mem_of_getElem? (i := 489) (by decide +kernel), List.mem_of_getElem? (i := 490) (by decide +kernel)⟩
theorem lw_p13 : lw_okq (⟨"LuteTabs$Search", "heldBits", "(I)J"⟩, 9) := ⟨⟨by decide +kernel, by decide +kernel⟩, List.mem_of_getElem? (i := 145) (by decide +kernel), List.mem_of_getElem? (i := 493) (by decide +kernel), List.mem_of_getElem? (i := 494) (by decide +kernel)⟩
theorem lw_p14 : lw_okq (⟨"LuteTabs$Hand", "take", "(IIZ)V"⟩, 13) := ⟨⟨by decide +kernel, by decide +kernel⟩, List.mem_of_getElem? (i := 95) (by decide +kernel), List.mem_of_getElem? (i := 505) (by decide +kernel), List.mem_of_getElem? (i := 506) (by decide +kernel)⟩
theorem lw_p15 : lw_okq (⟨"LuteTabs$Hand", "nutBetween", "()Z"⟩, 13) := ⟨⟨by decide +kernel, by decide +kernel⟩, List.mem_of_getElem? (i := 95) (by decide +kernel), List.mem_of_getElem? (i := 515) (by decide +kernel), List.mem_of_getElem? (i := 516) (by decide +kernel)⟩
def lw_privs_1 : List (MethodName × Nat) := [(⟨"LuteTabs", "startAnew", "()V"⟩, 13), (⟨"LuteTabs$Notes", "move", "(II)V"⟩, 8), (⟨"LuteTabs$Notes", "findChords", "()V"⟩, 8), (⟨"LuteTabs$Notes", "soundingAt", "(I)I"⟩, 8), (⟨"LuteTabs", "refusalOfSheet", "(I)I"⟩, 13), (⟨"LuteTabs", "finding", "(I)I"⟩, 13), (⟨"LuteTabs", "addFromSheet", "(LLuteTabs$Sheet;I)Z"⟩, 13), (⟨"LuteTabs", "coursesFor", "(I)I"⟩, 13), (⟨"LuteTabs", "notesFor", "(I)I"⟩, 13), (⟨"LuteTabs", "notesLaidOn", "(I)I"⟩, 13), (⟨"LuteTabs$Search", "find", "(II)J"⟩, 9), (⟨"LuteTabs$Search", "spread", "(III)V"⟩, 9), (⟨"LuteTabs$Search", "keepGood", "(II)V"⟩, 9), (⟨"LuteTabs$Search", "heldBits", "(I)J"⟩, 9), (⟨"LuteTabs$Hand", "take", "(IIZ)V"⟩, 13), (⟨"LuteTabs$Hand", "nutBetween", "()Z"⟩, 13)]
theorem lw_r1 : ∀ q ∈ lw_privs_1, lw_okq q := List.forall_mem_cons.mpr ⟨lw_p0, List.forall_mem_cons.mpr ⟨lw_p1, List.forall_mem_cons.mpr ⟨lw_p2, List.forall_mem_cons.mpr ⟨lw_p3, List.forall_mem_cons.mpr ⟨lw_p4, List.forall_mem_cons.mpr ⟨lw_p5, List.forall_mem_cons.mpr ⟨lw_p6, List.forall_mem_cons.mpr ⟨lw_p7, List.forall_mem_cons.mpr ⟨lw_p8, List.forall_mem_cons.mpr ⟨lw_p9, List.forall_mem_cons.mpr ⟨lw_p10, List.forall_mem_cons.mpr ⟨lw_p11, List.forall_mem_cons.mpr ⟨lw_p12, List.forall_mem_cons.mpr ⟨lw_p13, List.forall_mem_cons.mpr ⟨lw_p14, List.forall_mem_cons.mpr ⟨lw_p15, fun _ h => absurd h List.not_mem_nil⟩⟩⟩⟩⟩⟩⟩⟩⟩⟩⟩⟩⟩⟩⟩⟩
theorem lw_p16 : lw_okq (⟨"LuteTabs$Hand", "stretched", "()Z"⟩, 13) := ⟨⟨by decide +kernel, by decide +kernel⟩, List.mem_of_getElem? (i := 95) (by decide +kernel), List.mem_of_getElem? (i := 523) (by decide +kernel), List.mem_of_getElem? (i := 524) (by decide +kernel)⟩
theorem lw_p17 : lw_okq (⟨"LuteTabs$Search", "bestAhead", "(JJI)J"⟩, 9) := ⟨⟨by decide +kernel, by decide +kernel⟩, List.mem_of_getElem? (i := 145) (by decide +kernel), List.mem_of_getElem? (i := 527) (by decide +kernel), List.mem_of_getElem? (i := 528) (by decide +kernel)⟩
theorem lw_p18 : lw_okq (⟨"LuteTabs", "wrongs", "()I"⟩, 13) := ⟨⟨by decide +kernel, by decide +kernel⟩, List.mem_of_getElem? (i := 16) (by decide +kernel), List.mem_of_getElem? (i := 576) (by decide +kernel), List.mem_of_getElem? (i := 577) (by decide +kernel)⟩
theorem lw_p19 : lw_okq (⟨"LuteTabs", "fretOfLaid", "(I)I"⟩, 13) := ⟨⟨by decide +kernel, by decide +kernel⟩, List.mem_of_getElem? (i := 16) (by decide +kernel), List.mem_of_getElem? (i := 580) (by decide +kernel), List.mem_of_getElem? (i := 581) (by decide +kernel)⟩
theorem lw_p20 : lw_okq (⟨"LuteTabs", "costOfLaid", "()I"⟩, 13) := ⟨⟨by decide +kernel, by decide +kernel⟩, List.mem_of_getElem? (i := 16) (by decide +kernel), List.mem_of_getElem? (i := 590) (by decide +kernel), List.mem_of_getElem? (i := 591) (by decide +kernel)⟩
theorem lw_p21 : lw_okq (⟨"LuteTabs", "ofLaidChord", "(II)I"⟩, 13) := ⟨⟨by decide +kernel, by decide +kernel⟩, List.mem_of_getElem? (i := 16) (by decide +kernel), List.mem_of_getElem? (i := 611) (by decide +kernel), List.mem_of_getElem? (i := 612) (by decide +kernel)⟩
theorem lw_p22 : lw_okq (⟨"LuteTabs", "slotsKept", "()I"⟩, 13) := ⟨⟨by decide +kernel, by decide +kernel⟩, List.mem_of_getElem? (i := 16) (by decide +kernel), List.mem_of_getElem? (i := 645) (by decide +kernel), List.mem_of_getElem? (i := 646) (by decide +kernel)⟩
theorem lw_p23 : lw_okq (⟨"LuteTabs", "makeTablature", "()Z"⟩, 13) := ⟨⟨by decide +kernel, by decide +kernel⟩, List.mem_of_getElem? (i := 16) (by decide +kernel), List.mem_of_getElem? (i := 661) (by decide +kernel), List.mem_of_getElem? (i := 662) (by decide +kernel)⟩
theorem lw_p24 : lw_okq (⟨"LuteTabs", "letterAt", "(II)I"⟩, 13) := ⟨⟨by decide +kernel, by decide +kernel⟩, List.mem_of_getElem? (i := 16) (by decide +kernel), List.mem_of_getElem? (i := 674) (by decide +kernel), List.mem_of_getElem? (i := 675) (by decide +kernel)⟩
theorem lw_p25 : lw_okq (⟨"LuteTabs$Reader", "endChord", "()V"⟩, 9) := ⟨⟨by decide +kernel, by decide +kernel⟩, List.mem_of_getElem? (i := 225) (by decide +kernel), List.mem_of_getElem? (i := 694) (by decide +kernel), List.mem_of_getElem? (i := 695) (by decide +kernel)⟩
theorem lw_p26 : lw_okq (⟨"LuteTabs$Reader", "takes", "(I)Z"⟩, 9) := ⟨⟨by decide +kernel, by decide +kernel⟩, List.mem_of_getElem? (i := 225) (by decide +kernel), List.mem_of_getElem? (i := 698) (by decide +kernel), List.mem_of_getElem? (i := 699) (by decide +kernel)⟩
theorem lw_p27 : lw_okq (⟨"LuteTabs$Reader", "takesColon", "()Z"⟩, 9) := ⟨⟨by decide +kernel, by decide +kernel⟩, List.mem_of_getElem? (i := 225) (by decide +kernel), List.mem_of_getElem? (i := 702) (by decide +kernel), List.mem_of_getElem? (i := 703) (by decide +kernel)⟩
theorem lw_p28 : lw_okq (⟨"LuteTabs$Reader", "takesFigure", "(I)Z"⟩, 9) := ⟨⟨by decide +kernel, by decide +kernel⟩, List.mem_of_getElem? (i := 225) (by decide +kernel), List.mem_of_getElem? (i := 706) (by decide +kernel), List.mem_of_getElem? (i := 707) (by decide +kernel)⟩
theorem lw_p29 : lw_okq (⟨"LuteTabs$Reader", "mayBecomeTime", "(I)Z"⟩, 9) := ⟨⟨by decide +kernel, by decide +kernel⟩, List.mem_of_getElem? (i := 225) (by decide +kernel), List.mem_of_getElem? (i := 710) (by decide +kernel), List.mem_of_getElem? (i := 711) (by decide +kernel)⟩
theorem lw_p30 : lw_okq (⟨"LuteTabs$Reader", "reachesPast", "(II)Z"⟩, 9) := ⟨⟨by decide +kernel, by decide +kernel⟩, List.mem_of_getElem? (i := 225) (by decide +kernel), List.mem_of_getElem? (i := 714) (by decide +kernel), List.mem_of_getElem? (i := 715) (by decide +kernel)⟩
theorem lw_p31 : lw_okq (⟨"LuteTabs$Reader", "takesDash", "()Z"⟩, 9) := ⟨⟨by decide +kernel, by decide +kernel⟩, List.mem_of_getElem? (i := 225) (by decide +kernel), List.mem_of_getElem? (i := 719) (by decide +kernel), List.mem_of_getElem? (i := 720) (by decide +kernel)⟩
def lw_privs_2 : List (MethodName × Nat) := [(⟨"LuteTabs$Hand", "stretched", "()Z"⟩, 13), (⟨"LuteTabs$Search", "bestAhead", "(JJI)J"⟩, 9), (⟨"LuteTabs", "wrongs", "()I"⟩, 13), (⟨"LuteTabs", "fretOfLaid", "(I)I"⟩, 13), (⟨"LuteTabs", "costOfLaid", "()I"⟩, 13), (⟨"LuteTabs", "ofLaidChord", "(II)I"⟩, 13), (⟨"LuteTabs", "slotsKept", "()I"⟩, 13), (⟨"LuteTabs", "makeTablature", "()Z"⟩, 13), (⟨"LuteTabs", "letterAt", "(II)I"⟩, 13), (⟨"LuteTabs$Reader", "endChord", "()V"⟩, 9), (⟨"LuteTabs$Reader", "takes", "(I)Z"⟩, 9), (⟨"LuteTabs$Reader", "takesColon", "()Z"⟩, 9), (⟨"LuteTabs$Reader", "takesFigure", "(I)Z"⟩, 9), (⟨"LuteTabs$Reader", "mayBecomeTime", "(I)Z"⟩, 9), (⟨"LuteTabs$Reader", "reachesPast", "(II)Z"⟩, 9), (⟨"LuteTabs$Reader", "takesDash", "()Z"⟩, 9)]
theorem lw_r2 : ∀ q ∈ lw_privs_2, lw_okq q := List.forall_mem_cons.mpr ⟨lw_p16, List.forall_mem_cons.mpr ⟨lw_p17, List.forall_mem_cons.mpr ⟨lw_p18, List.forall_mem_cons.mpr ⟨lw_p19, List.forall_mem_cons.mpr ⟨lw_p20, List.forall_mem_cons.mpr ⟨lw_p21, List.forall_mem_cons.mpr ⟨lw_p22, List.forall_mem_cons.mpr ⟨lw_p23, List.forall_mem_cons.mpr ⟨lw_p24, List.forall_mem_cons.mpr ⟨lw_p25, List.forall_mem_cons.mpr ⟨lw_p26, List.forall_mem_cons.mpr ⟨lw_p27, List.forall_mem_cons.mpr ⟨lw_p28, List.forall_mem_cons.mpr ⟨lw_p29, List.forall_mem_cons.mpr ⟨lw_p30, List.forall_mem_cons.mpr ⟨lw_p31, fun _ h => absurd h List.not_mem_nil⟩⟩⟩⟩⟩⟩⟩⟩⟩⟩⟩⟩⟩⟩⟩⟩
theorem lw_p32 : lw_okq (⟨"LuteTabs$Reader", "takesLetter", "(I)Z"⟩, 9) := ⟨⟨by decide +kernel, by decide +kernel⟩, List.mem_of_getElem? (i := 225) (by decide +kernel), List.mem_of_getElem? (i := 723) (by decide +kernel), List.mem_of_getElem? (i := 724) (by decide +kernel)⟩
theorem lw_p33 : lw_okq (⟨"LuteTabs", "addAsRead", "(I)V"⟩, 13) := ⟨⟨by decide +kernel, by decide +kernel⟩, List.mem_of_getElem? (i := 16) (by decide +kernel), List.mem_of_getElem? (i := 732) (by decide +kernel), List.mem_of_getElem? (i := 733) (by decide +kernel)⟩
theorem lw_p34 : lw_okq (⟨"LuteTabs", "mixedNotes", "(J)J"⟩, 13) := ⟨⟨by decide +kernel, by decide +kernel⟩, List.mem_of_getElem? (i := 16) (by decide +kernel), List.mem_of_getElem? (i := 800) (by decide +kernel), List.mem_of_getElem? (i := 801) (by decide +kernel)⟩
theorem lw_p35 : lw_okq (⟨"LuteTabs", "mixedChords", "(J)J"⟩, 13) := ⟨⟨by decide +kernel, by decide +kernel⟩, List.mem_of_getElem? (i := 16) (by decide +kernel), List.mem_of_getElem? (i := 805) (by decide +kernel), List.mem_of_getElem? (i := 806) (by decide +kernel)⟩
theorem lw_p36 : lw_okq (⟨"LuteTabs", "mixedTablature", "(J)J"⟩, 13) := ⟨⟨by decide +kernel, by decide +kernel⟩, List.mem_of_getElem? (i := 16) (by decide +kernel), List.mem_of_getElem? (i := 813) (by decide +kernel), List.mem_of_getElem? (i := 814) (by decide +kernel)⟩
theorem lw_p37 : lw_okq (⟨"LuteTabsModel", "forgets", "()V"⟩, 49) := ⟨⟨by decide +kernel, by decide +kernel⟩, List.mem_of_getElem? (i := 819) (by decide +kernel), List.mem_of_getElem? (i := 980) (by decide +kernel), List.mem_of_getElem? (i := 981) (by decide +kernel)⟩
theorem lw_p38 : lw_okq (⟨"LuteTabsModel", "isCourse", "(I)Z"⟩, 49) := ⟨⟨by decide +kernel, by decide +kernel⟩, List.mem_of_getElem? (i := 819) (by decide +kernel), List.mem_of_getElem? (i := 988) (by decide +kernel), List.mem_of_getElem? (i := 989) (by decide +kernel)⟩
theorem lw_p39 : lw_okq (⟨"LuteTabsModel", "settingOf", "(I)I"⟩, 49) := ⟨⟨by decide +kernel, by decide +kernel⟩, List.mem_of_getElem? (i := 819) (by decide +kernel), List.mem_of_getElem? (i := 996) (by decide +kernel), List.mem_of_getElem? (i := 997) (by decide +kernel)⟩
theorem lw_p40 : lw_okq (⟨"LuteTabsModel", "adds", "(III)I"⟩, 49) := ⟨⟨by decide +kernel, by decide +kernel⟩, List.mem_of_getElem? (i := 819) (by decide +kernel), List.mem_of_getElem? (i := 1004) (by decide +kernel), List.mem_of_getElem? (i := 1005) (by decide +kernel)⟩
theorem lw_p41 : lw_okq (⟨"LuteTabsModel", "beginAt", "(I)I"⟩, 49) := ⟨⟨by decide +kernel, by decide +kernel⟩, List.mem_of_getElem? (i := 819) (by decide +kernel), List.mem_of_getElem? (i := 1008) (by decide +kernel), List.mem_of_getElem? (i := 1009) (by decide +kernel)⟩
theorem lw_p42 : lw_okq (⟨"LuteTabsModel", "puts", "(III)I"⟩, 49) := ⟨⟨by decide +kernel, by decide +kernel⟩, List.mem_of_getElem? (i := 819) (by decide +kernel), List.mem_of_getElem? (i := 1012) (by decide +kernel), List.mem_of_getElem? (i := 1013) (by decide +kernel)⟩
theorem lw_p43 : lw_okq (⟨"LuteTabsModel", "isNote", "(I)Z"⟩, 49) := ⟨⟨by decide +kernel, by decide +kernel⟩, List.mem_of_getElem? (i := 819) (by decide +kernel), List.mem_of_getElem? (i := 1020) (by decide +kernel), List.mem_of_getElem? (i := 1021) (by decide +kernel)⟩
theorem lw_p44 : lw_okq (⟨"LuteTabsModel", "meets", "(I)I"⟩, 49) := ⟨⟨by decide +kernel, by decide +kernel⟩, List.mem_of_getElem? (i := 819) (by decide +kernel), List.mem_of_getElem? (i := 1035) (by decide +kernel), List.mem_of_getElem? (i := 1036) (by decide +kernel)⟩
theorem lw_p45 : lw_okq (⟨"LuteTabsModel", "small", "(I)I"⟩, 49) := ⟨⟨by decide +kernel, by decide +kernel⟩, List.mem_of_getElem? (i := 819) (by decide +kernel), List.mem_of_getElem? (i := 1039) (by decide +kernel), List.mem_of_getElem? (i := 1040) (by decide +kernel)⟩
theorem lw_p46 : lw_okq (⟨"LuteTabsModel", "leastNow", "()I"⟩, 49) := ⟨⟨by decide +kernel, by decide +kernel⟩, List.mem_of_getElem? (i := 819) (by decide +kernel), List.mem_of_getElem? (i := 1048) (by decide +kernel), List.mem_of_getElem? (i := 1049) (by decide +kernel)⟩
theorem lw_p47 : lw_okq (⟨"LuteTabsModel", "leastBy", "(II)I"⟩, 49) := ⟨⟨by decide +kernel, by decide +kernel⟩, List.mem_of_getElem? (i := 819) (by decide +kernel), List.mem_of_getElem? (i := 1052) (by decide +kernel), List.mem_of_getElem? (i := 1053) (by decide +kernel)⟩
def lw_privs_3 : List (MethodName × Nat) := [(⟨"LuteTabs$Reader", "takesLetter", "(I)Z"⟩, 9), (⟨"LuteTabs", "addAsRead", "(I)V"⟩, 13), (⟨"LuteTabs", "mixedNotes", "(J)J"⟩, 13), (⟨"LuteTabs", "mixedChords", "(J)J"⟩, 13), (⟨"LuteTabs", "mixedTablature", "(J)J"⟩, 13), (⟨"LuteTabsModel", "forgets", "()V"⟩, 49), (⟨"LuteTabsModel", "isCourse", "(I)Z"⟩, 49), (⟨"LuteTabsModel", "settingOf", "(I)I"⟩, 49), (⟨"LuteTabsModel", "adds", "(III)I"⟩, 49), (⟨"LuteTabsModel", "beginAt", "(I)I"⟩, 49), (⟨"LuteTabsModel", "puts", "(III)I"⟩, 49), (⟨"LuteTabsModel", "isNote", "(I)Z"⟩, 49), (⟨"LuteTabsModel", "meets", "(I)I"⟩, 49), (⟨"LuteTabsModel", "small", "(I)I"⟩, 49), (⟨"LuteTabsModel", "leastNow", "()I"⟩, 49), (⟨"LuteTabsModel", "leastBy", "(II)I"⟩, 49)]
theorem lw_r3 : ∀ q ∈ lw_privs_3, lw_okq q := List.forall_mem_cons.mpr ⟨lw_p32, List.forall_mem_cons.mpr ⟨lw_p33, List.forall_mem_cons.mpr ⟨lw_p34, List.forall_mem_cons.mpr ⟨lw_p35, List.forall_mem_cons.mpr ⟨lw_p36, List.forall_mem_cons.mpr ⟨lw_p37, List.forall_mem_cons.mpr ⟨lw_p38, List.forall_mem_cons.mpr ⟨lw_p39, List.forall_mem_cons.mpr ⟨lw_p40, List.forall_mem_cons.mpr ⟨lw_p41, List.forall_mem_cons.mpr ⟨lw_p42, List.forall_mem_cons.mpr ⟨lw_p43, List.forall_mem_cons.mpr ⟨lw_p44, List.forall_mem_cons.mpr ⟨lw_p45, List.forall_mem_cons.mpr ⟨lw_p46, List.forall_mem_cons.mpr ⟨lw_p47, fun _ h => absurd h List.not_mem_nil⟩⟩⟩⟩⟩⟩⟩⟩⟩⟩⟩⟩⟩⟩⟩⟩
theorem lw_p48 : lw_okq (⟨"LuteTabsModel", "findsChords", "()V"⟩, 49) := ⟨⟨by decide +kernel, by decide +kernel⟩, List.mem_of_getElem? (i := 819) (by decide +kernel), List.mem_of_getElem? (i := 1056) (by decide +kernel), List.mem_of_getElem? (i := 1057) (by decide +kernel)⟩
theorem lw_p49 : lw_okq (⟨"LuteTabsModel", "findsWays", "(II)V"⟩, 49) := ⟨⟨by decide +kernel, by decide +kernel⟩, List.mem_of_getElem? (i := 819) (by decide +kernel), List.mem_of_getElem? (i := 1060) (by decide +kernel), List.mem_of_getElem? (i := 1061) (by decide +kernel)⟩
theorem lw_p50 : lw_okq (⟨"LuteTabsModel", "isOnCourse", "(I)Z"⟩, 49) := ⟨⟨by decide +kernel, by decide +kernel⟩, List.mem_of_getElem? (i := 819) (by decide +kernel), List.mem_of_getElem? (i := 1064) (by decide +kernel), List.mem_of_getElem? (i := 1065) (by decide +kernel)⟩
theorem lw_p51 : lw_okq (⟨"LuteTabsModel", "layWay", "(II)V"⟩, 49) := ⟨⟨by decide +kernel, by decide +kernel⟩, List.mem_of_getElem? (i := 819) (by decide +kernel), List.mem_of_getElem? (i := 1068) (by decide +kernel), List.mem_of_getElem? (i := 1069) (by decide +kernel)⟩
theorem lw_p52 : lw_okq (⟨"LuteTabsModel", "isGood", "(I)Z"⟩, 49) := ⟨⟨by decide +kernel, by decide +kernel⟩, List.mem_of_getElem? (i := 819) (by decide +kernel), List.mem_of_getElem? (i := 1075) (by decide +kernel), List.mem_of_getElem? (i := 1076) (by decide +kernel)⟩
theorem lw_p53 : lw_okq (⟨"LuteTabsModel", "looks", "(I)V"⟩, 49) := ⟨⟨by decide +kernel, by decide +kernel⟩, List.mem_of_getElem? (i := 819) (by decide +kernel), List.mem_of_getElem? (i := 1079) (by decide +kernel), List.mem_of_getElem? (i := 1080) (by decide +kernel)⟩
theorem lw_p54 : lw_okq (⟨"LuteTabsModel", "findsLow", "(I)V"⟩, 49) := ⟨⟨by decide +kernel, by decide +kernel⟩, List.mem_of_getElem? (i := 819) (by decide +kernel), List.mem_of_getElem? (i := 1083) (by decide +kernel), List.mem_of_getElem? (i := 1084) (by decide +kernel)⟩
theorem lw_p55 : lw_okq (⟨"LuteTabsModel", "fretOf", "(I)I"⟩, 49) := ⟨⟨by decide +kernel, by decide +kernel⟩, List.mem_of_getElem? (i := 819) (by decide +kernel), List.mem_of_getElem? (i := 1087) (by decide +kernel), List.mem_of_getElem? (i := 1088) (by decide +kernel)⟩
theorem lw_p56 : lw_okq (⟨"LuteTabsModel", "findsBar", "(I)V"⟩, 49) := ⟨⟨by decide +kernel, by decide +kernel⟩, List.mem_of_getElem? (i := 819) (by decide +kernel), List.mem_of_getElem? (i := 1091) (by decide +kernel), List.mem_of_getElem? (i := 1092) (by decide +kernel)⟩
theorem lw_p57 : lw_okq (⟨"LuteTabsModel", "ownCost", "()I"⟩, 49) := ⟨⟨by decide +kernel, by decide +kernel⟩, List.mem_of_getElem? (i := 819) (by decide +kernel), List.mem_of_getElem? (i := 1095) (by decide +kernel), List.mem_of_getElem? (i := 1096) (by decide +kernel)⟩
theorem lw_p58 : lw_okq (⟨"LuteTabsModel", "findsShared", "(I)V"⟩, 49) := ⟨⟨by decide +kernel, by decide +kernel⟩, List.mem_of_getElem? (i := 819) (by decide +kernel), List.mem_of_getElem? (i := 1099) (by decide +kernel), List.mem_of_getElem? (i := 1100) (by decide +kernel)⟩
theorem lw_p59 : lw_okq (⟨"LuteTabsModel", "findsRest", "(I)V"⟩, 49) := ⟨⟨by decide +kernel, by decide +kernel⟩, List.mem_of_getElem? (i := 819) (by decide +kernel), List.mem_of_getElem? (i := 1103) (by decide +kernel), List.mem_of_getElem? (i := 1104) (by decide +kernel)⟩
theorem lw_p60 : lw_okq (⟨"LuteTabsModel", "joined", "(III)I"⟩, 49) := ⟨⟨by decide +kernel, by decide +kernel⟩, List.mem_of_getElem? (i := 819) (by decide +kernel), List.mem_of_getElem? (i := 1108) (by decide +kernel), List.mem_of_getElem? (i := 1109) (by decide +kernel)⟩
theorem lw_p61 : lw_okq (⟨"LuteTabsModel", "goesOn", "(III)Z"⟩, 49) := ⟨⟨by decide +kernel, by decide +kernel⟩, List.mem_of_getElem? (i := 819) (by decide +kernel), List.mem_of_getElem? (i := 1112) (by decide +kernel), List.mem_of_getElem? (i := 1113) (by decide +kernel)⟩
theorem lw_p62 : lw_okq (⟨"LuteTabsModel", "shiftCost", "(II)I"⟩, 49) := ⟨⟨by decide +kernel, by decide +kernel⟩, List.mem_of_getElem? (i := 819) (by decide +kernel), List.mem_of_getElem? (i := 1116) (by decide +kernel), List.mem_of_getElem? (i := 1117) (by decide +kernel)⟩
theorem lw_p63 : lw_okq (⟨"LuteTabsModel", "faultNow", "()I"⟩, 49) := ⟨⟨by decide +kernel, by decide +kernel⟩, List.mem_of_getElem? (i := 819) (by decide +kernel), List.mem_of_getElem? (i := 1124) (by decide +kernel), List.mem_of_getElem? (i := 1125) (by decide +kernel)⟩
def lw_privs_4 : List (MethodName × Nat) := [(⟨"LuteTabsModel", "findsChords", "()V"⟩, 49), (⟨"LuteTabsModel", "findsWays", "(II)V"⟩, 49), (⟨"LuteTabsModel", "isOnCourse", "(I)Z"⟩, 49), (⟨"LuteTabsModel", "layWay", "(II)V"⟩, 49), (⟨"LuteTabsModel", "isGood", "(I)Z"⟩, 49), (⟨"LuteTabsModel", "looks", "(I)V"⟩, 49), (⟨"LuteTabsModel", "findsLow", "(I)V"⟩, 49), (⟨"LuteTabsModel", "fretOf", "(I)I"⟩, 49), (⟨"LuteTabsModel", "findsBar", "(I)V"⟩, 49), (⟨"LuteTabsModel", "ownCost", "()I"⟩, 49), (⟨"LuteTabsModel", "findsShared", "(I)V"⟩, 49), (⟨"LuteTabsModel", "findsRest", "(I)V"⟩, 49), (⟨"LuteTabsModel", "joined", "(III)I"⟩, 49), (⟨"LuteTabsModel", "goesOn", "(III)Z"⟩, 49), (⟨"LuteTabsModel", "shiftCost", "(II)I"⟩, 49), (⟨"LuteTabsModel", "faultNow", "()I"⟩, 49)]
theorem lw_r4 : ∀ q ∈ lw_privs_4, lw_okq q := List.forall_mem_cons.mpr ⟨lw_p48, List.forall_mem_cons.mpr ⟨lw_p49, List.forall_mem_cons.mpr ⟨lw_p50, List.forall_mem_cons.mpr ⟨lw_p51, List.forall_mem_cons.mpr ⟨lw_p52, List.forall_mem_cons.mpr ⟨lw_p53, List.forall_mem_cons.mpr ⟨lw_p54, List.forall_mem_cons.mpr ⟨lw_p55, List.forall_mem_cons.mpr ⟨lw_p56, List.forall_mem_cons.mpr ⟨lw_p57, List.forall_mem_cons.mpr ⟨lw_p58, List.forall_mem_cons.mpr ⟨lw_p59, List.forall_mem_cons.mpr ⟨lw_p60, List.forall_mem_cons.mpr ⟨lw_p61, List.forall_mem_cons.mpr ⟨lw_p62, List.forall_mem_cons.mpr ⟨lw_p63, fun _ h => absurd h List.not_mem_nil⟩⟩⟩⟩⟩⟩⟩⟩⟩⟩⟩⟩⟩⟩⟩⟩
theorem lw_p64 : lw_okq (⟨"LuteTabsModel", "wrongNow", "()I"⟩, 49) := ⟨⟨by decide +kernel, by decide +kernel⟩, List.mem_of_getElem? (i := 819) (by decide +kernel), List.mem_of_getElem? (i := 1140) (by decide +kernel), List.mem_of_getElem? (i := 1141) (by decide +kernel)⟩
theorem lw_p65 : lw_okq (⟨"LuteTabsModel", "laysAll", "()V"⟩, 49) := ⟨⟨by decide +kernel, by decide +kernel⟩, List.mem_of_getElem? (i := 819) (by decide +kernel), List.mem_of_getElem? (i := 1144) (by decide +kernel), List.mem_of_getElem? (i := 1145) (by decide +kernel)⟩
theorem lw_p66 : lw_okq (⟨"LuteTabsModel", "costNow", "()I"⟩, 49) := ⟨⟨by decide +kernel, by decide +kernel⟩, List.mem_of_getElem? (i := 819) (by decide +kernel), List.mem_of_getElem? (i := 1152) (by decide +kernel), List.mem_of_getElem? (i := 1153) (by decide +kernel)⟩
theorem lw_p67 : lw_okq (⟨"LuteTabsModel", "costOf", "(I)I"⟩, 49) := ⟨⟨by decide +kernel, by decide +kernel⟩, List.mem_of_getElem? (i := 819) (by decide +kernel), List.mem_of_getElem? (i := 1156) (by decide +kernel), List.mem_of_getElem? (i := 1157) (by decide +kernel)⟩
theorem lw_p68 : lw_okq (⟨"LuteTabsModel", "infoOf", "(II)I"⟩, 49) := ⟨⟨by decide +kernel, by decide +kernel⟩, List.mem_of_getElem? (i := 819) (by decide +kernel), List.mem_of_getElem? (i := 1164) (by decide +kernel), List.mem_of_getElem? (i := 1165) (by decide +kernel)⟩
theorem lw_p69 : lw_okq (⟨"LuteTabsModel", "chordOf", "(I)I"⟩, 49) := ⟨⟨by decide +kernel, by decide +kernel⟩, List.mem_of_getElem? (i := 819) (by decide +kernel), List.mem_of_getElem? (i := 1168) (by decide +kernel), List.mem_of_getElem? (i := 1169) (by decide +kernel)⟩
theorem lw_p70 : lw_okq (⟨"LuteTabsModel", "coursesFor", "(I)I"⟩, 49) := ⟨⟨by decide +kernel, by decide +kernel⟩, List.mem_of_getElem? (i := 819) (by decide +kernel), List.mem_of_getElem? (i := 1172) (by decide +kernel), List.mem_of_getElem? (i := 1173) (by decide +kernel)⟩
theorem lw_p71 : lw_okq (⟨"LuteTabsModel", "courseOf", "(II)I"⟩, 49) := ⟨⟨by decide +kernel, by decide +kernel⟩, List.mem_of_getElem? (i := 819) (by decide +kernel), List.mem_of_getElem? (i := 1180) (by decide +kernel), List.mem_of_getElem? (i := 1181) (by decide +kernel)⟩
theorem lw_p72 : lw_okq (⟨"LuteTabsModel", "chordBy", "(II)I"⟩, 49) := ⟨⟨by decide +kernel, by decide +kernel⟩, List.mem_of_getElem? (i := 819) (by decide +kernel), List.mem_of_getElem? (i := 1188) (by decide +kernel), List.mem_of_getElem? (i := 1189) (by decide +kernel)⟩
theorem lw_p73 : lw_okq (⟨"LuteTabsModel", "easiestOf", "(I)I"⟩, 49) := ⟨⟨by decide +kernel, by decide +kernel⟩, List.mem_of_getElem? (i := 819) (by decide +kernel), List.mem_of_getElem? (i := 1204) (by decide +kernel), List.mem_of_getElem? (i := 1205) (by decide +kernel)⟩
theorem lw_p74 : lw_okq (⟨"LuteTabsModel", "fullSlots", "()I"⟩, 49) := ⟨⟨by decide +kernel, by decide +kernel⟩, List.mem_of_getElem? (i := 819) (by decide +kernel), List.mem_of_getElem? (i := 1216) (by decide +kernel), List.mem_of_getElem? (i := 1217) (by decide +kernel)⟩
theorem lw_p75 : lw_okq (⟨"LuteTabsModel", "differOf", "(I)I"⟩, 49) := ⟨⟨by decide +kernel, by decide +kernel⟩, List.mem_of_getElem? (i := 819) (by decide +kernel), List.mem_of_getElem? (i := 1228) (by decide +kernel), List.mem_of_getElem? (i := 1229) (by decide +kernel)⟩
theorem lw_p76 : lw_okq (⟨"LuteTabsModel", "tablature", "()I"⟩, 49) := ⟨⟨by decide +kernel, by decide +kernel⟩, List.mem_of_getElem? (i := 819) (by decide +kernel), List.mem_of_getElem? (i := 1236) (by decide +kernel), List.mem_of_getElem? (i := 1237) (by decide +kernel)⟩
theorem lw_p77 : lw_okq (⟨"LuteTabsModel", "writesTime", "(I)V"⟩, 49) := ⟨⟨by decide +kernel, by decide +kernel⟩, List.mem_of_getElem? (i := 819) (by decide +kernel), List.mem_of_getElem? (i := 1240) (by decide +kernel), List.mem_of_getElem? (i := 1241) (by decide +kernel)⟩
theorem lw_p78 : lw_okq (⟨"LuteTabsModel", "writes", "(I)V"⟩, 49) := ⟨⟨by decide +kernel, by decide +kernel⟩, List.mem_of_getElem? (i := 819) (by decide +kernel), List.mem_of_getElem? (i := 1244) (by decide +kernel), List.mem_of_getElem? (i := 1245) (by decide +kernel)⟩
theorem lw_p79 : lw_okq (⟨"LuteTabsModel", "flawNow", "()I"⟩, 49) := ⟨⟨by decide +kernel, by decide +kernel⟩, List.mem_of_getElem? (i := 819) (by decide +kernel), List.mem_of_getElem? (i := 1260) (by decide +kernel), List.mem_of_getElem? (i := 1261) (by decide +kernel)⟩
def lw_privs_5 : List (MethodName × Nat) := [(⟨"LuteTabsModel", "wrongNow", "()I"⟩, 49), (⟨"LuteTabsModel", "laysAll", "()V"⟩, 49), (⟨"LuteTabsModel", "costNow", "()I"⟩, 49), (⟨"LuteTabsModel", "costOf", "(I)I"⟩, 49), (⟨"LuteTabsModel", "infoOf", "(II)I"⟩, 49), (⟨"LuteTabsModel", "chordOf", "(I)I"⟩, 49), (⟨"LuteTabsModel", "coursesFor", "(I)I"⟩, 49), (⟨"LuteTabsModel", "courseOf", "(II)I"⟩, 49), (⟨"LuteTabsModel", "chordBy", "(II)I"⟩, 49), (⟨"LuteTabsModel", "easiestOf", "(I)I"⟩, 49), (⟨"LuteTabsModel", "fullSlots", "()I"⟩, 49), (⟨"LuteTabsModel", "differOf", "(I)I"⟩, 49), (⟨"LuteTabsModel", "tablature", "()I"⟩, 49), (⟨"LuteTabsModel", "writesTime", "(I)V"⟩, 49), (⟨"LuteTabsModel", "writes", "(I)V"⟩, 49), (⟨"LuteTabsModel", "flawNow", "()I"⟩, 49)]
theorem lw_r5 : ∀ q ∈ lw_privs_5, lw_okq q := List.forall_mem_cons.mpr ⟨lw_p64, List.forall_mem_cons.mpr ⟨lw_p65, List.forall_mem_cons.mpr ⟨lw_p66, List.forall_mem_cons.mpr ⟨lw_p67, List.forall_mem_cons.mpr ⟨lw_p68, List.forall_mem_cons.mpr ⟨lw_p69, List.forall_mem_cons.mpr ⟨lw_p70, List.forall_mem_cons.mpr ⟨lw_p71, List.forall_mem_cons.mpr ⟨lw_p72, List.forall_mem_cons.mpr ⟨lw_p73, List.forall_mem_cons.mpr ⟨lw_p74, List.forall_mem_cons.mpr ⟨lw_p75, List.forall_mem_cons.mpr ⟨lw_p76, List.forall_mem_cons.mpr ⟨lw_p77, List.forall_mem_cons.mpr ⟨lw_p78, List.forall_mem_cons.mpr ⟨lw_p79, fun _ h => absurd h List.not_mem_nil⟩⟩⟩⟩⟩⟩⟩⟩⟩⟩⟩⟩⟩⟩⟩⟩
theorem lw_p80 : lw_okq (⟨"LuteTabsModel", "readsTime", "(I)Z"⟩, 49) := ⟨⟨by decide +kernel, by decide +kernel⟩, List.mem_of_getElem? (i := 819) (by decide +kernel), List.mem_of_getElem? (i := 1264) (by decide +kernel), List.mem_of_getElem? (i := 1265) (by decide +kernel)⟩
theorem lw_p81 : lw_okq (⟨"LuteTabsModel", "mayBegin", "(I)Z"⟩, 49) := ⟨⟨by decide +kernel, by decide +kernel⟩, List.mem_of_getElem? (i := 819) (by decide +kernel), List.mem_of_getElem? (i := 1268) (by decide +kernel), List.mem_of_getElem? (i := 1269) (by decide +kernel)⟩
theorem lw_p82 : lw_okq (⟨"LuteTabsModel", "readsLetter", "(I)Z"⟩, 49) := ⟨⟨by decide +kernel, by decide +kernel⟩, List.mem_of_getElem? (i := 819) (by decide +kernel), List.mem_of_getElem? (i := 1272) (by decide +kernel), List.mem_of_getElem? (i := 1273) (by decide +kernel)⟩
theorem lw_p83 : lw_okq (⟨"LuteTabsModel", "lettersTyped", "()I"⟩, 49) := ⟨⟨by decide +kernel, by decide +kernel⟩, List.mem_of_getElem? (i := 819) (by decide +kernel), List.mem_of_getElem? (i := 1280) (by decide +kernel), List.mem_of_getElem? (i := 1281) (by decide +kernel)⟩
theorem lw_p84 : lw_okq (⟨"LuteTabsModel", "partsDigest", "(J)J"⟩, 49) := ⟨⟨by decide +kernel, by decide +kernel⟩, List.mem_of_getElem? (i := 819) (by decide +kernel), List.mem_of_getElem? (i := 1325) (by decide +kernel), List.mem_of_getElem? (i := 1326) (by decide +kernel)⟩
def lw_privs_6 : List (MethodName × Nat) := [(⟨"LuteTabsModel", "readsTime", "(I)Z"⟩, 49), (⟨"LuteTabsModel", "mayBegin", "(I)Z"⟩, 49), (⟨"LuteTabsModel", "readsLetter", "(I)Z"⟩, 49), (⟨"LuteTabsModel", "lettersTyped", "()I"⟩, 49), (⟨"LuteTabsModel", "partsDigest", "(J)J"⟩, 49)]
theorem lw_r6 : ∀ q ∈ lw_privs_6, lw_okq q := List.forall_mem_cons.mpr ⟨lw_p80, List.forall_mem_cons.mpr ⟨lw_p81, List.forall_mem_cons.mpr ⟨lw_p82, List.forall_mem_cons.mpr ⟨lw_p83, List.forall_mem_cons.mpr ⟨lw_p84, fun _ h => absurd h List.not_mem_nil⟩⟩⟩⟩⟩
def lw_privs : List (MethodName × Nat) := lw_privs_1 ++ (lw_privs_2 ++ (lw_privs_3 ++ (lw_privs_4 ++ (lw_privs_5 ++ (lw_privs_6)))))
def lw_tbl : List Cond := k2_sels lw_privs ++ tables_1
theorem lw_privs_ok : ∀ q ∈ lw_privs, lw_okq q := by
  show ∀ q ∈ lw_privs_1 ++ (lw_privs_2 ++ (lw_privs_3 ++ (lw_privs_4 ++ (lw_privs_5 ++ (lw_privs_6))))), lw_okq q
  exact List.forall_mem_append.mpr ⟨lw_r1, List.forall_mem_append.mpr ⟨lw_r2, List.forall_mem_append.mpr ⟨lw_r3, List.forall_mem_append.mpr ⟨lw_r4, List.forall_mem_append.mpr ⟨lw_r5, lw_r6⟩⟩⟩⟩⟩
def RX0 : String := "LuteTabs$Hand"
def TX0 : u_T := fun k => match k with
  | 0 => ("LuteTabs$Hand", "lute", "LLuteTabs$Lute;", true)
  | 1 => ("LuteTabs$Hand", "notes", "LLuteTabs$Notes;", true)
  | 2 => ("LuteTabs$Hand", "low", "I", false)
  | 3 => ("LuteTabs$Hand", "fingers", "I", false)
  | 4 => ("LuteTabs$Hand", "bar", "Z", false)
  | 5 => ("LuteTabs$Hand", "doubled", "Z", false)
  | 6 => ("LuteTabs$Hand", "highest", "I", false)
  | 7 => ("LuteTabs$Hand", "pressed", "I", false)
  | 8 => ("LuteTabs$Hand", "atLow", "I", false)
  | 9 => ("LuteTabs$Hand", "leastAtLow", "I", false)
  | 10 => ("LuteTabs$Hand", "greatestAtLow", "I", false)
  | 11 => ("LuteTabs$Hand", "coursesUsed", "I", false)
  | _ => ("LuteTabs$Hand", "coursesAtNut", "I", false)
def tyX0 : Nat → FieldType := fun k => match k with
  | 0 => .object "LuteTabs$Lute"
  | 1 => .object "LuteTabs$Notes"
  | 2 => .int
  | 3 => .int
  | 4 => .boolean
  | 5 => .boolean
  | 6 => .int
  | 7 => .int
  | 8 => .int
  | 9 => .int
  | 10 => .int
  | 11 => .int
  | _ => .int
abbrev wsX00 : List Cond := u_ws RX0 TX0 13
theorem nmX0 : ∀ a, a < 13 → ∀ b, b < 13 → a ≠ b → (TX0 a).2.1 ≠ (TX0 b).2.1 := by decide +kernel
theorem tyX0_ok : ∀ k, k < 13 → parseFieldDescriptor (TX0 k).2.2.1 = some (tyX0 k) := by decide +kernel
abbrev cX0_init : ByteArray := prog_2_method_1_code
def yX0_init : MethodName := ⟨RX0, "<init>", "(LLuteTabs$Lute;LLuteTabs$Notes;)V"⟩
abbrev cX0_look : ByteArray := prog_2_method_2_code
def yX0_look : MethodName := ⟨RX0, "look", "(I[II)V"⟩
abbrev cX0_take : ByteArray := prog_2_method_3_code
def yX0_take : MethodName := ⟨RX0, "take", "(IIZ)V"⟩
abbrev cX0_nutBetween : ByteArray := prog_2_method_4_code
def yX0_nutBetween : MethodName := ⟨RX0, "nutBetween", "()Z"⟩
abbrev cX0_stretched : ByteArray := prog_2_method_5_code
def yX0_stretched : MethodName := ⟨RX0, "stretched", "()Z"⟩
abbrev cX0_wrongs : ByteArray := prog_2_method_6_code
def yX0_wrongs : MethodName := ⟨RX0, "wrongs", "()I"⟩
abbrev cX0_charge : ByteArray := prog_2_method_7_code
def yX0_charge : MethodName := ⟨RX0, "charge", "()I"⟩
def RX1 : String := "LuteTabs$Lute"
def TX1 : u_T := fun k => match k with
  | 0 => ("LuteTabs$Lute", "size", "I", false)
  | 1 => ("LuteTabs$Lute", "open", "[I", true)
  | _ => ("LuteTabs$Lute", "settings", "[I", true)
def tyX1 : Nat → FieldType := fun k => match k with
  | 0 => .int
  | 1 => .array .int
  | _ => .array .int
abbrev wsX10 : List Cond := u_ws RX1 TX1 3
theorem nmX1 : ∀ a, a < 3 → ∀ b, b < 3 → a ≠ b → (TX1 a).2.1 ≠ (TX1 b).2.1 := by decide +kernel
theorem tyX1_ok : ∀ k, k < 3 → parseFieldDescriptor (TX1 k).2.2.1 = some (tyX1 k) := by decide +kernel
abbrev cX1_init : ByteArray := prog_3_method_1_code
def yX1_init : MethodName := ⟨RX1, "<init>", "()V"⟩
abbrev cX1_mayBeSet : ByteArray := prog_3_method_2_code
def yX1_mayBeSet : MethodName := ⟨RX1, "mayBeSet", "(II)Z"⟩
abbrev cX1_has : ByteArray := prog_3_method_3_code
def yX1_has : MethodName := ⟨RX1, "has", "(I)Z"⟩
abbrev cX1_hasFret : ByteArray := prog_3_method_4_code
def yX1_hasFret : MethodName := ⟨RX1, "hasFret", "(I)Z"⟩
abbrev cX1_chargeOfShift : ByteArray := prog_3_method_5_code
def yX1_chargeOfShift : MethodName := ⟨RX1, "chargeOfShift", "(II)I"⟩
def RX2 : String := "LuteTabs$Notes"
def TX2 : u_T := fun k => match k with
  | 0 => ("LuteTabs$Notes", "time", "[I", true)
  | 1 => ("LuteTabs$Notes", "pitch", "[I", true)
  | 2 => ("LuteTabs$Notes", "last", "[I", true)
  | 3 => ("LuteTabs$Notes", "chordOf", "[I", true)
  | 4 => ("LuteTabs$Notes", "first", "[I", true)
  | 5 => ("LuteTabs$Notes", "sounding", "[I", true)
  | 6 => ("LuteTabs$Notes", "size", "I", false)
  | _ => ("LuteTabs$Notes", "chords", "I", false)
def tyX2 : Nat → FieldType := fun k => match k with
  | 0 => .array .int
  | 1 => .array .int
  | 2 => .array .int
  | 3 => .array .int
  | 4 => .array .int
  | 5 => .array .int
  | 6 => .int
  | _ => .int
abbrev wsX20 : List Cond := u_ws RX2 TX2 8
theorem nmX2 : ∀ a, a < 8 → ∀ b, b < 8 → a ≠ b → (TX2 a).2.1 ≠ (TX2 b).2.1 := by decide +kernel
theorem tyX2_ok : ∀ k, k < 8 → parseFieldDescriptor (TX2 k).2.2.1 = some (tyX2 k) := by decide +kernel
abbrev cX2_init : ByteArray := prog_4_method_1_code
def yX2_init : MethodName := ⟨RX2, "<init>", "()V"⟩
abbrev cX2_mayBe : ByteArray := prog_4_method_2_code
def yX2_mayBe : MethodName := ⟨RX2, "mayBe", "(JJJ)Z"⟩
abbrev cX2_has : ByteArray := prog_4_method_3_code
def yX2_has : MethodName := ⟨RX2, "has", "(I)Z"⟩
abbrev cX2_hasChord : ByteArray := prog_4_method_4_code
def yX2_hasChord : MethodName := ⟨RX2, "hasChord", "(I)Z"⟩
abbrev cX2_timeOfChord : ByteArray := prog_4_method_5_code
def yX2_timeOfChord : MethodName := ⟨RX2, "timeOfChord", "(I)I"⟩
abbrev cX2_hasRoomAt : ByteArray := prog_4_method_6_code
def yX2_hasRoomAt : MethodName := ⟨RX2, "hasRoomAt", "(I)Z"⟩
abbrev cX2_add : ByteArray := prog_4_method_7_code
def yX2_add : MethodName := ⟨RX2, "add", "(III)I"⟩
abbrev cX2_remove : ByteArray := prog_4_method_8_code
def yX2_remove : MethodName := ⟨RX2, "remove", "(I)V"⟩
abbrev cX2_removeAll : ByteArray := prog_4_method_9_code
def yX2_removeAll : MethodName := ⟨RX2, "removeAll", "()V"⟩
abbrev cX2_move : ByteArray := prog_4_method_10_code
def yX2_move : MethodName := ⟨RX2, "move", "(II)V"⟩
abbrev cX2_findChords : ByteArray := prog_4_method_11_code
def yX2_findChords : MethodName := ⟨RX2, "findChords", "()V"⟩
abbrev cX2_soundingAt : ByteArray := prog_4_method_12_code
def yX2_soundingAt : MethodName := ⟨RX2, "soundingAt", "(I)I"⟩
def RX3 : String := "LuteTabs$Reader"
def TX3 : u_T := fun k => match k with
  | 0 => ("LuteTabs$Reader", "lute", "LLuteTabs$Lute;", true)
  | 1 => ("LuteTabs$Reader", "found", "I", false)
  | 2 => ("LuteTabs$Reader", "timeOf", "[I", true)
  | 3 => ("LuteTabs$Reader", "courseOf", "[I", true)
  | 4 => ("LuteTabs$Reader", "fretOf", "[I", true)
  | 5 => ("LuteTabs$Reader", "timeAhead", "I", false)
  | 6 => ("LuteTabs$Reader", "time", "I", false)
  | 7 => ("LuteTabs$Reader", "column", "I", false)
  | _ => ("LuteTabs$Reader", "letters", "I", false)
def tyX3 : Nat → FieldType := fun k => match k with
  | 0 => .object "LuteTabs$Lute"
  | 1 => .int
  | 2 => .array .int
  | 3 => .array .int
  | 4 => .array .int
  | 5 => .int
  | 6 => .int
  | 7 => .int
  | _ => .int
abbrev wsX30 : List Cond := u_ws RX3 TX3 9
theorem nmX3 : ∀ a, a < 9 → ∀ b, b < 9 → a ≠ b → (TX3 a).2.1 ≠ (TX3 b).2.1 := by decide +kernel
theorem tyX3_ok : ∀ k, k < 9 → parseFieldDescriptor (TX3 k).2.2.1 = some (tyX3 k) := by decide +kernel
abbrev cX3_init : ByteArray := prog_5_method_1_code
def yX3_init : MethodName := ⟨RX3, "<init>", "(LLuteTabs$Lute;)V"⟩
abbrev cX3_flawOf : ByteArray := prog_5_method_2_code
def yX3_flawOf : MethodName := ⟨RX3, "flawOf", "(LLuteTabs$Script;)I"⟩
abbrev cX3_endChord : ByteArray := prog_5_method_3_code
def yX3_endChord : MethodName := ⟨RX3, "endChord", "()V"⟩
abbrev cX3_takes : ByteArray := prog_5_method_4_code
def yX3_takes : MethodName := ⟨RX3, "takes", "(I)Z"⟩
abbrev cX3_takesColon : ByteArray := prog_5_method_5_code
def yX3_takesColon : MethodName := ⟨RX3, "takesColon", "()Z"⟩
abbrev cX3_takesFigure : ByteArray := prog_5_method_6_code
def yX3_takesFigure : MethodName := ⟨RX3, "takesFigure", "(I)Z"⟩
abbrev cX3_mayBecomeTime : ByteArray := prog_5_method_7_code
def yX3_mayBecomeTime : MethodName := ⟨RX3, "mayBecomeTime", "(I)Z"⟩
abbrev cX3_reachesPast : ByteArray := prog_5_method_8_code
def yX3_reachesPast : MethodName := ⟨RX3, "reachesPast", "(II)Z"⟩
abbrev cX3_takesDash : ByteArray := prog_5_method_9_code
def yX3_takesDash : MethodName := ⟨RX3, "takesDash", "()Z"⟩
abbrev cX3_takesLetter : ByteArray := prog_5_method_10_code
def yX3_takesLetter : MethodName := ⟨RX3, "takesLetter", "(I)Z"⟩
def RX4 : String := "LuteTabs$Script"
def TX4 : u_T := fun k => match k with
  | 0 => ("LuteTabs$Script", "signs", "[I", true)
  | _ => ("LuteTabs$Script", "size", "I", false)
def tyX4 : Nat → FieldType := fun k => match k with
  | 0 => .array .int
  | _ => .int
abbrev wsX40 : List Cond := u_ws RX4 TX4 2
theorem nmX4 : ∀ a, a < 2 → ∀ b, b < 2 → a ≠ b → (TX4 a).2.1 ≠ (TX4 b).2.1 := by decide +kernel
theorem tyX4_ok : ∀ k, k < 2 → parseFieldDescriptor (TX4 k).2.2.1 = some (tyX4 k) := by decide +kernel
abbrev cX4_init : ByteArray := prog_6_method_1_code
def yX4_init : MethodName := ⟨RX4, "<init>", "(I)V"⟩
abbrev cX4_append : ByteArray := prog_6_method_2_code
def yX4_append : MethodName := ⟨RX4, "append", "(I)V"⟩
abbrev cX4_appendFigures : ByteArray := prog_6_method_3_code
def yX4_appendFigures : MethodName := ⟨RX4, "appendFigures", "(I)V"⟩
def RX5 : String := "LuteTabs$Search"
def TX5 : u_T := fun k => match k with
  | 0 => ("LuteTabs$Search", "lute", "LLuteTabs$Lute;", true)
  | 1 => ("LuteTabs$Search", "notes", "LLuteTabs$Notes;", true)
  | 2 => ("LuteTabs$Search", "hand", "LLuteTabs$Hand;", true)
  | 3 => ("LuteTabs$Search", "ahead", "LLuteTabs$Ways;", false)
  | 4 => ("LuteTabs$Search", "now", "LLuteTabs$Ways;", false)
  | 5 => ("LuteTabs$Search", "spare", "LLuteTabs$Ways;", false)
  | 6 => ("LuteTabs$Search", "courseOf", "[I", true)
  | 7 => ("LuteTabs$Search", "answers", "[J", true)
  | _ => ("LuteTabs$Search", "known", "[Z", true)
def tyX5 : Nat → FieldType := fun k => match k with
  | 0 => .object "LuteTabs$Lute"
  | 1 => .object "LuteTabs$Notes"
  | 2 => .object "LuteTabs$Hand"
  | 3 => .object "LuteTabs$Ways"
  | 4 => .object "LuteTabs$Ways"
  | 5 => .object "LuteTabs$Ways"
  | 6 => .array .int
  | 7 => .array .long
  | _ => .array .boolean
abbrev wsX50 : List Cond := u_ws RX5 TX5 9
theorem nmX5 : ∀ a, a < 9 → ∀ b, b < 9 → a ≠ b → (TX5 a).2.1 ≠ (TX5 b).2.1 := by decide +kernel
theorem tyX5_ok : ∀ k, k < 9 → parseFieldDescriptor (TX5 k).2.2.1 = some (tyX5 k) := by decide +kernel
abbrev cX5_init : ByteArray := prog_7_method_1_code
def yX5_init : MethodName := ⟨RX5, "<init>", "(LLuteTabs$Lute;LLuteTabs$Notes;LLuteTabs$Hand;)V"⟩
abbrev cX5_costOf : ByteArray := prog_7_method_2_code
def yX5_costOf : MethodName := ⟨RX5, "costOf", "(J)I"⟩
abbrev cX5_courseIn : ByteArray := prog_7_method_3_code
def yX5_courseIn : MethodName := ⟨RX5, "courseIn", "(JI)I"⟩
abbrev cX5_faultOf : ByteArray := prog_7_method_4_code
def yX5_faultOf : MethodName := ⟨RX5, "faultOf", "(J)I"⟩
abbrev cX5_bitsOf : ByteArray := prog_7_method_5_code
def yX5_bitsOf : MethodName := ⟨RX5, "bitsOf", "(I)I"⟩
abbrev cX5_forget : ByteArray := prog_7_method_6_code
def yX5_forget : MethodName := ⟨RX5, "forget", "()V"⟩
abbrev cX5_inKey : ByteArray := prog_7_method_7_code
def yX5_inKey : MethodName := ⟨RX5, "inKey", "(I)J"⟩
abbrev cX5_withoutCourse : ByteArray := prog_7_method_8_code
def yX5_withoutCourse : MethodName := ⟨RX5, "withoutCourse", "(I)J"⟩
abbrev cX5_find : ByteArray := prog_7_method_9_code
def yX5_find : MethodName := ⟨RX5, "find", "(II)J"⟩
abbrev cX5_spread : ByteArray := prog_7_method_10_code
def yX5_spread : MethodName := ⟨RX5, "spread", "(III)V"⟩
abbrev cX5_keepGood : ByteArray := prog_7_method_11_code
def yX5_keepGood : MethodName := ⟨RX5, "keepGood", "(II)V"⟩
abbrev cX5_heldBits : ByteArray := prog_7_method_12_code
def yX5_heldBits : MethodName := ⟨RX5, "heldBits", "(I)J"⟩
abbrev cX5_bestAhead : ByteArray := prog_7_method_13_code
def yX5_bestAhead : MethodName := ⟨RX5, "bestAhead", "(JJI)J"⟩
def RX6 : String := "LuteTabs$Sheet"
def TX6 : u_T := fun k => match k with
  | 0 => ("LuteTabs$Sheet", "lost", "Z", false)
  | 1 => ("LuteTabs$Sheet", "form", "I", false)
  | 2 => ("LuteTabs$Sheet", "size", "I", false)
  | _ => ("LuteTabs$Sheet", "items", "[J", true)
def tyX6 : Nat → FieldType := fun k => match k with
  | 0 => .boolean
  | 1 => .int
  | 2 => .int
  | _ => .array .long
abbrev wsX60 : List Cond := u_ws RX6 TX6 4
theorem nmX6 : ∀ a, a < 4 → ∀ b, b < 4 → a ≠ b → (TX6 a).2.1 ≠ (TX6 b).2.1 := by decide +kernel
theorem tyX6_ok : ∀ k, k < 4 → parseFieldDescriptor (TX6 k).2.2.1 = some (tyX6 k) := by decide +kernel
abbrev cX6_init : ByteArray := prog_8_method_1_code
def yX6_init : MethodName := ⟨RX6, "<init>", "()V"⟩
abbrev cX6_isForm : ByteArray := prog_8_method_2_code
def yX6_isForm : MethodName := ⟨RX6, "isForm", "(I)Z"⟩
abbrev cX6_makeNew : ByteArray := prog_8_method_3_code
def yX6_makeNew : MethodName := ⟨RX6, "makeNew", "(II)V"⟩
abbrev cX6_has : ByteArray := prog_8_method_4_code
def yX6_has : MethodName := ⟨RX6, "has", "(I)Z"⟩
abbrev cX6_hasRow : ByteArray := prog_8_method_5_code
def yX6_hasRow : MethodName := ⟨RX6, "hasRow", "(II)Z"⟩
abbrev cX6_store : ByteArray := prog_8_method_6_code
def yX6_store : MethodName := ⟨RX6, "store", "(IJ)V"⟩
def RX7 : String := "LuteTabs$Ways"
def TX7 : u_T := fun k => match k with
  | 0 => ("LuteTabs$Ways", "courses", "[J", true)
  | 1 => ("LuteTabs$Ways", "used", "[I", true)
  | 2 => ("LuteTabs$Ways", "low", "[I", true)
  | 3 => ("LuteTabs$Ways", "best", "[J", true)
  | _ => ("LuteTabs$Ways", "size", "I", false)
def tyX7 : Nat → FieldType := fun k => match k with
  | 0 => .array .long
  | 1 => .array .int
  | 2 => .array .int
  | 3 => .array .long
  | _ => .int
abbrev wsX70 : List Cond := u_ws RX7 TX7 5
theorem nmX7 : ∀ a, a < 5 → ∀ b, b < 5 → a ≠ b → (TX7 a).2.1 ≠ (TX7 b).2.1 := by decide +kernel
theorem tyX7_ok : ∀ k, k < 5 → parseFieldDescriptor (TX7 k).2.2.1 = some (tyX7 k) := by decide +kernel
abbrev cX7_init : ByteArray := prog_9_method_1_code
def yX7_init : MethodName := ⟨RX7, "<init>", "()V"⟩
abbrev cX7_startWithNothingLaid : ByteArray := prog_9_method_2_code
def yX7_startWithNothingLaid : MethodName := ⟨RX7, "startWithNothingLaid", "()V"⟩
abbrev cX7_add : ByteArray := prog_9_method_3_code
def yX7_add : MethodName := ⟨RX7, "add", "(JI)V"⟩
abbrev cX7_leastBest : ByteArray := prog_9_method_4_code
def yX7_leastBest : MethodName := ⟨RX7, "leastBest", "()J"⟩
def RX8 : String := "LuteTabs"
def TX8 : u_T := fun k => match k with
  | 0 => ("LuteTabs", "lute", "LLuteTabs$Lute;", true)
  | 1 => ("LuteTabs", "notes", "LLuteTabs$Notes;", true)
  | 2 => ("LuteTabs", "hand", "LLuteTabs$Hand;", true)
  | 3 => ("LuteTabs", "search", "LLuteTabs$Search;", true)
  | 4 => ("LuteTabs", "typed", "LLuteTabs$Script;", true)
  | 5 => ("LuteTabs", "reader", "LLuteTabs$Reader;", true)
  | 6 => ("LuteTabs", "tablature", "LLuteTabs$Script;", true)
  | 7 => ("LuteTabs", "sheets", "[LLuteTabs$Sheet;", true)
  | 8 => ("LuteTabs", "slots", "[[I", true)
  | 9 => ("LuteTabs", "kept", "[Z", true)
  | 10 => ("LuteTabs", "laid", "[I", true)
  | 11 => ("LuteTabs", "isLaid", "Z", false)
  | _ => ("LuteTabs", "latestFinding", "I", false)
def tyX8 : Nat → FieldType := fun k => match k with
  | 0 => .object "LuteTabs$Lute"
  | 1 => .object "LuteTabs$Notes"
  | 2 => .object "LuteTabs$Hand"
  | 3 => .object "LuteTabs$Search"
  | 4 => .object "LuteTabs$Script"
  | 5 => .object "LuteTabs$Reader"
  | 6 => .object "LuteTabs$Script"
  | 7 => .array (.object "LuteTabs$Sheet")
  | 8 => .array (.array .int)
  | 9 => .array .boolean
  | 10 => .array .int
  | 11 => .boolean
  | _ => .int
abbrev wsX80 : List Cond := u_ws RX8 TX8 13
theorem nmX8 : ∀ a, a < 13 → ∀ b, b < 13 → a ≠ b → (TX8 a).2.1 ≠ (TX8 b).2.1 := by decide +kernel
theorem tyX8_ok : ∀ k, k < 13 → parseFieldDescriptor (TX8 k).2.2.1 = some (tyX8 k) := by decide +kernel
abbrev cX8_init : ByteArray := prog_1_method_1_code
def yX8_init : MethodName := ⟨RX8, "<init>", "()V"⟩
abbrev cX8_courses : ByteArray := prog_1_method_2_code
def yX8_courses : MethodName := ⟨RX8, "courses", "(I)I"⟩
abbrev cX8_tune : ByteArray := prog_1_method_3_code
def yX8_tune : MethodName := ⟨RX8, "tune", "(II)I"⟩
abbrev cX8_set : ByteArray := prog_1_method_4_code
def yX8_set : MethodName := ⟨RX8, "set", "(II)I"⟩
abbrev cX8_note : ByteArray := prog_1_method_5_code
def yX8_note : MethodName := ⟨RX8, "note", "(III)I"⟩
abbrev cX8_gone : ByteArray := prog_1_method_6_code
def yX8_gone : MethodName := ⟨RX8, "gone", "(I)I"⟩
abbrev cX8_clear : ByteArray := prog_1_method_7_code
def yX8_clear : MethodName := ⟨RX8, "clear", "()I"⟩
abbrev cX8_read : ByteArray := prog_1_method_8_code
def yX8_read : MethodName := ⟨RX8, "read", "(I)I"⟩
abbrev cX8_info : ByteArray := prog_1_method_9_code
def yX8_info : MethodName := ⟨RX8, "info", "(II)I"⟩
abbrev cX8_course : ByteArray := prog_1_method_10_code
def yX8_course : MethodName := ⟨RX8, "course", "(II)I"⟩
abbrev cX8_least : ByteArray := prog_1_method_11_code
def yX8_least : MethodName := ⟨RX8, "least", "()I"⟩
abbrev cX8_fault : ByteArray := prog_1_method_12_code
def yX8_fault : MethodName := ⟨RX8, "fault", "()I"⟩
abbrev cX8_mend : ByteArray := prog_1_method_13_code
def yX8_mend : MethodName := ⟨RX8, "mend", "()I"⟩
abbrev cX8_lay : ByteArray := prog_1_method_14_code
def yX8_lay : MethodName := ⟨RX8, "lay", "(II)I"⟩
abbrev cX8_wrong : ByteArray := prog_1_method_15_code
def yX8_wrong : MethodName := ⟨RX8, "wrong", "()I"⟩
abbrev cX8_cost : ByteArray := prog_1_method_16_code
def yX8_cost : MethodName := ⟨RX8, "cost", "()I"⟩
abbrev cX8_chord : ByteArray := prog_1_method_17_code
def yX8_chord : MethodName := ⟨RX8, "chord", "(II)I"⟩
abbrev cX8_without : ByteArray := prog_1_method_18_code
def yX8_without : MethodName := ⟨RX8, "without", "(I)I"⟩
abbrev cX8_key : ByteArray := prog_1_method_19_code
def yX8_key : MethodName := ⟨RX8, "key", "(I)I"⟩
abbrev cX8_easiest : ByteArray := prog_1_method_20_code
def yX8_easiest : MethodName := ⟨RX8, "easiest", "(I)I"⟩
abbrev cX8_keep : ByteArray := prog_1_method_21_code
def yX8_keep : MethodName := ⟨RX8, "keep", "(I)I"⟩
abbrev cX8_go : ByteArray := prog_1_method_22_code
def yX8_go : MethodName := ⟨RX8, "go", "(I)I"⟩
abbrev cX8_differ : ByteArray := prog_1_method_23_code
def yX8_differ : MethodName := ⟨RX8, "differ", "(I)I"⟩
abbrev cX8_text : ByteArray := prog_1_method_24_code
def yX8_text : MethodName := ⟨RX8, "text", "(I)I"⟩
abbrev cX8_type : ByteArray := prog_1_method_25_code
def yX8_type : MethodName := ⟨RX8, "type", "(I)I"⟩
abbrev cX8_wipe : ByteArray := prog_1_method_26_code
def yX8_wipe : MethodName := ⟨RX8, "wipe", "()I"⟩
abbrev cX8_flaw : ByteArray := prog_1_method_27_code
def yX8_flaw : MethodName := ⟨RX8, "flaw", "()I"⟩
abbrev cX8_back : ByteArray := prog_1_method_28_code
def yX8_back : MethodName := ⟨RX8, "back", "()I"⟩
abbrev cX8_sheet : ByteArray := prog_1_method_29_code
def yX8_sheet : MethodName := ⟨RX8, "sheet", "(III)I"⟩
abbrev cX8_lose : ByteArray := prog_1_method_30_code
def yX8_lose : MethodName := ⟨RX8, "lose", "(I)I"⟩
abbrev cX8_put : ByteArray := prog_1_method_31_code
def yX8_put : MethodName := ⟨RX8, "put", "(IIII)I"⟩
abbrev cX8_get : ByteArray := prog_1_method_32_code
def yX8_get : MethodName := ⟨RX8, "get", "(II)J"⟩
abbrev cX8_copy : ByteArray := prog_1_method_33_code
def yX8_copy : MethodName := ⟨RX8, "copy", "(IIIII)I"⟩
abbrev cX8_write : ByteArray := prog_1_method_34_code
def yX8_write : MethodName := ⟨RX8, "write", "(I)I"⟩
abbrev cX8_count : ByteArray := prog_1_method_35_code
def yX8_count : MethodName := ⟨RX8, "count", "(I)I"⟩
abbrev cX8_digest : ByteArray := prog_1_method_36_code
def yX8_digest : MethodName := ⟨RX8, "digest", "()J"⟩
abbrev cX8_mixed : ByteArray := prog_1_method_37_code
def yX8_mixed : MethodName := ⟨RX8, "mixed", "(JJ)J"⟩
abbrev cX8_mixedNotes : ByteArray := prog_1_method_38_code
def yX8_mixedNotes : MethodName := ⟨RX8, "mixedNotes", "(J)J"⟩
abbrev cX8_mixedChords : ByteArray := prog_1_method_39_code
def yX8_mixedChords : MethodName := ⟨RX8, "mixedChords", "(J)J"⟩
abbrev cX8_mixedTablature : ByteArray := prog_1_method_40_code
def yX8_mixedTablature : MethodName := ⟨RX8, "mixedTablature", "(J)J"⟩
abbrev cX8_startAnew : ByteArray := prog_1_method_41_code
def yX8_startAnew : MethodName := ⟨RX8, "startAnew", "()V"⟩
abbrev cX8_addFromSheet : ByteArray := prog_1_method_42_code
def yX8_addFromSheet : MethodName := ⟨RX8, "addFromSheet", "(LLuteTabs$Sheet;I)Z"⟩
abbrev cX8_coursesFor : ByteArray := prog_1_method_43_code
def yX8_coursesFor : MethodName := ⟨RX8, "coursesFor", "(I)I"⟩
abbrev cX8_notesFor : ByteArray := prog_1_method_44_code
def yX8_notesFor : MethodName := ⟨RX8, "notesFor", "(I)I"⟩
abbrev cX8_notesLaidOn : ByteArray := prog_1_method_45_code
def yX8_notesLaidOn : MethodName := ⟨RX8, "notesLaidOn", "(I)I"⟩
abbrev cX8_fretOfLaid : ByteArray := prog_1_method_46_code
def yX8_fretOfLaid : MethodName := ⟨RX8, "fretOfLaid", "(I)I"⟩
abbrev cX8_wrongs : ByteArray := prog_1_method_47_code
def yX8_wrongs : MethodName := ⟨RX8, "wrongs", "()I"⟩
abbrev cX8_costOfLaid : ByteArray := prog_1_method_48_code
def yX8_costOfLaid : MethodName := ⟨RX8, "costOfLaid", "()I"⟩
abbrev cX8_ofLaidChord : ByteArray := prog_1_method_49_code
def yX8_ofLaidChord : MethodName := ⟨RX8, "ofLaidChord", "(II)I"⟩
abbrev cX8_nthNearestKey : ByteArray := prog_1_method_50_code
def yX8_nthNearestKey : MethodName := ⟨RX8, "nthNearestKey", "(I)I"⟩
abbrev cX8_isSlot : ByteArray := prog_1_method_51_code
def yX8_isSlot : MethodName := ⟨RX8, "isSlot", "(I)Z"⟩
abbrev cX8_slotsKept : ByteArray := prog_1_method_52_code
def yX8_slotsKept : MethodName := ⟨RX8, "slotsKept", "()I"⟩
abbrev cX8_makeTablature : ByteArray := prog_1_method_53_code
def yX8_makeTablature : MethodName := ⟨RX8, "makeTablature", "()Z"⟩
abbrev cX8_letterAt : ByteArray := prog_1_method_54_code
def yX8_letterAt : MethodName := ⟨RX8, "letterAt", "(II)I"⟩
abbrev cX8_addAsRead : ByteArray := prog_1_method_55_code
def yX8_addAsRead : MethodName := ⟨RX8, "addAsRead", "(I)V"⟩
abbrev cX8_isSheet : ByteArray := prog_1_method_56_code
def yX8_isSheet : MethodName := ⟨RX8, "isSheet", "(I)Z"⟩
abbrev cX8_refusalOfSheet : ByteArray := prog_1_method_57_code
def yX8_refusalOfSheet : MethodName := ⟨RX8, "refusalOfSheet", "(I)I"⟩
abbrev cX8_finding : ByteArray := prog_1_method_58_code
def yX8_finding : MethodName := ⟨RX8, "finding", "(I)I"⟩
def RX9 : String := "LuteTabsModel"
def TX9 : u_T := fun k => match k with
  | 0 => ("LuteTabsModel", "many", "I", false)
  | 1 => ("LuteTabsModel", "opens", "[I", true)
  | 2 => ("LuteTabsModel", "frets", "I", false)
  | 3 => ("LuteTabsModel", "span", "I", false)
  | 4 => ("LuteTabsModel", "shift", "I", false)
  | 5 => ("LuteTabsModel", "press", "I", false)
  | 6 => ("LuteTabsModel", "barre", "I", false)
  | 7 => ("LuteTabsModel", "times", "[I", true)
  | 8 => ("LuteTabsModel", "pitches", "[I", true)
  | 9 => ("LuteTabsModel", "lasts", "[I", true)
  | 10 => ("LuteTabsModel", "notes", "I", false)
  | 11 => ("LuteTabsModel", "laid", "[I", true)
  | 12 => ("LuteTabsModel", "isLaid", "Z", false)
  | 13 => ("LuteTabsModel", "kept", "[I", true)
  | 14 => ("LuteTabsModel", "isKept", "[Z", true)
  | 15 => ("LuteTabsModel", "chordTimes", "[I", true)
  | 16 => ("LuteTabsModel", "chords", "I", false)
  | 17 => ("LuteTabsModel", "sounds", "[I", true)
  | 18 => ("LuteTabsModel", "soundMany", "[I", true)
  | 19 => ("LuteTabsModel", "lying", "[I", true)
  | 20 => ("LuteTabsModel", "keyNow", "I", false)
  | 21 => ("LuteTabsModel", "low", "I", false)
  | 22 => ("LuteTabsModel", "fingers", "I", false)
  | 23 => ("LuteTabsModel", "hasBar", "Z", false)
  | 24 => ("LuteTabsModel", "isTwice", "Z", false)
  | 25 => ("LuteTabsModel", "isWide", "Z", false)
  | 26 => ("LuteTabsModel", "pressed", "I", false)
  | 27 => ("LuteTabsModel", "ways", "[I", true)
  | 28 => ("LuteTabsModel", "wayMany", "[I", true)
  | 29 => ("LuteTabsModel", "lows", "[I", true)
  | 30 => ("LuteTabsModel", "costs", "[I", true)
  | 31 => ("LuteTabsModel", "rest", "[I", true)
  | 32 => ("LuteTabsModel", "heres", "[I", true)
  | 33 => ("LuteTabsModel", "theres", "[I", true)
  | 34 => ("LuteTabsModel", "sharedMany", "[I", true)
  | 35 => ("LuteTabsModel", "reached", "[Z", true)
  | 36 => ("LuteTabsModel", "letters", "[I", true)
  | 37 => ("LuteTabsModel", "lettersMany", "I", false)
  | 38 => ("LuteTabsModel", "typed", "[I", true)
  | 39 => ("LuteTabsModel", "typedMany", "I", false)
  | 40 => ("LuteTabsModel", "ahead", "I", false)
  | 41 => ("LuteTabsModel", "time", "I", false)
  | 42 => ("LuteTabsModel", "next", "I", false)
  | 43 => ("LuteTabsModel", "told", "I", false)
  | 44 => ("LuteTabsModel", "forms", "[I", true)
  | 45 => ("LuteTabsModel", "sizes", "[I", true)
  | 46 => ("LuteTabsModel", "items", "[J", true)
  | 47 => ("LuteTabsModel", "moved", "[J", true)
  | _ => ("LuteTabsModel", "finding", "I", false)
def tyX9 : Nat → FieldType := fun k => match k with
  | 0 => .int
  | 1 => .array .int
  | 2 => .int
  | 3 => .int
  | 4 => .int
  | 5 => .int
  | 6 => .int
  | 7 => .array .int
  | 8 => .array .int
  | 9 => .array .int
  | 10 => .int
  | 11 => .array .int
  | 12 => .boolean
  | 13 => .array .int
  | 14 => .array .boolean
  | 15 => .array .int
  | 16 => .int
  | 17 => .array .int
  | 18 => .array .int
  | 19 => .array .int
  | 20 => .int
  | 21 => .int
  | 22 => .int
  | 23 => .boolean
  | 24 => .boolean
  | 25 => .boolean
  | 26 => .int
  | 27 => .array .int
  | 28 => .array .int
  | 29 => .array .int
  | 30 => .array .int
  | 31 => .array .int
  | 32 => .array .int
  | 33 => .array .int
  | 34 => .array .int
  | 35 => .array .boolean
  | 36 => .array .int
  | 37 => .int
  | 38 => .array .int
  | 39 => .int
  | 40 => .int
  | 41 => .int
  | 42 => .int
  | 43 => .int
  | 44 => .array .int
  | 45 => .array .int
  | 46 => .array .long
  | 47 => .array .long
  | _ => .int
abbrev wsX90 : List Cond := u_ws RX9 TX9 49
theorem nmX9 : ∀ a, a < 49 → ∀ b, b < 49 → a ≠ b → (TX9 a).2.1 ≠ (TX9 b).2.1 := by decide +kernel
theorem tyX9_ok : ∀ k, k < 49 → parseFieldDescriptor (TX9 k).2.2.1 = some (tyX9 k) := by decide +kernel
abbrev cX9_init : ByteArray := prog_11_method_1_code
def yX9_init : MethodName := ⟨RX9, "<init>", "()V"⟩
abbrev cX9_in : ByteArray := prog_11_method_3_code
def yX9_in : MethodName := ⟨RX9, "in", "(III)Z"⟩
abbrev cX9_no : ByteArray := prog_11_method_4_code
def yX9_no : MethodName := ⟨RX9, "no", "(I)J"⟩
abbrev cX9_forgets : ByteArray := prog_11_method_5_code
def yX9_forgets : MethodName := ⟨RX9, "forgets", "()V"⟩
abbrev cX9_courses : ByteArray := prog_11_method_6_code
def yX9_courses : MethodName := ⟨RX9, "courses", "(I)I"⟩
abbrev cX9_isCourse : ByteArray := prog_11_method_7_code
def yX9_isCourse : MethodName := ⟨RX9, "isCourse", "(I)Z"⟩
abbrev cX9_tune : ByteArray := prog_11_method_8_code
def yX9_tune : MethodName := ⟨RX9, "tune", "(II)I"⟩
abbrev cX9_settingOf : ByteArray := prog_11_method_9_code
def yX9_settingOf : MethodName := ⟨RX9, "settingOf", "(I)I"⟩
abbrev cX9_set : ByteArray := prog_11_method_10_code
def yX9_set : MethodName := ⟨RX9, "set", "(II)I"⟩
abbrev cX9_beginAt : ByteArray := prog_11_method_11_code
def yX9_beginAt : MethodName := ⟨RX9, "beginAt", "(I)I"⟩
abbrev cX9_puts : ByteArray := prog_11_method_12_code
def yX9_puts : MethodName := ⟨RX9, "puts", "(III)I"⟩
abbrev cX9_adds : ByteArray := prog_11_method_13_code
def yX9_adds : MethodName := ⟨RX9, "adds", "(III)I"⟩
abbrev cX9_note : ByteArray := prog_11_method_14_code
def yX9_note : MethodName := ⟨RX9, "note", "(III)I"⟩
abbrev cX9_isNote : ByteArray := prog_11_method_15_code
def yX9_isNote : MethodName := ⟨RX9, "isNote", "(I)Z"⟩
abbrev cX9_gone : ByteArray := prog_11_method_16_code
def yX9_gone : MethodName := ⟨RX9, "gone", "(I)I"⟩
abbrev cX9_clear : ByteArray := prog_11_method_17_code
def yX9_clear : MethodName := ⟨RX9, "clear", "()I"⟩
abbrev cX9_small : ByteArray := prog_11_method_18_code
def yX9_small : MethodName := ⟨RX9, "small", "(I)I"⟩
abbrev cX9_read : ByteArray := prog_11_method_19_code
def yX9_read : MethodName := ⟨RX9, "read", "(I)I"⟩
abbrev cX9_findsChords : ByteArray := prog_11_method_20_code
def yX9_findsChords : MethodName := ⟨RX9, "findsChords", "()V"⟩
abbrev cX9_chordOf : ByteArray := prog_11_method_21_code
def yX9_chordOf : MethodName := ⟨RX9, "chordOf", "(I)I"⟩
abbrev cX9_fretOf : ByteArray := prog_11_method_22_code
def yX9_fretOf : MethodName := ⟨RX9, "fretOf", "(I)I"⟩
abbrev cX9_isOnCourse : ByteArray := prog_11_method_23_code
def yX9_isOnCourse : MethodName := ⟨RX9, "isOnCourse", "(I)Z"⟩
abbrev cX9_findsLow : ByteArray := prog_11_method_24_code
def yX9_findsLow : MethodName := ⟨RX9, "findsLow", "(I)V"⟩
abbrev cX9_findsBar : ByteArray := prog_11_method_25_code
def yX9_findsBar : MethodName := ⟨RX9, "findsBar", "(I)V"⟩
abbrev cX9_looks : ByteArray := prog_11_method_26_code
def yX9_looks : MethodName := ⟨RX9, "looks", "(I)V"⟩
abbrev cX9_isGood : ByteArray := prog_11_method_27_code
def yX9_isGood : MethodName := ⟨RX9, "isGood", "(I)Z"⟩
abbrev cX9_ownCost : ByteArray := prog_11_method_28_code
def yX9_ownCost : MethodName := ⟨RX9, "ownCost", "()I"⟩
abbrev cX9_shiftCost : ByteArray := prog_11_method_29_code
def yX9_shiftCost : MethodName := ⟨RX9, "shiftCost", "(II)I"⟩
abbrev cX9_courseIn : ByteArray := prog_11_method_30_code
def yX9_courseIn : MethodName := ⟨RX9, "courseIn", "(II)I"⟩
abbrev cX9_layWay : ByteArray := prog_11_method_31_code
def yX9_layWay : MethodName := ⟨RX9, "layWay", "(II)V"⟩
abbrev cX9_findsWays : ByteArray := prog_11_method_32_code
def yX9_findsWays : MethodName := ⟨RX9, "findsWays", "(II)V"⟩
abbrev cX9_findsShared : ByteArray := prog_11_method_33_code
def yX9_findsShared : MethodName := ⟨RX9, "findsShared", "(I)V"⟩
abbrev cX9_goesOn : ByteArray := prog_11_method_34_code
def yX9_goesOn : MethodName := ⟨RX9, "goesOn", "(III)Z"⟩
abbrev cX9_joined : ByteArray := prog_11_method_35_code
def yX9_joined : MethodName := ⟨RX9, "joined", "(III)I"⟩
abbrev cX9_findsRest : ByteArray := prog_11_method_36_code
def yX9_findsRest : MethodName := ⟨RX9, "findsRest", "(I)V"⟩
abbrev cX9_leastBy : ByteArray := prog_11_method_37_code
def yX9_leastBy : MethodName := ⟨RX9, "leastBy", "(II)I"⟩
abbrev cX9_leastNow : ByteArray := prog_11_method_38_code
def yX9_leastNow : MethodName := ⟨RX9, "leastNow", "()I"⟩
abbrev cX9_least : ByteArray := prog_11_method_39_code
def yX9_least : MethodName := ⟨RX9, "least", "()I"⟩
abbrev cX9_faultNow : ByteArray := prog_11_method_40_code
def yX9_faultNow : MethodName := ⟨RX9, "faultNow", "()I"⟩
abbrev cX9_fault : ByteArray := prog_11_method_41_code
def yX9_fault : MethodName := ⟨RX9, "fault", "()I"⟩
abbrev cX9_mend : ByteArray := prog_11_method_42_code
def yX9_mend : MethodName := ⟨RX9, "mend", "()I"⟩
abbrev cX9_laysAll : ByteArray := prog_11_method_43_code
def yX9_laysAll : MethodName := ⟨RX9, "laysAll", "()V"⟩
abbrev cX9_lay : ByteArray := prog_11_method_44_code
def yX9_lay : MethodName := ⟨RX9, "lay", "(II)I"⟩
abbrev cX9_wrongNow : ByteArray := prog_11_method_45_code
def yX9_wrongNow : MethodName := ⟨RX9, "wrongNow", "()I"⟩
abbrev cX9_wrong : ByteArray := prog_11_method_46_code
def yX9_wrong : MethodName := ⟨RX9, "wrong", "()I"⟩
abbrev cX9_costOf : ByteArray := prog_11_method_47_code
def yX9_costOf : MethodName := ⟨RX9, "costOf", "(I)I"⟩
abbrev cX9_costNow : ByteArray := prog_11_method_48_code
def yX9_costNow : MethodName := ⟨RX9, "costNow", "()I"⟩
abbrev cX9_cost : ByteArray := prog_11_method_49_code
def yX9_cost : MethodName := ⟨RX9, "cost", "()I"⟩
abbrev cX9_coursesFor : ByteArray := prog_11_method_50_code
def yX9_coursesFor : MethodName := ⟨RX9, "coursesFor", "(I)I"⟩
abbrev cX9_infoOf : ByteArray := prog_11_method_51_code
def yX9_infoOf : MethodName := ⟨RX9, "infoOf", "(II)I"⟩
abbrev cX9_info : ByteArray := prog_11_method_52_code
def yX9_info : MethodName := ⟨RX9, "info", "(II)I"⟩
abbrev cX9_courseOf : ByteArray := prog_11_method_53_code
def yX9_courseOf : MethodName := ⟨RX9, "courseOf", "(II)I"⟩
abbrev cX9_course : ByteArray := prog_11_method_54_code
def yX9_course : MethodName := ⟨RX9, "course", "(II)I"⟩
abbrev cX9_chordBy : ByteArray := prog_11_method_55_code
def yX9_chordBy : MethodName := ⟨RX9, "chordBy", "(II)I"⟩
abbrev cX9_chord : ByteArray := prog_11_method_56_code
def yX9_chord : MethodName := ⟨RX9, "chord", "(II)I"⟩
abbrev cX9_without : ByteArray := prog_11_method_57_code
def yX9_without : MethodName := ⟨RX9, "without", "(I)I"⟩
abbrev cX9_key : ByteArray := prog_11_method_58_code
def yX9_key : MethodName := ⟨RX9, "key", "(I)I"⟩
abbrev cX9_easiestOf : ByteArray := prog_11_method_59_code
def yX9_easiestOf : MethodName := ⟨RX9, "easiestOf", "(I)I"⟩
abbrev cX9_easiest : ByteArray := prog_11_method_60_code
def yX9_easiest : MethodName := ⟨RX9, "easiest", "(I)I"⟩
abbrev cX9_isSlot : ByteArray := prog_11_method_61_code
def yX9_isSlot : MethodName := ⟨RX9, "isSlot", "(I)Z"⟩
abbrev cX9_fullSlots : ByteArray := prog_11_method_62_code
def yX9_fullSlots : MethodName := ⟨RX9, "fullSlots", "()I"⟩
abbrev cX9_keep : ByteArray := prog_11_method_63_code
def yX9_keep : MethodName := ⟨RX9, "keep", "(I)I"⟩
abbrev cX9_go : ByteArray := prog_11_method_64_code
def yX9_go : MethodName := ⟨RX9, "go", "(I)I"⟩
abbrev cX9_differOf : ByteArray := prog_11_method_65_code
def yX9_differOf : MethodName := ⟨RX9, "differOf", "(I)I"⟩
abbrev cX9_differ : ByteArray := prog_11_method_66_code
def yX9_differ : MethodName := ⟨RX9, "differ", "(I)I"⟩
abbrev cX9_writes : ByteArray := prog_11_method_67_code
def yX9_writes : MethodName := ⟨RX9, "writes", "(I)V"⟩
abbrev cX9_writesTime : ByteArray := prog_11_method_68_code
def yX9_writesTime : MethodName := ⟨RX9, "writesTime", "(I)V"⟩
abbrev cX9_tablature : ByteArray := prog_11_method_69_code
def yX9_tablature : MethodName := ⟨RX9, "tablature", "()I"⟩
abbrev cX9_text : ByteArray := prog_11_method_70_code
def yX9_text : MethodName := ⟨RX9, "text", "(I)I"⟩
abbrev cX9_type : ByteArray := prog_11_method_71_code
def yX9_type : MethodName := ⟨RX9, "type", "(I)I"⟩
abbrev cX9_wipe : ByteArray := prog_11_method_72_code
def yX9_wipe : MethodName := ⟨RX9, "wipe", "()I"⟩
abbrev cX9_mayBegin : ByteArray := prog_11_method_73_code
def yX9_mayBegin : MethodName := ⟨RX9, "mayBegin", "(I)Z"⟩
abbrev cX9_readsTime : ByteArray := prog_11_method_74_code
def yX9_readsTime : MethodName := ⟨RX9, "readsTime", "(I)Z"⟩
abbrev cX9_readsLetter : ByteArray := prog_11_method_75_code
def yX9_readsLetter : MethodName := ⟨RX9, "readsLetter", "(I)Z"⟩
abbrev cX9_flawNow : ByteArray := prog_11_method_76_code
def yX9_flawNow : MethodName := ⟨RX9, "flawNow", "()I"⟩
abbrev cX9_flaw : ByteArray := prog_11_method_77_code
def yX9_flaw : MethodName := ⟨RX9, "flaw", "()I"⟩
abbrev cX9_lettersTyped : ByteArray := prog_11_method_78_code
def yX9_lettersTyped : MethodName := ⟨RX9, "lettersTyped", "()I"⟩
abbrev cX9_back : ByteArray := prog_11_method_79_code
def yX9_back : MethodName := ⟨RX9, "back", "()I"⟩
abbrev cX9_meets : ByteArray := prog_11_method_80_code
def yX9_meets : MethodName := ⟨RX9, "meets", "(I)I"⟩
abbrev cX9_isSheet : ByteArray := prog_11_method_81_code
def yX9_isSheet : MethodName := ⟨RX9, "isSheet", "(I)Z"⟩
abbrev cX9_sheet : ByteArray := prog_11_method_82_code
def yX9_sheet : MethodName := ⟨RX9, "sheet", "(III)I"⟩
abbrev cX9_lose : ByteArray := prog_11_method_83_code
def yX9_lose : MethodName := ⟨RX9, "lose", "(I)I"⟩
abbrev cX9_put : ByteArray := prog_11_method_84_code
def yX9_put : MethodName := ⟨RX9, "put", "(IIII)I"⟩
abbrev cX9_get : ByteArray := prog_11_method_85_code
def yX9_get : MethodName := ⟨RX9, "get", "(II)J"⟩
abbrev cX9_copy : ByteArray := prog_11_method_86_code
def yX9_copy : MethodName := ⟨RX9, "copy", "(IIIII)I"⟩
abbrev cX9_write : ByteArray := prog_11_method_87_code
def yX9_write : MethodName := ⟨RX9, "write", "(I)I"⟩
abbrev cX9_count : ByteArray := prog_11_method_88_code
def yX9_count : MethodName := ⟨RX9, "count", "(I)I"⟩
abbrev cX9_partsDigest : ByteArray := prog_11_method_89_code
def yX9_partsDigest : MethodName := ⟨RX9, "partsDigest", "(J)J"⟩
abbrev cX9_digest : ByteArray := prog_11_method_90_code
def yX9_digest : MethodName := ⟨RX9, "digest", "()J"⟩
def RJ6 : String := "java/lang/Integer"
abbrev cJ6_bitCount_0f7a4 : ByteArray := prog_12_method_49_code
def yJ6_bitCount_0f7a4 : MethodName := ⟨RJ6, "bitCount", "(I)I"⟩
def RJ9 : String := "java/lang/Math"
abbrev cJ9_abs_0f7a4 : ByteArray := prog_13_method_59_code
def yJ9_abs_0f7a4 : MethodName := ⟨RJ9, "abs", "(I)I"⟩
abbrev cJ9_max_7cf53 : ByteArray := prog_13_method_65_code
def yJ9_max_7cf53 : MethodName := ⟨RJ9, "max", "(II)I"⟩
abbrev cJ9_min_7cf53 : ByteArray := prog_13_method_69_code
def yJ9_min_7cf53 : MethodName := ⟨RJ9, "min", "(II)I"⟩
abbrev cJ9_min_f86c9 : ByteArray := prog_13_method_70_code
def yJ9_min_f86c9 : MethodName := ⟨RJ9, "min", "(JJ)J"⟩
def RJ10 : String := "java/lang/System"
def RJ7 : String := "java/util/Arrays"
abbrev cJ7_fill_d0a16 : ByteArray := prog_15_method_101_code
def yJ7_fill_d0a16 : MethodName := ⟨RJ7, "fill", "([JJ)V"⟩
abbrev cJ7_fill_53178 : ByteArray := prog_15_method_103_code
def yJ7_fill_53178 : MethodName := ⟨RJ7, "fill", "([II)V"⟩
def RL : String := "LuteTabsLaw"
abbrev cL_law : ByteArray := code
def yL_law : MethodName := ⟨RL, "law", "([I)Z"⟩
abbrev vwCl : List vw_C := [(RX0, TX0, 13), (RX1, TX1, 3), (RX2, TX2, 8), (RX3, TX3, 9), (RX4, TX4, 2), (RX5, TX5, 9), (RX6, TX6, 4), (RX7, TX7, 5), (RX8, TX8, 13), (RX9, TX9, 49)]
