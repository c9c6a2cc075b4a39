section
-- ===== PART A: goes FIRST, ahead of the names: the tables' words, and 'selects' of the private methods out of them =====
/-- a private method of a class that the tables say can be made, by its rows of tables_1 -/
def lw_okq (q : MethodName × Nat) : Prop := (q.1.cls ≠ "java/lang/invoke/MethodHandle" ∧ q.1.cls ≠ "java/lang/invoke/VarHandle") ∧ Cond.instantiable q.1.cls q.2 ∈ tables_1 ∧ Cond.privateMethod q.1 ∈ tables_1 ∧ Cond.instanceMethod q.1 ∈ tables_1
theorem lw_p0 : lw_okq (⟨"Spotbeat", "countAt", "(I)I"⟩, 12) := ⟨⟨by decide +kernel, by decide +kernel⟩, List.mem_of_getElem? (i := 40) (by decide +kernel), List.mem_of_getElem? (i := 160) (by decide +kernel), List.mem_of_getElem? (i := 161) (by decide +kernel)⟩
theorem lw_p1 : lw_okq (⟨"Spotbeat", "lackingOf", "(LSpotbeat$Body;)I"⟩, 12) := ⟨⟨by decide +kernel, by decide +kernel⟩, List.mem_of_getElem? (i := 40) (by decide +kernel), List.mem_of_getElem? (i := 168) (by decide +kernel), List.mem_of_getElem? (i := 169) (by decide +kernel)⟩
theorem lw_p2 : lw_okq (⟨"Spotbeat", "lackingOf", "(LSpotbeat$Body;Z)I"⟩, 12) := ⟨⟨by decide +kernel, by decide +kernel⟩, List.mem_of_getElem? (i := 40) (by decide +kernel), List.mem_of_getElem? (i := 172) (by decide +kernel), List.mem_of_getElem? (i := 173) (by decide +kernel)⟩
theorem lw_p3 : lw_okq (⟨"Spotbeat", "stationsAreSound", "()Z"⟩, 12) := ⟨⟨by decide +kernel, by decide +kernel⟩, List.mem_of_getElem? (i := 40) (by decide +kernel), List.mem_of_getElem? (i := 198) (by decide +kernel), List.mem_of_getElem? (i := 199) (by decide +kernel)⟩
theorem lw_p4 : lw_okq (⟨"Spotbeat", "orderIsSound", "()Z"⟩, 12) := ⟨⟨by decide +kernel, by decide +kernel⟩, List.mem_of_getElem? (i := 40) (by decide +kernel), List.mem_of_getElem? (i := 206) (by decide +kernel), List.mem_of_getElem? (i := 207) (by decide +kernel)⟩
theorem lw_p5 : lw_okq (⟨"Spotbeat", "isPlaced", "(LSpotbeat$Body;)Z"⟩, 12) := ⟨⟨by decide +kernel, by decide +kernel⟩, List.mem_of_getElem? (i := 40) (by decide +kernel), List.mem_of_getElem? (i := 210) (by decide +kernel), List.mem_of_getElem? (i := 211) (by decide +kernel)⟩
theorem lw_p6 : lw_okq (⟨"Spotbeat", "stationAt", "(I)LSpotbeat$Station;"⟩, 12) := ⟨⟨by decide +kernel, by decide +kernel⟩, List.mem_of_getElem? (i := 40) (by decide +kernel), List.mem_of_getElem? (i := 214) (by decide +kernel), List.mem_of_getElem? (i := 215) (by decide +kernel)⟩
theorem lw_p7 : lw_okq (⟨"Spotbeat", "makersAreSound", "()Z"⟩, 12) := ⟨⟨by decide +kernel, by decide +kernel⟩, List.mem_of_getElem? (i := 40) (by decide +kernel), List.mem_of_getElem? (i := 221) (by decide +kernel), List.mem_of_getElem? (i := 222) (by decide +kernel)⟩
theorem lw_p8 : lw_okq (⟨"Spotbeat", "isMakerSound", "(ILSpotbeat$Spot;)Z"⟩, 12) := ⟨⟨by decide +kernel, by decide +kernel⟩, List.mem_of_getElem? (i := 40) (by decide +kernel), List.mem_of_getElem? (i := 226) (by decide +kernel), List.mem_of_getElem? (i := 227) (by decide +kernel)⟩
theorem lw_p9 : lw_okq (⟨"Spotbeat", "robotAt", "(I)LSpotbeat$Robot;"⟩, 12) := ⟨⟨by decide +kernel, by decide +kernel⟩, List.mem_of_getElem? (i := 40) (by decide +kernel), List.mem_of_getElem? (i := 230) (by decide +kernel), List.mem_of_getElem? (i := 231) (by decide +kernel)⟩
theorem lw_p10 : lw_okq (⟨"Spotbeat", "isPanel", "(I)Z"⟩, 12) := ⟨⟨by decide +kernel, by decide +kernel⟩, List.mem_of_getElem? (i := 40) (by decide +kernel), List.mem_of_getElem? (i := 256) (by decide +kernel), List.mem_of_getElem? (i := 257) (by decide +kernel)⟩
theorem lw_p11 : lw_okq (⟨"java/lang/Throwable", "fillInStackTrace", "(I)Ljava/lang/Throwable;"⟩, 6) := ⟨⟨by decide +kernel, by decide +kernel⟩, List.mem_of_getElem? (i := 300) (by decide +kernel), List.mem_of_getElem? (i := 298) (by decide +kernel), List.mem_of_getElem? (i := 299) (by decide +kernel)⟩
theorem lw_p12 : lw_okq (⟨"Spotbeat", "childOf", "(II)I"⟩, 12) := ⟨⟨by decide +kernel, by decide +kernel⟩, List.mem_of_getElem? (i := 40) (by decide +kernel), List.mem_of_getElem? (i := 376) (by decide +kernel), List.mem_of_getElem? (i := 377) (by decide +kernel)⟩
theorem lw_p13 : lw_okq (⟨"Spotbeat", "isPanelHeld", "(II)Z"⟩, 12) := ⟨⟨by decide +kernel, by decide +kernel⟩, List.mem_of_getElem? (i := 40) (by decide +kernel), List.mem_of_getElem? (i := 446) (by decide +kernel), List.mem_of_getElem? (i := 447) (by decide +kernel)⟩
theorem lw_p14 : lw_okq (⟨"Spotbeat", "requireStation", "(I)LSpotbeat$Station;"⟩, 12) := ⟨⟨by decide +kernel, by decide +kernel⟩, List.mem_of_getElem? (i := 40) (by decide +kernel), List.mem_of_getElem? (i := 518) (by decide +kernel), List.mem_of_getElem? (i := 519) (by decide +kernel)⟩
theorem lw_p15 : lw_okq (⟨"Spotbeat", "requireRobot", "(I)LSpotbeat$Robot;"⟩, 12) := ⟨⟨by decide +kernel, by decide +kernel⟩, List.mem_of_getElem? (i := 40) (by decide +kernel), List.mem_of_getElem? (i := 612) (by decide +kernel), List.mem_of_getElem? (i := 613) (by decide +kernel)⟩
def lw_privs_1 : List (MethodName × Nat) := [(⟨"Spotbeat", "countAt", "(I)I"⟩, 12), (⟨"Spotbeat", "lackingOf", "(LSpotbeat$Body;)I"⟩, 12), (⟨"Spotbeat", "lackingOf", "(LSpotbeat$Body;Z)I"⟩, 12), (⟨"Spotbeat", "stationsAreSound", "()Z"⟩, 12), (⟨"Spotbeat", "orderIsSound", "()Z"⟩, 12), (⟨"Spotbeat", "isPlaced", "(LSpotbeat$Body;)Z"⟩, 12), (⟨"Spotbeat", "stationAt", "(I)LSpotbeat$Station;"⟩, 12), (⟨"Spotbeat", "makersAreSound", "()Z"⟩, 12), (⟨"Spotbeat", "isMakerSound", "(ILSpotbeat$Spot;)Z"⟩, 12), (⟨"Spotbeat", "robotAt", "(I)LSpotbeat$Robot;"⟩, 12), (⟨"Spotbeat", "isPanel", "(I)Z"⟩, 12), (⟨"java/lang/Throwable", "fillInStackTrace", "(I)Ljava/lang/Throwable;"⟩, 6), (⟨"Spotbeat", "childOf", "(II)I"⟩, 12), (⟨"Spotbeat", "isPanelHeld", "(II)Z"⟩, 12), (⟨"Spotbeat", "requireStation", "(I)LSpotbeat$Station;"⟩, 12), (⟨"Spotbeat", "requireRobot", "(I)LSpotbeat$Robot;"⟩, 12)]
theorem lw_r1 : ∀ q ∈ lw_privs_1, lw_okq q := List.forall_mem_cons.mpr ⟨lw_p0, List.forall_mem_cons.mpr ⟨lw_p1, List.forall_mem_cons.mpr ⟨lw_p2, List.forall_mem_cons.mpr ⟨lw_p3, List.forall_mem_cons.mpr ⟨lw_p4, List.forall_mem_cons.mpr ⟨lw_p5, List.forall_mem_cons.mpr ⟨lw_p6, List.forall_mem_cons.mpr ⟨lw_p7, List.forall_mem_cons.mpr ⟨lw_p8, List.forall_mem_cons.mpr ⟨lw_p9, List.forall_mem_cons.mpr ⟨lw_p10, List.forall_mem_cons.mpr ⟨lw_p11, List.forall_mem_cons.mpr ⟨lw_p12, List.forall_mem_cons.mpr ⟨lw_p13, List.forall_mem_cons.mpr ⟨lw_p14, List.forall_mem_cons.mpr ⟨lw_p15, fun _ h => absurd h List.not_mem_nil⟩⟩⟩⟩⟩⟩⟩⟩⟩⟩⟩⟩⟩⟩⟩⟩
theorem lw_p16 : lw_okq (⟨"Spotbeat", "requireProgram", "(II)LSpotbeat$Program;"⟩, 12) := ⟨⟨by decide +kernel, by decide +kernel⟩, List.mem_of_getElem? (i := 40) (by decide +kernel), List.mem_of_getElem? (i := 644) (by decide +kernel), List.mem_of_getElem? (i := 645) (by decide +kernel)⟩
theorem lw_p17 : lw_okq (⟨"Spotbeat", "isStep", "(CI)Z"⟩, 12) := ⟨⟨by decide +kernel, by decide +kernel⟩, List.mem_of_getElem? (i := 40) (by decide +kernel), List.mem_of_getElem? (i := 652) (by decide +kernel), List.mem_of_getElem? (i := 653) (by decide +kernel)⟩
theorem lw_p18 : lw_okq (⟨"Spotbeat", "spotAt", "(I)LSpotbeat$Spot;"⟩, 12) := ⟨⟨by decide +kernel, by decide +kernel⟩, List.mem_of_getElem? (i := 40) (by decide +kernel), List.mem_of_getElem? (i := 656) (by decide +kernel), List.mem_of_getElem? (i := 657) (by decide +kernel)⟩
theorem lw_p19 : lw_okq (⟨"Spotbeat", "fits", "(IICI)Z"⟩, 12) := ⟨⟨by decide +kernel, by decide +kernel⟩, List.mem_of_getElem? (i := 40) (by decide +kernel), List.mem_of_getElem? (i := 661) (by decide +kernel), List.mem_of_getElem? (i := 662) (by decide +kernel)⟩
theorem lw_p20 : lw_okq (⟨"Spotbeat", "spotWelded", "(LSpotbeat$Program;I)LSpotbeat$Spot;"⟩, 12) := ⟨⟨by decide +kernel, by decide +kernel⟩, List.mem_of_getElem? (i := 40) (by decide +kernel), List.mem_of_getElem? (i := 692) (by decide +kernel), List.mem_of_getElem? (i := 693) (by decide +kernel)⟩
theorem lw_p21 : lw_okq (⟨"Spotbeat", "explore", "(II)V"⟩, 12) := ⟨⟨by decide +kernel, by decide +kernel⟩, List.mem_of_getElem? (i := 40) (by decide +kernel), List.mem_of_getElem? (i := 717) (by decide +kernel), List.mem_of_getElem? (i := 718) (by decide +kernel)⟩
theorem lw_p22 : lw_okq (⟨"Spotbeat$Track", "layCells", "(III)V"⟩, 6) := ⟨⟨by decide +kernel, by decide +kernel⟩, List.mem_of_getElem? (i := 63) (by decide +kernel), List.mem_of_getElem? (i := 740) (by decide +kernel), List.mem_of_getElem? (i := 741) (by decide +kernel)⟩
theorem lw_p23 : lw_okq (⟨"Spotbeat$Track", "layCell", "(III)V"⟩, 6) := ⟨⟨by decide +kernel, by decide +kernel⟩, List.mem_of_getElem? (i := 63) (by decide +kernel), List.mem_of_getElem? (i := 749) (by decide +kernel), List.mem_of_getElem? (i := 750) (by decide +kernel)⟩
theorem lw_p24 : lw_okq (⟨"Spotbeat$Paces", "visit", "(I)V"⟩, 6) := ⟨⟨by decide +kernel, by decide +kernel⟩, List.mem_of_getElem? (i := 56) (by decide +kernel), List.mem_of_getElem? (i := 757) (by decide +kernel), List.mem_of_getElem? (i := 758) (by decide +kernel)⟩
theorem lw_p25 : lw_okq (⟨"Spotbeat$Paces", "place", "(I)V"⟩, 6) := ⟨⟨by decide +kernel, by decide +kernel⟩, List.mem_of_getElem? (i := 56) (by decide +kernel), List.mem_of_getElem? (i := 761) (by decide +kernel), List.mem_of_getElem? (i := 762) (by decide +kernel)⟩
theorem lw_p26 : lw_okq (⟨"Spotbeat$Paces", "isMeeting", "()Z"⟩, 6) := ⟨⟨by decide +kernel, by decide +kernel⟩, List.mem_of_getElem? (i := 56) (by decide +kernel), List.mem_of_getElem? (i := 765) (by decide +kernel), List.mem_of_getElem? (i := 766) (by decide +kernel)⟩
theorem lw_p27 : lw_okq (⟨"Spotbeat$Track", "lowHeld", "()J"⟩, 6) := ⟨⟨by decide +kernel, by decide +kernel⟩, List.mem_of_getElem? (i := 63) (by decide +kernel), List.mem_of_getElem? (i := 773) (by decide +kernel), List.mem_of_getElem? (i := 774) (by decide +kernel)⟩
theorem lw_p28 : lw_okq (⟨"Spotbeat$Track", "highHeld", "()J"⟩, 6) := ⟨⟨by decide +kernel, by decide +kernel⟩, List.mem_of_getElem? (i := 63) (by decide +kernel), List.mem_of_getElem? (i := 777) (by decide +kernel), List.mem_of_getElem? (i := 778) (by decide +kernel)⟩
theorem lw_p29 : lw_okq (⟨"Spotbeat$Paces", "hasStepsLeft", "()Z"⟩, 6) := ⟨⟨by decide +kernel, by decide +kernel⟩, List.mem_of_getElem? (i := 56) (by decide +kernel), List.mem_of_getElem? (i := 781) (by decide +kernel), List.mem_of_getElem? (i := 782) (by decide +kernel)⟩
theorem lw_p30 : lw_okq (⟨"Spotbeat$Paces", "markNext", "(I)I"⟩, 6) := ⟨⟨by decide +kernel, by decide +kernel⟩, List.mem_of_getElem? (i := 56) (by decide +kernel), List.mem_of_getElem? (i := 789) (by decide +kernel), List.mem_of_getElem? (i := 790) (by decide +kernel)⟩
theorem lw_p31 : lw_okq (⟨"Spotbeat$Paces", "canStep", "(LSpotbeat$Track;)Z"⟩, 6) := ⟨⟨by decide +kernel, by decide +kernel⟩, List.mem_of_getElem? (i := 56) (by decide +kernel), List.mem_of_getElem? (i := 793) (by decide +kernel), List.mem_of_getElem? (i := 794) (by decide +kernel)⟩
def lw_privs_2 : List (MethodName × Nat) := [(⟨"Spotbeat", "requireProgram", "(II)LSpotbeat$Program;"⟩, 12), (⟨"Spotbeat", "isStep", "(CI)Z"⟩, 12), (⟨"Spotbeat", "spotAt", "(I)LSpotbeat$Spot;"⟩, 12), (⟨"Spotbeat", "fits", "(IICI)Z"⟩, 12), (⟨"Spotbeat", "spotWelded", "(LSpotbeat$Program;I)LSpotbeat$Spot;"⟩, 12), (⟨"Spotbeat", "explore", "(II)V"⟩, 12), (⟨"Spotbeat$Track", "layCells", "(III)V"⟩, 6), (⟨"Spotbeat$Track", "layCell", "(III)V"⟩, 6), (⟨"Spotbeat$Paces", "visit", "(I)V"⟩, 6), (⟨"Spotbeat$Paces", "place", "(I)V"⟩, 6), (⟨"Spotbeat$Paces", "isMeeting", "()Z"⟩, 6), (⟨"Spotbeat$Track", "lowHeld", "()J"⟩, 6), (⟨"Spotbeat$Track", "highHeld", "()J"⟩, 6), (⟨"Spotbeat$Paces", "hasStepsLeft", "()Z"⟩, 6), (⟨"Spotbeat$Paces", "markNext", "(I)I"⟩, 6), (⟨"Spotbeat$Paces", "canStep", "(LSpotbeat$Track;)Z"⟩, 6)]
theorem lw_r2 : ∀ q ∈ lw_privs_2, lw_okq q := List.forall_mem_cons.mpr ⟨lw_p16, List.forall_mem_cons.mpr ⟨lw_p17, List.forall_mem_cons.mpr ⟨lw_p18, List.forall_mem_cons.mpr ⟨lw_p19, List.forall_mem_cons.mpr ⟨lw_p20, List.forall_mem_cons.mpr ⟨lw_p21, List.forall_mem_cons.mpr ⟨lw_p22, List.forall_mem_cons.mpr ⟨lw_p23, List.forall_mem_cons.mpr ⟨lw_p24, List.forall_mem_cons.mpr ⟨lw_p25, List.forall_mem_cons.mpr ⟨lw_p26, List.forall_mem_cons.mpr ⟨lw_p27, List.forall_mem_cons.mpr ⟨lw_p28, List.forall_mem_cons.mpr ⟨lw_p29, List.forall_mem_cons.mpr ⟨lw_p30, List.forall_mem_cons.mpr ⟨lw_p31, fun _ h => absurd h List.not_mem_nil⟩⟩⟩⟩⟩⟩⟩⟩⟩⟩⟩⟩⟩⟩⟩⟩
theorem lw_p32 : lw_okq (⟨"Spotbeat$Paces", "mark", "(I)V"⟩, 6) := ⟨⟨by decide +kernel, by decide +kernel⟩, List.mem_of_getElem? (i := 56) (by decide +kernel), List.mem_of_getElem? (i := 805) (by decide +kernel), List.mem_of_getElem? (i := 806) (by decide +kernel)⟩
theorem lw_p33 : lw_okq (⟨"Spotbeat", "isUncovered", "(LSpotbeat$Spot;I)Z"⟩, 12) := ⟨⟨by decide +kernel, by decide +kernel⟩, List.mem_of_getElem? (i := 40) (by decide +kernel), List.mem_of_getElem? (i := 831) (by decide +kernel), List.mem_of_getElem? (i := 832) (by decide +kernel)⟩
theorem lw_p34 : lw_okq (⟨"Spotbeat", "hasWeld", "(LSpotbeat$Program;LSpotbeat$Spot;)Z"⟩, 12) := ⟨⟨by decide +kernel, by decide +kernel⟩, List.mem_of_getElem? (i := 40) (by decide +kernel), List.mem_of_getElem? (i := 835) (by decide +kernel), List.mem_of_getElem? (i := 836) (by decide +kernel)⟩
theorem lw_p35 : lw_okq (⟨"Spotbeat", "dealSpot", "(LSpotbeat$Spot;I)Z"⟩, 12) := ⟨⟨by decide +kernel, by decide +kernel⟩, List.mem_of_getElem? (i := 40) (by decide +kernel), List.mem_of_getElem? (i := 846) (by decide +kernel), List.mem_of_getElem? (i := 847) (by decide +kernel)⟩
theorem lw_p36 : lw_okq (⟨"Spotbeat", "run", "(LSpotbeat$Station;)Z"⟩, 12) := ⟨⟨by decide +kernel, by decide +kernel⟩, List.mem_of_getElem? (i := 40) (by decide +kernel), List.mem_of_getElem? (i := 894) (by decide +kernel), List.mem_of_getElem? (i := 895) (by decide +kernel)⟩
theorem lw_p37 : lw_okq (⟨"Spotbeat", "work", "(LSpotbeat$Station;LSpotbeat$Body;)V"⟩, 12) := ⟨⟨by decide +kernel, by decide +kernel⟩, List.mem_of_getElem? (i := 40) (by decide +kernel), List.mem_of_getElem? (i := 898) (by decide +kernel), List.mem_of_getElem? (i := 899) (by decide +kernel)⟩
theorem lw_p38 : lw_okq (⟨"Spotbeat", "welderFor", "(LSpotbeat$Robot;LSpotbeat$Spot;)LSpotbeat$Robot;"⟩, 12) := ⟨⟨by decide +kernel, by decide +kernel⟩, List.mem_of_getElem? (i := 40) (by decide +kernel), List.mem_of_getElem? (i := 902) (by decide +kernel), List.mem_of_getElem? (i := 903) (by decide +kernel)⟩
theorem lw_p39 : lw_okq (⟨"Spotbeat", "weld", "(LSpotbeat$Robot;LSpotbeat$Spot;LSpotbeat$Body;)V"⟩, 12) := ⟨⟨by decide +kernel, by decide +kernel⟩, List.mem_of_getElem? (i := 40) (by decide +kernel), List.mem_of_getElem? (i := 906) (by decide +kernel), List.mem_of_getElem? (i := 907) (by decide +kernel)⟩
theorem lw_p40 : lw_okq (⟨"Spotbeat", "measureOf", "(LSpotbeat$Body;)I"⟩, 12) := ⟨⟨by decide +kernel, by decide +kernel⟩, List.mem_of_getElem? (i := 40) (by decide +kernel), List.mem_of_getElem? (i := 922) (by decide +kernel), List.mem_of_getElem? (i := 923) (by decide +kernel)⟩
theorem lw_p41 : lw_okq (⟨"Spotbeat", "bringWaiting", "()V"⟩, 12) := ⟨⟨by decide +kernel, by decide +kernel⟩, List.mem_of_getElem? (i := 40) (by decide +kernel), List.mem_of_getElem? (i := 926) (by decide +kernel), List.mem_of_getElem? (i := 927) (by decide +kernel)⟩
theorem lw_p42 : lw_okq (⟨"Spotbeat", "requireBody", "(I)LSpotbeat$Body;"⟩, 12) := ⟨⟨by decide +kernel, by decide +kernel⟩, List.mem_of_getElem? (i := 40) (by decide +kernel), List.mem_of_getElem? (i := 961) (by decide +kernel), List.mem_of_getElem? (i := 962) (by decide +kernel)⟩
theorem lw_p43 : lw_okq (⟨"Spotbeat", "bodyAt", "(I)LSpotbeat$Body;"⟩, 12) := ⟨⟨by decide +kernel, by decide +kernel⟩, List.mem_of_getElem? (i := 40) (by decide +kernel), List.mem_of_getElem? (i := 965) (by decide +kernel), List.mem_of_getElem? (i := 966) (by decide +kernel)⟩
theorem lw_p44 : lw_okq (⟨"Spotbeat", "requireSpot", "(I)LSpotbeat$Spot;"⟩, 12) := ⟨⟨by decide +kernel, by decide +kernel⟩, List.mem_of_getElem? (i := 40) (by decide +kernel), List.mem_of_getElem? (i := 1043) (by decide +kernel), List.mem_of_getElem? (i := 1044) (by decide +kernel)⟩
theorem lw_p45 : lw_okq (⟨"Spotbeat", "meanOfLast", "(I)I"⟩, 12) := ⟨⟨by decide +kernel, by decide +kernel⟩, List.mem_of_getElem? (i := 40) (by decide +kernel), List.mem_of_getElem? (i := 1097) (by decide +kernel), List.mem_of_getElem? (i := 1098) (by decide +kernel)⟩
theorem lw_p46 : lw_okq (⟨"SpotbeatModel", "isWrong", "(I)Z"⟩, 8) := ⟨⟨by decide +kernel, by decide +kernel⟩, List.mem_of_getElem? (i := 1118) (by decide +kernel), List.mem_of_getElem? (i := 1211) (by decide +kernel), List.mem_of_getElem? (i := 1212) (by decide +kernel)⟩
theorem lw_p47 : lw_okq (⟨"java/util/ArrayList", "add", "(Ljava/lang/Object;[Ljava/lang/Object;I)V"⟩, 3) := ⟨⟨by decide +kernel, by decide +kernel⟩, List.mem_of_getElem? (i := 1124) (by decide +kernel), List.mem_of_getElem? (i := 1244) (by decide +kernel), List.mem_of_getElem? (i := 1245) (by decide +kernel)⟩
def lw_privs_3 : List (MethodName × Nat) := [(⟨"Spotbeat$Paces", "mark", "(I)V"⟩, 6), (⟨"Spotbeat", "isUncovered", "(LSpotbeat$Spot;I)Z"⟩, 12), (⟨"Spotbeat", "hasWeld", "(LSpotbeat$Program;LSpotbeat$Spot;)Z"⟩, 12), (⟨"Spotbeat", "dealSpot", "(LSpotbeat$Spot;I)Z"⟩, 12), (⟨"Spotbeat", "run", "(LSpotbeat$Station;)Z"⟩, 12), (⟨"Spotbeat", "work", "(LSpotbeat$Station;LSpotbeat$Body;)V"⟩, 12), (⟨"Spotbeat", "welderFor", "(LSpotbeat$Robot;LSpotbeat$Spot;)LSpotbeat$Robot;"⟩, 12), (⟨"Spotbeat", "weld", "(LSpotbeat$Robot;LSpotbeat$Spot;LSpotbeat$Body;)V"⟩, 12), (⟨"Spotbeat", "measureOf", "(LSpotbeat$Body;)I"⟩, 12), (⟨"Spotbeat", "bringWaiting", "()V"⟩, 12), (⟨"Spotbeat", "requireBody", "(I)LSpotbeat$Body;"⟩, 12), (⟨"Spotbeat", "bodyAt", "(I)LSpotbeat$Body;"⟩, 12), (⟨"Spotbeat", "requireSpot", "(I)LSpotbeat$Spot;"⟩, 12), (⟨"Spotbeat", "meanOfLast", "(I)I"⟩, 12), (⟨"SpotbeatModel", "isWrong", "(I)Z"⟩, 8), (⟨"java/util/ArrayList", "add", "(Ljava/lang/Object;[Ljava/lang/Object;I)V"⟩, 3)]
theorem lw_r3 : ∀ q ∈ lw_privs_3, lw_okq q := List.forall_mem_cons.mpr ⟨lw_p32, List.forall_mem_cons.mpr ⟨lw_p33, List.forall_mem_cons.mpr ⟨lw_p34, List.forall_mem_cons.mpr ⟨lw_p35, List.forall_mem_cons.mpr ⟨lw_p36, List.forall_mem_cons.mpr ⟨lw_p37, List.forall_mem_cons.mpr ⟨lw_p38, List.forall_mem_cons.mpr ⟨lw_p39, List.forall_mem_cons.mpr ⟨lw_p40, List.forall_mem_cons.mpr ⟨lw_p41, List.forall_mem_cons.mpr ⟨lw_p42, List.forall_mem_cons.mpr ⟨lw_p43, List.forall_mem_cons.mpr ⟨lw_p44, List.forall_mem_cons.mpr ⟨lw_p45, List.forall_mem_cons.mpr ⟨lw_p46, List.forall_mem_cons.mpr ⟨lw_p47, fun _ h => absurd h List.not_mem_nil⟩⟩⟩⟩⟩⟩⟩⟩⟩⟩⟩⟩⟩⟩⟩⟩
theorem lw_p48 : lw_okq (⟨"java/util/ArrayList", "grow", "()[Ljava/lang/Object;"⟩, 3) := ⟨⟨by decide +kernel, by decide +kernel⟩, List.mem_of_getElem? (i := 1124) (by decide +kernel), List.mem_of_getElem? (i := 1248) (by decide +kernel), List.mem_of_getElem? (i := 1249) (by decide +kernel)⟩
theorem lw_p49 : lw_okq (⟨"java/util/ArrayList", "grow", "(I)[Ljava/lang/Object;"⟩, 3) := ⟨⟨by decide +kernel, by decide +kernel⟩, List.mem_of_getElem? (i := 1124) (by decide +kernel), List.mem_of_getElem? (i := 1252) (by decide +kernel), List.mem_of_getElem? (i := 1253) (by decide +kernel)⟩
theorem lw_p50 : lw_okq (⟨"SpotbeatModel", "isNoProgram", "(II)Z"⟩, 8) := ⟨⟨by decide +kernel, by decide +kernel⟩, List.mem_of_getElem? (i := 1118) (by decide +kernel), List.mem_of_getElem? (i := 1566) (by decide +kernel), List.mem_of_getElem? (i := 1567) (by decide +kernel)⟩
theorem lw_p51 : lw_okq (⟨"SpotbeatModel", "isWeld", "(LSpotbeatModel$Robot;II)Z"⟩, 8) := ⟨⟨by decide +kernel, by decide +kernel⟩, List.mem_of_getElem? (i := 1118) (by decide +kernel), List.mem_of_getElem? (i := 1587) (by decide +kernel), List.mem_of_getElem? (i := 1588) (by decide +kernel)⟩
theorem lw_p52 : lw_okq (⟨"SpotbeatModel", "isNoStation", "(II)Z"⟩, 8) := ⟨⟨by decide +kernel, by decide +kernel⟩, List.mem_of_getElem? (i := 1118) (by decide +kernel), List.mem_of_getElem? (i := 1604) (by decide +kernel), List.mem_of_getElem? (i := 1605) (by decide +kernel)⟩
theorem lw_p53 : lw_okq (⟨"SpotbeatModel", "robotsOf", "(I)Ljava/util/List;"⟩, 8) := ⟨⟨by decide +kernel, by decide +kernel⟩, List.mem_of_getElem? (i := 1118) (by decide +kernel), List.mem_of_getElem? (i := 1608) (by decide +kernel), List.mem_of_getElem? (i := 1609) (by decide +kernel)⟩
theorem lw_p54 : lw_okq (⟨"SpotbeatModel", "reached", "(II)Ljava/util/List;"⟩, 8) := ⟨⟨by decide +kernel, by decide +kernel⟩, List.mem_of_getElem? (i := 1118) (by decide +kernel), List.mem_of_getElem? (i := 1612) (by decide +kernel), List.mem_of_getElem? (i := 1613) (by decide +kernel)⟩
theorem lw_p55 : lw_okq (⟨"SpotbeatModel", "canStep", "([ILjava/util/List;II)Z"⟩, 8) := ⟨⟨by decide +kernel, by decide +kernel⟩, List.mem_of_getElem? (i := 1118) (by decide +kernel), List.mem_of_getElem? (i := 1616) (by decide +kernel), List.mem_of_getElem? (i := 1617) (by decide +kernel)⟩
theorem lw_p56 : lw_okq (⟨"SpotbeatModel", "canMeet", "([ILjava/util/List;I)Z"⟩, 8) := ⟨⟨by decide +kernel, by decide +kernel⟩, List.mem_of_getElem? (i := 1118) (by decide +kernel), List.mem_of_getElem? (i := 1630) (by decide +kernel), List.mem_of_getElem? (i := 1631) (by decide +kernel)⟩
theorem lw_p57 : lw_okq (⟨"SpotbeatModel", "isHolding", "(LSpotbeatModel$Robot;III)Z"⟩, 8) := ⟨⟨by decide +kernel, by decide +kernel⟩, List.mem_of_getElem? (i := 1118) (by decide +kernel), List.mem_of_getElem? (i := 1634) (by decide +kernel), List.mem_of_getElem? (i := 1635) (by decide +kernel)⟩
theorem lw_p58 : lw_okq (⟨"SpotbeatModel", "isCovered", "(II)Z"⟩, 8) := ⟨⟨by decide +kernel, by decide +kernel⟩, List.mem_of_getElem? (i := 1118) (by decide +kernel), List.mem_of_getElem? (i := 1648) (by decide +kernel), List.mem_of_getElem? (i := 1649) (by decide +kernel)⟩
theorem lw_p59 : lw_okq (⟨"SpotbeatModel", "works", "(LSpotbeatModel$Station;)V"⟩, 8) := ⟨⟨by decide +kernel, by decide +kernel⟩, List.mem_of_getElem? (i := 1118) (by decide +kernel), List.mem_of_getElem? (i := 1689) (by decide +kernel), List.mem_of_getElem? (i := 1690) (by decide +kernel)⟩
theorem lw_p60 : lw_okq (⟨"SpotbeatModel", "welds", "(LSpotbeatModel$Body;II)V"⟩, 8) := ⟨⟨by decide +kernel, by decide +kernel⟩, List.mem_of_getElem? (i := 1118) (by decide +kernel), List.mem_of_getElem? (i := 1693) (by decide +kernel), List.mem_of_getElem? (i := 1694) (by decide +kernel)⟩
theorem lw_p61 : lw_okq (⟨"SpotbeatModel", "lacking", "(LSpotbeatModel$Body;Z)I"⟩, 8) := ⟨⟨by decide +kernel, by decide +kernel⟩, List.mem_of_getElem? (i := 1118) (by decide +kernel), List.mem_of_getElem? (i := 1697) (by decide +kernel), List.mem_of_getElem? (i := 1698) (by decide +kernel)⟩
theorem lw_p62 : lw_okq (⟨"SpotbeatModel", "isLackingNow", "(LSpotbeatModel$Body;I)Z"⟩, 8) := ⟨⟨by decide +kernel, by decide +kernel⟩, List.mem_of_getElem? (i := 1118) (by decide +kernel), List.mem_of_getElem? (i := 1701) (by decide +kernel), List.mem_of_getElem? (i := 1702) (by decide +kernel)⟩
theorem lw_p63 : lw_okq (⟨"SpotbeatModel", "goesOff", "(LSpotbeatModel$Body;)V"⟩, 8) := ⟨⟨by decide +kernel, by decide +kernel⟩, List.mem_of_getElem? (i := 1118) (by decide +kernel), List.mem_of_getElem? (i := 1705) (by decide +kernel), List.mem_of_getElem? (i := 1706) (by decide +kernel)⟩
def lw_privs_4 : List (MethodName × Nat) := [(⟨"java/util/ArrayList", "grow", "()[Ljava/lang/Object;"⟩, 3), (⟨"java/util/ArrayList", "grow", "(I)[Ljava/lang/Object;"⟩, 3), (⟨"SpotbeatModel", "isNoProgram", "(II)Z"⟩, 8), (⟨"SpotbeatModel", "isWeld", "(LSpotbeatModel$Robot;II)Z"⟩, 8), (⟨"SpotbeatModel", "isNoStation", "(II)Z"⟩, 8), (⟨"SpotbeatModel", "robotsOf", "(I)Ljava/util/List;"⟩, 8), (⟨"SpotbeatModel", "reached", "(II)Ljava/util/List;"⟩, 8), (⟨"SpotbeatModel", "canStep", "([ILjava/util/List;II)Z"⟩, 8), (⟨"SpotbeatModel", "canMeet", "([ILjava/util/List;I)Z"⟩, 8), (⟨"SpotbeatModel", "isHolding", "(LSpotbeatModel$Robot;III)Z"⟩, 8), (⟨"SpotbeatModel", "isCovered", "(II)Z"⟩, 8), (⟨"SpotbeatModel", "works", "(LSpotbeatModel$Station;)V"⟩, 8), (⟨"SpotbeatModel", "welds", "(LSpotbeatModel$Body;II)V"⟩, 8), (⟨"SpotbeatModel", "lacking", "(LSpotbeatModel$Body;Z)I"⟩, 8), (⟨"SpotbeatModel", "isLackingNow", "(LSpotbeatModel$Body;I)Z"⟩, 8), (⟨"SpotbeatModel", "goesOff", "(LSpotbeatModel$Body;)V"⟩, 8)]
theorem lw_r4 : ∀ q ∈ lw_privs_4, lw_okq q := List.forall_mem_cons.mpr ⟨lw_p48, List.forall_mem_cons.mpr ⟨lw_p49, List.forall_mem_cons.mpr ⟨lw_p50, List.forall_mem_cons.mpr ⟨lw_p51, List.forall_mem_cons.mpr ⟨lw_p52, List.forall_mem_cons.mpr ⟨lw_p53, List.forall_mem_cons.mpr ⟨lw_p54, List.forall_mem_cons.mpr ⟨lw_p55, List.forall_mem_cons.mpr ⟨lw_p56, List.forall_mem_cons.mpr ⟨lw_p57, List.forall_mem_cons.mpr ⟨lw_p58, List.forall_mem_cons.mpr ⟨lw_p59, List.forall_mem_cons.mpr ⟨lw_p60, List.forall_mem_cons.mpr ⟨lw_p61, List.forall_mem_cons.mpr ⟨lw_p62, List.forall_mem_cons.mpr ⟨lw_p63, fun _ h => absurd h List.not_mem_nil⟩⟩⟩⟩⟩⟩⟩⟩⟩⟩⟩⟩⟩⟩⟩⟩
theorem lw_p64 : lw_okq (⟨"SpotbeatModel", "comes", "(II)V"⟩, 8) := ⟨⟨by decide +kernel, by decide +kernel⟩, List.mem_of_getElem? (i := 1118) (by decide +kernel), List.mem_of_getElem? (i := 1709) (by decide +kernel), List.mem_of_getElem? (i := 1710) (by decide +kernel)⟩
theorem lw_p65 : lw_okq (⟨"SpotbeatModel", "isNoBody", "(I)Z"⟩, 8) := ⟨⟨by decide +kernel, by decide +kernel⟩, List.mem_of_getElem? (i := 1118) (by decide +kernel), List.mem_of_getElem? (i := 1725) (by decide +kernel), List.mem_of_getElem? (i := 1726) (by decide +kernel)⟩
theorem lw_p66 : lw_okq (⟨"SpotbeatModel", "isNoRobot", "(I)Z"⟩, 8) := ⟨⟨by decide +kernel, by decide +kernel⟩, List.mem_of_getElem? (i := 1118) (by decide +kernel), List.mem_of_getElem? (i := 1819) (by decide +kernel), List.mem_of_getElem? (i := 1820) (by decide +kernel)⟩
theorem lw_p67 : lw_okq (⟨"SpotbeatModel", "lacking", "(LSpotbeatModel$Body;)I"⟩, 8) := ⟨⟨by decide +kernel, by decide +kernel⟩, List.mem_of_getElem? (i := 1118) (by decide +kernel), List.mem_of_getElem? (i := 1847) (by decide +kernel), List.mem_of_getElem? (i := 1848) (by decide +kernel)⟩
theorem lw_p68 : lw_okq (⟨"SpotbeatModel", "isNoSpot", "(II)Z"⟩, 8) := ⟨⟨by decide +kernel, by decide +kernel⟩, List.mem_of_getElem? (i := 1118) (by decide +kernel), List.mem_of_getElem? (i := 1855) (by decide +kernel), List.mem_of_getElem? (i := 1856) (by decide +kernel)⟩
theorem lw_p69 : lw_okq (⟨"SpotbeatModel", "wholes", "()I"⟩, 8) := ⟨⟨by decide +kernel, by decide +kernel⟩, List.mem_of_getElem? (i := 1118) (by decide +kernel), List.mem_of_getElem? (i := 1875) (by decide +kernel), List.mem_of_getElem? (i := 1876) (by decide +kernel)⟩
theorem lw_p70 : lw_okq (⟨"SpotbeatModel", "off", "()I"⟩, 8) := ⟨⟨by decide +kernel, by decide +kernel⟩, List.mem_of_getElem? (i := 1118) (by decide +kernel), List.mem_of_getElem? (i := 1891) (by decide +kernel), List.mem_of_getElem? (i := 1892) (by decide +kernel)⟩
def lw_privs_5 : List (MethodName × Nat) := [(⟨"SpotbeatModel", "comes", "(II)V"⟩, 8), (⟨"SpotbeatModel", "isNoBody", "(I)Z"⟩, 8), (⟨"SpotbeatModel", "isNoRobot", "(I)Z"⟩, 8), (⟨"SpotbeatModel", "lacking", "(LSpotbeatModel$Body;)I"⟩, 8), (⟨"SpotbeatModel", "isNoSpot", "(II)Z"⟩, 8), (⟨"SpotbeatModel", "wholes", "()I"⟩, 8), (⟨"SpotbeatModel", "off", "()I"⟩, 8)]
theorem lw_r5 : ∀ q ∈ lw_privs_5, lw_okq q := List.forall_mem_cons.mpr ⟨lw_p64, List.forall_mem_cons.mpr ⟨lw_p65, List.forall_mem_cons.mpr ⟨lw_p66, List.forall_mem_cons.mpr ⟨lw_p67, List.forall_mem_cons.mpr ⟨lw_p68, List.forall_mem_cons.mpr ⟨lw_p69, List.forall_mem_cons.mpr ⟨lw_p70, fun _ h => absurd h List.not_mem_nil⟩⟩⟩⟩⟩⟩⟩
def lw_privs : List (MethodName × Nat) := lw_privs_1 ++ (lw_privs_2 ++ (lw_privs_3 ++ (lw_privs_4 ++ (lw_privs_5))))
def lw_tbl : List Cond := k2_sels lw_privs ++ tables_1
theorem lw_privs_ok : ∀ q ∈ lw_privs, lw_okq q := by
  show ∀ q ∈ lw_privs_1 ++ (lw_privs_2 ++ (lw_privs_3 ++ (lw_privs_4 ++ (lw_privs_5)))), lw_okq q
  exact List.forall_mem_append.mpr ⟨lw_r1, List.forall_mem_append.mpr ⟨lw_r2, List.forall_mem_append.mpr ⟨lw_r3, List.forall_mem_append.mpr ⟨lw_r4, lw_r5⟩⟩⟩⟩
/-- the streams that the claim lets the run draw from -/
abbrev lw_cs : List Choice := [Jvm.Choice.named "NaN.bits"]
theorem lw_bits : nanBits ∈ lw_cs := by first | decide | exact List.mem_cons_self | simp [lw_cs, nanBits]
-- ===== end of PART A; then your names; then what follows =====
end
section
/-! ===== BEGIN words of one list among another's, by their places ===== -/
theorem goodIn_r {big : List Cond} (ws : List Cond) (ps : List Nat) (hp : ws = ps.filterMap (fun i => big[i]?)) (h : ws.all goodWord = true) : GoodIn big ws := by
  intro w hw
  have h1 := List.all_eq_true.mp h w hw
  rw [hp] at hw
  obtain ⟨i, -, hi⟩ := List.mem_filterMap.mp hw
  have hm : w ∈ big := by first | exact List.mem_of_getElem? hi | exact List.getElem?_mem hi
  exact ⟨hm, good_of_word h1⟩
theorem goodIn_app {big a b : List Cond} (ha : GoodIn big a) (hb : GoodIn big b) : GoodIn big (a ++ b) := fun w h => (List.mem_append.mp h).elim (ha w) (hb w)
theorem goodIn_ca {big a b : List Cond} {c : Cond} (ha : GoodIn big (c :: a)) (hb : GoodIn big b) : GoodIn big (c :: (a ++ b)) := fun w h => (List.mem_cons.mp h).elim (fun e => ha w (List.mem_cons.mpr (Or.inl e))) (fun h => (List.mem_append.mp h).elim (fun h => ha w (List.mem_cons.mpr (Or.inr h))) (hb w))
theorem goodIn_sub {big ws : List Cond} (hm : ∀ w ∈ ws, w ∈ big) (h : ws.all goodWord = true) : GoodIn big ws := fun w hw => ⟨hm w hw, good_of_word (List.all_eq_true.mp h w hw)⟩
/-! ===== END ===== -/

/-! ===== BEGIN exceptions that leave a method, and their catching by the caller (launches without stack traces) ===== -/
section VXA
/-! The laws vx_back, vx_callV, vx_callS, vx_callSW, vx_throw0, vx_throwS follow proofs of the library, with one case more: JvmDerived/Free/Laws.lean (Back.of_free), Shelf42/LK1.lean (callV, callS), Shelf/KitTraced.lean (throwNew0V, throwNewS). -/
/-- where a method has thrown q: the class by its name, the cell, what was written, the world -/
def vx_T (XC : String → State → State → Prop) (st : State) (q : Addr) (t : State) (mc ms : Nat) (free : Addr → Prop) : Prop :=
  ∃ (E : String) (ce : Cell) (L : List Loc), XC E st t ∧ t.heap[q]? = some ce ∧ ce.vm = .none ∧ st.vm.findClass E = some ce.cls ∧ st.WarmedH t.vm ∧ st.sameButNew ({ t with vm := st.vm } : State) L mc ms ∧ ∀ z ∈ L, free z.base
def vx_Q (Qc : Array Value → State → Outcome → State → Prop) (XC : String → State → State → Prop) (mc ms : Nat) (free : Addr → Prop) : Array Value → State → Outcome → State → Prop := fun a st o t =>
  (Qc a st o t ∧ ∃ L, FrameEnd st o t L mc ms ∧ ∀ q ∈ L, free q.base) ∨ ∃ q, o = .threw q ∧ vx_T XC st q t mc ms free
/-- a callee that returns or throws -/
def vx_Met (l : Launch) (y : MethodName) (ws : List Cond) (rm : Room) (Pc : Array Value → State → Prop) (Qc : Array Value → State → Outcome → State → Prop) (XC : String → State → State → Prop) (mc ms : Nat) (free : Addr → Prop) : Prop :=
  MetFree l y (headSpec ws rm) Pc (fun _ _ _ _ _ => True) (vx_Q Qc XC mc ms free)
def vx_Post (XC : String → State → State → Prop) (mc ms : Nat) (free : Addr → Prop) : Pt → Array Value → Addr → Pt → Prop := fun A a q B =>
  ∃ (g : JFrame) (mk : MethodId) (t : State) (L : List Loc) (E : String) (ce : Cell), B.U.heap = t.heap ∧ B.U.vm = t.vm ∧ XC E (A.U.calling g mk a) t ∧ t.heap[q]? = some ce ∧ ce.vm = .none ∧ A.U.vm.findClass E = some ce.cls ∧ B.locs = A.locs ++ L ∧ (∀ z ∈ L, free z.base) ∧ B.cells = A.cells + mc ∧ B.slots = A.slots + ms
def vx_Back (l : Launch) (R : Room) (p : Program) (e : Env) (below : List Frame) (s : State) (sargs : Array Value) (y : MethodName) (len W9 : Nat)
    (Pre : Pt → Array Value → Prop) (Post : Pt → Array Value → Option Value → Pt → Prop) (PostX : Pt → Array Value → Addr → Pt → Prop) : Prop :=
  ∀ (m : MethodId) (meth : Method) (c : Code) (A : Pt) (g : JFrame) (ig : Instr) (mk : MethodId) (a : Array Value),
    Stand p l e R s m sargs below meth c A.U A.locs A.cells A.slots → g.method = m → g.locals.size = c.maxLocals → decode c.code g.pc = .ok (ig, len) →
    2 * g.monitorRoom + (g.stack.map fun v => v.category).sum ≤ W9 → A.U.methodNamed? y = some mk → Pre A a →
    (∃ (v : Option Value) (B : Pt), Stand p l e R s m sargs below meth c B.U B.locs B.cells B.slots ∧ Post A a v B ∧
      Steps p.tables e below (doInvoke e (A.U.setTop g) [] mk a).1 (B.U.setTop { g with pc := g.pc + len, stack := v.toList ++ g.stack })) ∨
    (∃ (q : Addr) (B : Pt), Stand p l e R s m sargs below meth c B.U B.locs B.cells B.slots ∧ PostX A a q B ∧
      Steps p.tables e below (doInvoke e (A.U.setTop g) [] mk a).1 ((B.U.setTop g).pushFrame (.throwing q)))
section Payer
variable {l : Launch} {R : Room} {p : Program} {e : Env} {below : List Frame} {s : State} {sargs : Array Value} {y : MethodName} {len W9 : Nat}
theorem vx_back {ws : List Cond} {rm : Room} {Pc : Array Value → State → Prop} {Qc : Array Value → State → Outcome → State → Prop} {XC : String → State → State → Prop} {mc ms : Nat} {free : Addr → Prop} {bytes : ByteArray} {maxL : Nat} {ret : Option FieldType}
    (hM : vx_Met l y ws rm Pc Qc XC mc ms free) (hblind : FrameBlind Pc) (hrc : rm.cells = mc) (hrs : rm.slots = ms)
    (hframes : rm.frames + 1 ≤ R.frames) (hlocals : W9 + (maxL + 11) + rm.locals ≤ R.locals)
    (hws : ∀ w ∈ ws, ∀ a' U, s.WarmedH U.vm → w.before a' U = true) (hcode : Cond.code y bytes maxL ret ∈ ws) (hinit : ∀ a' U, s.WarmedH U.vm → (Cond.initialized y.cls).before a' U = true) :
    vx_Back l R p e below s sargs y len W9 (PreOf R mc ms Pc) (PostOf Qc mc ms free) (vx_Post XC mc ms free) := by
  intro m meth c A g ig mk a X hg hsize hdg hW hn hp
  have h1 : (headSpec ws rm).pre.before a A.U = true := atoms_intro fun w hw => hws w hw _ _ X.warmed
  have h2 : (Cond.code y bytes maxL ret).before a A.U = true := hws _ hcode _ _ X.warmed
  have h3 : (Cond.initialized y.cls).before a A.U = true := hinit _ _ X.warmed
  have h4 : A.cells + (headSpec ws rm).room.cells ≤ R.cells := by rw [show (headSpec ws rm).room.cells = mc from hrc]; exact hp.1
  have h5 : A.slots + (headSpec ws rm).room.slots ≤ R.slots := by rw [show (headSpec ws rm).room.slots = ms from hrs]; exact hp.2.1
  have hPc : Pc a (A.U.calling g mk a) := hblind _ _ _ _ hp.2.2
  obtain ⟨U, Ls, c0, s0⟩ := A
  dsimp only [Pt.U, Pt.locs, Pt.cells, Pt.slots] at h1 h2 h3 h4 h5 X hn hPc ⊢
  obtain ⟨methY, cY, hmY, hcY, -, hlY, -, -, -, -⟩ := Cond.code_spec hn h2
  obtain ⟨kY, hkY, -⟩ := className_of_methodNamed hn
  have hinitY : kY.init = .initialized := Cond.initialized_spec (findClass_of_methodNamed hn) hkY h3
  have h : At U g.method c below := by rw [hg]; exact X.here
  have hlocals9 : W9 + (maxL + 11) + (headSpec ws rm).room.locals ≤ R.locals := hlocals
  have happ : (headSpec ws rm).appliesLoose y e.platform (U.calling g mk a) = true :=
    Spec.appliesLoose_calling (g := g) h hdg hn hkY hinitY
      (X.room_calling (g := g) (R' := (headSpec ws rm).room) hsize hmY hcY hframes (by rw [hlY]; omega) h4 h5) h1
  obtain ⟨mid, hmid⟩ := h.above
  have hfr : (U.setTop g).frames = (.java g :: mid) ++ below := by rw [State.frames_setTop' g h.top, hmid]; rfl
  obtain ⟨o, s₂, hsteps, -, hend, hq⟩ := Steps.callFree hM p X.admits X.cas X.clock (acts := []) hfr happ hPc trivial
  have hq' : vx_Q Qc XC mc ms free a (U.calling g mk a) o s₂ := hq
  rw [State.frames_setTop' g h.top] at hend
  obtain ⟨g₀, hg0⟩ := Option.isSome_iff_exists.mp h.top
  obtain ⟨r, hr⟩ := State.topJava?_eq_some.mp hg0
  have hr' : (({ U with heap := s₂.heap, slotsUsed := s₂.slotsUsed } : State).setVm s₂.vm).frames = .java g₀ :: r := hr
  rcases hq' with ⟨hqc, L, hfe, hL⟩ | ⟨q, rfl, E, ce, L, hx, hce, hcv, hcl, hW₂, hsm, hL⟩
  · obtain ⟨⟨v, rfl⟩, hW₂, e2, q2, q3, q4, q5, q6⟩ := id hfe
    have e3 : s₂ = ({ (U.calling g mk a).setFrames s₂.frames with heap := s₂.heap, slotsUsed := s₂.slotsUsed } : State).setVm s₂.vm := by
      have : s₂ = ({ s₂ with vm := (U.calling g mk a).vm } : State).setVm s₂.vm := rfl
      rw [e2] at this
      exact this
    obtain ⟨c₂, i₂, len₂, hc₂, hd₂, hf₂⟩ := hend
    have hW' : U.WarmedH s₂.vm := hW₂
    have hcc : c₂ = c := by
      have h1 : s₂.code? g.method = U.code? g.method := by
        rw [State.code?_eq, State.code?_eq, hW'.alike.method?]
      exact Option.some.inj (hc₂.symm.trans (h1.trans h.code))
    subst hcc
    have hlen : len₂ = len := by rw [hdg] at hd₂; cases hd₂; rfl
    subst hlen
    have hs₂ : s₂ = (({ U with heap := s₂.heap, slotsUsed := s₂.slotsUsed } : State).setVm s₂.vm).setTop { g with pc := g.pc + len₂, stack := v.toList ++ g.stack } := by
      refine e3.trans ?_
      rw [hf₂, State.calling_eq h.top, State.setFrames_setFrames, State.setTop_of_frames _ hr', hr]
      rfl
    have hsame : U.sameButNew ({ U with heap := s₂.heap, slotsUsed := s₂.slotsUsed } : State) L mc ms := by
      refine ⟨?_, q2, q3, q4, q5, q6⟩
      obtain ⟨t, ht, -⟩ := State.frames_cons hr
      show ({ U with heap := s₂.heap, slotsUsed := s₂.slotsUsed } : State) = { U.setFrames U.frames with heap := s₂.heap, slotsUsed := s₂.slotsUsed }
      rw [State.setFrames_self ht]
    subst hg
    refine Or.inl ⟨v, ⟨(({ U with heap := s₂.heap, slotsUsed := s₂.slotsUsed } : State).setVm s₂.vm), Ls ++ L, c0 + mc, s0 + ms⟩,
      ⟨X.admits, X.cas, X.clock, X.frames, X.room, X.hears, X.method, X.code, (X.here.setHeapUsed s₂.heap s₂.slotsUsed).setVm hW'.alike, X.tail, State.WarmedH.trans X.warmed hW', X.limits, X.bytes, X.same.trans (hsame.setVm s.vm)⟩,
      ⟨g, mk, s₂, L, rfl, rfl, hqc, rfl, hL, rfl, rfl⟩, ?_⟩
    show Steps p.tables e below _ ((({ U with heap := s₂.heap, slotsUsed := s₂.slotsUsed } : State).setVm s₂.vm).setTop { g with pc := g.pc + len₂, stack := v.toList ++ g.stack })
    rw [← hs₂]
    exact hsteps
  · obtain ⟨e2, q2, q3, q4, q5, q6⟩ := id hsm
    have e3 : s₂ = ({ (U.calling g mk a).setFrames s₂.frames with heap := s₂.heap, slotsUsed := s₂.slotsUsed } : State).setVm s₂.vm := by
      have : s₂ = ({ s₂ with vm := (U.calling g mk a).vm } : State).setVm s₂.vm := rfl
      rw [e2] at this
      exact this
    have hf₂ : s₂.frames = .throwing q :: .java g :: U.frames.tail := hend
    have hW' : U.WarmedH s₂.vm := hW₂
    have hs₂ : s₂ = ((({ U with heap := s₂.heap, slotsUsed := s₂.slotsUsed } : State).setVm s₂.vm).setTop g).pushFrame (.throwing q) := by
      refine e3.trans ?_
      rw [hf₂, State.calling_eq h.top, State.setFrames_setFrames, State.pushFrame, State.frames_setTop _ hr', State.setTop_of_frames _ hr', State.setFrames_setFrames, hr]
      rfl
    have hsame : U.sameButNew ({ U with heap := s₂.heap, slotsUsed := s₂.slotsUsed } : State) L mc ms := by
      refine ⟨?_, q2, q3, q4, q5, q6⟩
      obtain ⟨t, ht, -⟩ := State.frames_cons hr
      show ({ U with heap := s₂.heap, slotsUsed := s₂.slotsUsed } : State) = { U.setFrames U.frames with heap := s₂.heap, slotsUsed := s₂.slotsUsed }
      rw [State.setFrames_self ht]
    subst hg
    refine Or.inr ⟨q, ⟨(({ U with heap := s₂.heap, slotsUsed := s₂.slotsUsed } : State).setVm s₂.vm), Ls ++ L, c0 + mc, s0 + ms⟩,
      ⟨X.admits, X.cas, X.clock, X.frames, X.room, X.hears, X.method, X.code, (X.here.setHeapUsed s₂.heap s₂.slotsUsed).setVm hW'.alike, X.tail, State.WarmedH.trans X.warmed hW', X.limits, X.bytes, X.same.trans (hsame.setVm s.vm)⟩,
      ⟨g, mk, s₂, L, E, ce, rfl, rfl, hx, hce, hcv, hcl, rfl, hL, rfl, rfl⟩, ?_⟩
    show Steps p.tables e below _ (((({ U with heap := s₂.heap, slotsUsed := s₂.slotsUsed } : State).setVm s₂.vm).setTop g).pushFrame (.throwing q))
    rw [← hs₂]
    exact hsteps
end Payer
section Calls
variable {p : Program} {l : Launch} {e : Env} {R : Room} {s : State} {m : MethodId} {args : Array Value} {below : List Frame} {meth : Method} {c : Code} {T : State} {locs : List Loc} {cells slots : Nat}
theorem vx_callV (X : Stand p l e R s m args below meth c T locs cells slots) (hexec : p.tables.exec = Jvm.exec) {own C : String} {index : Nat} {y : MethodName} {bytes : ByteArray} {maxL : Nat} {ret : Option FieldType}
    (hown : s.vm.findClass own = some m.cls) (hlink : (Cond.methodLink own index y).before args s = true) (hinst : (Cond.instanceMethod y).before args s = true) (hsel : (Cond.selects C y y).before args s = true)
    (hcode : (Cond.code y bytes maxL ret).before args s = true) (hy : y.cls ≠ "java/lang/invoke/MethodHandle" ∧ y.cls ≠ "java/lang/invoke/VarHandle")
    {W9 : Nat} {Pre : Pt → Array Value → Prop} {Post : Pt → Array Value → Option Value → Pt → Prop} {PostX : Pt → Array Value → Addr → Pt → Prop} (hK : vx_Back l R p e below s args y 3 W9 Pre Post PostX)
    {b : Addr} {cellB : Cell} (hcell : T.heap[b]? = some cellB) (hobj : cellB.vm.isStatics = false) (hcls : s.vm.findClass C = some cellB.cls)
    {g : JFrame} (hg : g.method = m) (hsize : g.locals.size = c.maxLocals) {argsL rest : List Value} (hlen : ∀ sig, parseMethodDescriptor y.desc = some sig → argsL.length = sig.parameters.length)
    (hstack : g.stack = argsL.reverse ++ .ref b :: rest) (hW : 2 * g.monitorRoom + (rest.map fun v => v.category).sum ≤ W9) (hdg : decode c.code g.pc = .ok (.invokevirtual index, 3))
    (hpre : ∀ vm₁, s.WarmedH vm₁ → Pre ⟨T.setVm vm₁, locs, cells, slots⟩ (Value.ref b :: argsL).toArray) :
    (∃ (v : Option Value) (vm₁ : Vm) (B : Pt), s.WarmedH vm₁ ∧ Stand p l e R s m args below meth c B.U B.locs B.cells B.slots ∧ Post ⟨T.setVm vm₁, locs, cells, slots⟩ (Value.ref b :: argsL).toArray v B ∧
      ∀ target, Steps p.tables e below (B.U.setTop { g with pc := g.pc + 3, stack := v.toList ++ rest }) target → Steps p.tables e below (T.setTop g) target) ∨
    (∃ (q : Addr) (vm₁ : Vm) (B : Pt), s.WarmedH vm₁ ∧ Stand p l e R s m args below meth c B.U B.locs B.cells B.slots ∧ PostX ⟨T.setVm vm₁, locs, cells, slots⟩ (Value.ref b :: argsL).toArray q B ∧
      Steps p.tables e below (T.setTop g) ((B.U.setTop { g with stack := rest }).pushFrame (.throwing q))) := by
  obtain ⟨mk, methM, hnamed, hmethM, hstM, habM⟩ := Cond.instanceMethod_spec hinst
  obtain ⟨methM', cM, hmethM', -, -, -, -, -, -, hsigM⟩ := Cond.code_spec hnamed hcode
  cases hmethM.symm.trans hmethM'
  obtain ⟨c2, r2, m2, q1, q2, q3, q4, kP, hkP, hkPi⟩ := Cond.selects_spec hsel
  cases hcls.symm.trans q1
  cases (State.methodFound?_of_named hnamed hy).symm.trans q2
  cases hnamed.symm.trans q3
  have hselP : selectMethod e.platform s.vm cellB.cls mk = .method mk := by rw [Launch.admits_selectMethod X.admits]; exact q4
  obtain ⟨vm₁, X₁, hstep₁⟩ := X.invokevirtual hexec hown hlink hnamed hmethM hstM hkP hkPi hy (a := b) (cell := cellB) hcell
    (fun z h => by rw [h] at hobj; cases hobj) hselP hmethM habM hkP hkPi (g := g) hg (argsL := argsL) (rest := rest) (hlen _ hsigM) hstack hdg
  rcases hK m meth c ⟨T.setVm vm₁, locs, cells, slots⟩ { g with stack := rest } (.invokevirtual index) mk (Value.ref b :: argsL).toArray X₁ hg hsize hdg hW (X₁.named hnamed) (hpre vm₁ X₁.warmed) with ⟨v, B, X', hpost, hsteps⟩ | ⟨q, B, X', hpost, hsteps⟩
  · exact Or.inl ⟨v, vm₁, B, X₁.warmed, X', hpost, fun target h => hstep₁ _ fun acts => by rw [doInvoke_state]; exact hsteps.trans h⟩
  · exact Or.inr ⟨q, vm₁, B, X₁.warmed, X', hpost, hstep₁ _ fun acts => by rw [doInvoke_state]; exact hsteps⟩
theorem vx_callS (X : Stand p l e R s m args below meth c T locs cells slots) (hexec : p.tables.exec = Jvm.exec) {own : String} {index : Nat} {y : MethodName} {bytes : ByteArray} {maxL : Nat} {ret : Option FieldType}
    (hown : s.vm.findClass own = some m.cls) (hlink : (Cond.methodLink own index y).before args s = true) (hstat : (Cond.static y).before args s = true) (hinit : (Cond.initialized y.cls).before args s = true)
    (hcode : (Cond.code y bytes maxL ret).before args s = true) (hy : y.cls ≠ "java/lang/invoke/MethodHandle" ∧ y.cls ≠ "java/lang/invoke/VarHandle")
    {W9 : Nat} {Pre : Pt → Array Value → Prop} {Post : Pt → Array Value → Option Value → Pt → Prop} {PostX : Pt → Array Value → Addr → Pt → Prop} (hK : vx_Back l R p e below s args y 3 W9 Pre Post PostX)
    {g : JFrame} (hg : g.method = m) (hsize : g.locals.size = c.maxLocals) {argsL rest : List Value} (hlen : ∀ sig, parseMethodDescriptor y.desc = some sig → argsL.length = sig.parameters.length)
    (hstack : g.stack = argsL.reverse ++ rest) (hW : 2 * g.monitorRoom + (rest.map fun v => v.category).sum ≤ W9) (hdg : decode c.code g.pc = .ok (.invokestatic index, 3))
    (hpre : ∀ vm₁, s.WarmedH vm₁ → Pre ⟨T.setVm vm₁, locs, cells, slots⟩ argsL.toArray) :
    (∃ (v : Option Value) (vm₁ : Vm) (B : Pt), s.WarmedH vm₁ ∧ Stand p l e R s m args below meth c B.U B.locs B.cells B.slots ∧ Post ⟨T.setVm vm₁, locs, cells, slots⟩ argsL.toArray v B ∧
      ∀ target, Steps p.tables e below (B.U.setTop { g with pc := g.pc + 3, stack := v.toList ++ rest }) target → Steps p.tables e below (T.setTop g) target) ∨
    (∃ (q : Addr) (vm₁ : Vm) (B : Pt), s.WarmedH vm₁ ∧ Stand p l e R s m args below meth c B.U B.locs B.cells B.slots ∧ PostX ⟨T.setVm vm₁, locs, cells, slots⟩ argsL.toArray q B ∧
      Steps p.tables e below (T.setTop g) ((B.U.setTop { g with stack := rest }).pushFrame (.throwing q))) := by
  obtain ⟨mk, hnamed⟩ := Cond.code_named hcode
  obtain ⟨methM, cM, hmethM, -, -, -, -, -, -, hsigM⟩ := Cond.code_spec hnamed hcode
  have hstatic : methM.isStatic = true := Cond.static_spec hnamed hmethM hstat
  obtain ⟨kP, hkP, -⟩ := className_of_methodNamed hnamed
  have hinitP : kP.init = .initialized := Cond.initialized_spec (findClass_of_methodNamed hnamed) hkP hinit
  obtain ⟨vm₁, X₁, hstep₁⟩ := X.invokestatic hexec hown hlink hnamed hmethM hstatic hkP hinitP hy (g := g) hg (argsL := argsL) (rest := rest) (hlen _ hsigM) hstack hdg
  rcases hK m meth c ⟨T.setVm vm₁, locs, cells, slots⟩ { g with stack := rest } (.invokestatic index) mk argsL.toArray X₁ hg hsize hdg hW (X₁.named hnamed) (hpre vm₁ X₁.warmed) with ⟨v, B, X', hpost, hsteps⟩ | ⟨q, B, X', hpost, hsteps⟩
  · exact Or.inl ⟨v, vm₁, B, X₁.warmed, X', hpost, fun target h => hstep₁ _ fun acts => by rw [doInvoke_state]; exact hsteps.trans h⟩
  · exact Or.inr ⟨q, vm₁, B, X₁.warmed, X', hpost, hstep₁ _ fun acts => by rw [doInvoke_state]; exact hsteps⟩
end Calls
theorem vx_cls {s : State} {T : State} {vm₁ : Vm} {E : String} {k : ClassId} (hW : s.WarmedH vm₁) (h : (T.setVm vm₁).vm.findClass E = some k) : s.vm.findClass E = some k := by
  have h1 : vm₁.findClass E = some k := h
  rw [hW.alike.findClass] at h1
  exact h1
/-- the method's frame g, with q thrown over it -/
def vx_W (p : Program) (l : Launch) (e : Env) (R : Room) (s : State) (m : MethodId) (args : Array Value) (below : List Frame) (meth : Method) (c : Code) (H : Heap) (locs : List Loc) (cells slots : Nat) (Q : State → Prop) (g : JFrame) (q : Addr) : Prop :=
  ∀ T : State, T.heap = H → Stand p l e R s m args below meth c T locs cells slots → ∃ t, Steps p.tables e below ((T.setTop g).pushFrame (.throwing q)) t ∧ Q t
def vx_Run (p : Program) (l : Launch) (e : Env) (R : Room) (s : State) (m : MethodId) (args : Array Value) (below : List Frame) (meth : Method) (c : Code) (H : Heap) (locs : List Loc) (cells slots mc ms : Nat) (g : JFrame) (rest : List Value) (Qa : State → Outcome → State → Prop) (XC : String → State → State → Prop) (free : Addr → Prop) : Prop :=
  ∀ T : State, T.heap = H → Stand p l e R s m args below meth c T locs cells slots →
    (∃ (v : Option Value) (st₀ t T' : State) (L : List Loc), st₀.heap = H ∧ Stand p l e R s m args below meth c T' (locs ++ L) (cells + mc) (slots + ms) ∧ (∀ q ∈ L, free q.base) ∧ T'.heap = t.heap ∧ T'.vm = t.vm ∧ Qa st₀ (.returned v) t ∧
      Goes p e below T g T' { g with pc := g.pc + 3, stack := v.toList ++ rest }) ∨
    (∃ (q : Addr) (st₀ t T' : State) (L : List Loc) (E : String) (ce : Cell), st₀.heap = H ∧ Stand p l e R s m args below meth c T' (locs ++ L) (cells + mc) (slots + ms) ∧ (∀ z ∈ L, free z.base) ∧ T'.heap = t.heap ∧ T'.vm = t.vm ∧ XC E st₀ t ∧ t.heap[q]? = some ce ∧ ce.vm = .none ∧ s.vm.findClass E = some ce.cls ∧
      Steps p.tables e below (T.setTop g) ((T'.setTop { g with stack := rest }).pushFrame (.throwing q)))
def vx_X {S : Type} (px : S → Prop) (B : String → S → State → Prop) (A : Nat → Prop) : String → State → State → Prop := fun E st t => ∃ u : S, px u ∧ B E u t ∧ va_F A st t
section Runs
variable {p : Program} {l : Launch} {e : Env} {R : Room} {s : State} {m : MethodId} {args : Array Value} {below : List Frame} {meth : Method} {c : Code} {H : Heap} {locs : List Loc} {cells slots : Nat}
variable {y : MethodName} {bytes cc : ByteArray} {maxL nL mc ms n index : Nat} {ret : Option FieldType} {ws : List Cond} {rm : Room} {Pc : Array Value → State → Prop} {Qc : Array Value → State → Outcome → State → Prop} {XC : String → State → State → Prop} {free : Addr → Prop} {Ts : List Cond} {own C : String} {b : Addr} {As rest : List Value} {g : JFrame}
theorem vx_callBack (cb : CallB R s args own index y bytes maxL ret ws rm mc ms n) (hM : vx_Met l y ws rm Pc Qc XC mc ms free) (hbl : FrameBlind Pc) : vx_Back l R p e below s args y 3 8 (PreOf R mc ms Pc) (PostOf Qc mc ms free) (vx_Post XC mc ms free) := by
  obtain ⟨hrc, hrs, hfr, hlo, hws, hcw, -, hini, -⟩ := cb
  exact vx_back (bytes := bytes) (maxL := maxL) (ret := ret) hM hbl hrc hrs hfr hlo hws hcw (fun a' U hW => word_at hW (Or.inl (by first | rfl | simp [Cond.onTables, Cond.keeps, Cond.steady])) hini)
theorem vx_runV (S : CallFix p m c cc nL s args Ts own) (hM : vx_Met l y ws rm Pc Qc XC mc ms free) (cw : CallW R s args own C index y bytes maxL ret ws rm mc ms n) (hp : PreV s H C b Pc As)
    (hg : g.method = m) (hn : As.length = n) (hsize : g.locals.size = nL) (hstack : g.stack = As.reverse ++ .ref b :: rest) (hW : 2 * g.monitorRoom + (rest.map fun v => v.category).sum ≤ 8) (hdg : decode cc g.pc = .ok (.invokevirtual index, 3)) (hf : cells + mc ≤ R.cells ∧ slots + ms ≤ R.slots) :
    vx_Run p l e R s m args below meth c H locs cells slots mc ms g rest (Qc (Value.ref b :: As).toArray) XC free := by
  have hK : vx_Back l R p e below s args y 3 8 (PreOf R mc ms Pc) (PostOf Qc mc ms free) (vx_Post XC mc ms free) := vx_callBack cw.1 hM hp.1
  obtain ⟨⟨-, -, -, -, -, -, hcode, -, hy, hlen, hl⟩, hin, hse⟩ := cw
  obtain ⟨hx, hb, hml, ho, -⟩ := S
  obtain ⟨-, ⟨cellB, hcB, hoB, hclB⟩, hPc⟩ := hp
  intro T hT X
  rcases vx_callV X hx (C := C) (bytes := bytes) (maxL := maxL) (ret := ret) ho hl hin hse hcode hy hK (by rw [hT]; exact hcB) hoB hclB hg (hsize.trans hml.symm) (argsL := As) (rest := rest) (fun sig h => hn.trans (hlen sig h)) hstack hW (by rw [hb]; exact hdg)
    (fun vm₁ hW₁ => ⟨hf.1, hf.2, hPc (T.setVm vm₁) hT hW₁⟩) with ⟨v, vm₁, ⟨U', l2, c2, s2⟩, hW₁, X', ⟨g', mk, t, L, e1, e2, hq, h1, hL, h2, h3⟩, st⟩ | ⟨q, vm₁, ⟨U', l2, c2, s2⟩, hW₁, X', ⟨g', mk, t, L, E, ce, e1, e2, hq, hce, hcv, hcl, h1, hL, h2, h3⟩, st⟩
  · dsimp only [Pt.U, Pt.locs, Pt.cells, Pt.slots] at X' e1 e2 h1 h2 h3 st
    subst h1; subst h2; subst h3
    exact Or.inl ⟨v, (T.setVm vm₁).calling g' mk (Value.ref b :: As).toArray, t, U', L, hT, X', hL, e1, e2, hq, st⟩
  · dsimp only [Pt.U, Pt.locs, Pt.cells, Pt.slots] at X' e1 e2 h1 h2 h3 st hcl
    subst h1; subst h2; subst h3
    exact Or.inr ⟨q, (T.setVm vm₁).calling g' mk (Value.ref b :: As).toArray, t, U', L, E, ce, hT, X', hL, e1, e2, hq, hce, hcv, vx_cls hW₁ hcl, st⟩
theorem vx_runS (S : CallFix p m c cc nL s args Ts own) (hM : vx_Met l y ws rm Pc Qc XC mc ms free) (cw : CallB R s args own index y bytes maxL ret ws rm mc ms n ∧ (Cond.static y).before args s = true) (hp : PreS s H Pc As)
    (hg : g.method = m) (hn : As.length = n) (hsize : g.locals.size = nL) (hstack : g.stack = As.reverse ++ rest) (hW : 2 * g.monitorRoom + (rest.map fun v => v.category).sum ≤ 8) (hdg : decode cc g.pc = .ok (.invokestatic index, 3)) (hf : cells + mc ≤ R.cells ∧ slots + ms ≤ R.slots) :
    vx_Run p l e R s m args below meth c H locs cells slots mc ms g rest (Qc As.toArray) XC free := by
  have hK : vx_Back l R p e below s args y 3 8 (PreOf R mc ms Pc) (PostOf Qc mc ms free) (vx_Post XC mc ms free) := vx_callBack cw.1 hM hp.1
  obtain ⟨⟨-, -, -, -, -, -, hcode, hini, hy, hlen, hl⟩, hstt⟩ := cw
  obtain ⟨hx, hb, hml, ho, -⟩ := S
  intro T hT X
  rcases vx_callS X hx (bytes := bytes) (maxL := maxL) (ret := ret) ho hl hstt hini hcode hy hK hg (hsize.trans hml.symm) (argsL := As) (rest := rest) (fun sig h => hn.trans (hlen sig h)) hstack hW (by rw [hb]; exact hdg)
    (fun vm₁ hW₁ => ⟨hf.1, hf.2, hp.2 (T.setVm vm₁) hT hW₁⟩) with ⟨v, vm₁, ⟨U', l2, c2, s2⟩, hW₁, X', ⟨g', mk, t, L, e1, e2, hq, h1, hL, h2, h3⟩, st⟩ | ⟨q, vm₁, ⟨U', l2, c2, s2⟩, hW₁, X', ⟨g', mk, t, L, E, ce, e1, e2, hq, hce, hcv, hcl, h1, hL, h2, h3⟩, st⟩
  · dsimp only [Pt.U, Pt.locs, Pt.cells, Pt.slots] at X' e1 e2 h1 h2 h3 st
    subst h1; subst h2; subst h3
    exact Or.inl ⟨v, (T.setVm vm₁).calling g' mk As.toArray, t, U', L, hT, X', hL, e1, e2, hq, st⟩
  · dsimp only [Pt.U, Pt.locs, Pt.cells, Pt.slots] at X' e1 e2 h1 h2 h3 st hcl
    subst h1; subst h2; subst h3
    exact Or.inr ⟨q, (T.setVm vm₁).calling g' mk As.toArray, t, U', L, E, ce, hT, X', hL, e1, e2, hq, hce, hcv, vx_cls hW₁ hcl, st⟩
end Runs
section Rows
variable {p : Program} {l : Launch} {e : Env} {R : Room} {s : State} {m : MethodId} {args : Array Value} {below : List Frame} {meth : Method} {c : Code} {H : Heap} {locs : List Loc} {cells slots : Nat} {Q : State → Prop}
variable {mc ms : Nat} {free : Addr → Prop} {A0 A1 : Nat → Prop} {H0 : Heap} {a : Array Value} {pc : Nat} {ls : Array Slot} {st0 rest : List Value}
theorem vx_keep {st₀ t T' : State} {L : List Loc} (h0 : st₀.heap = H) (e1 : T'.heap = t.heap) (hS : va_S A0 H0 H locs) (hA : ∀ q, q < H.size → A1 q → A0 q) (hf : ∀ q, free q → A0 q) (hL : ∀ q ∈ L, free q.base) (hF : va_F A1 st₀ t) :
    H.size ≤ T'.heap.size ∧ (∀ q : Nat, q < H.size → ¬ A1 q → T'.heap[q]? = H[q]?) ∧ va_S A0 H0 T'.heap (locs ++ L) := by
  obtain ⟨hz, hk⟩ := hF
  rw [h0] at hz hk
  exact ⟨by rw [e1]; exact hz, fun q h1 h2 => by rw [e1]; exact hk q h1 h2,
    ⟨Nat.le_trans hS.1 (by rw [e1]; exact hz), fun q h1 h2 => by rw [e1, hk q (Nat.lt_of_lt_of_le h1 hS.1) (fun z => h2 (hA q (Nat.lt_of_lt_of_le h1 hS.1) z))]; exact hS.2.1 q h1 h2, fun q hq => by
      rcases List.mem_append.mp hq with h | h
      · exact hS.2.2 q h
      · exact hf _ (hL q h)⟩⟩
theorem vx_calli {S SX : Type} {post : Int32 → S → Prop} {px : SX → Prop} {B : S → State → Prop} {BX : String → SX → State → Prop} {AX : Nat → Prop} (hr : vx_Run p l e R s m args below meth c H locs cells slots mc ms (F0 m pc ls st0) rest (va_Qi post B A1 a) (vx_X px BX AX) free) (hS : va_S A0 H0 H locs) (hA : ∀ q, q < H.size → A1 q → A0 q) (hf : ∀ q, free q → A0 q) (hAX : ∀ q, q < H.size → AX q → A0 q)
    (kx : ∀ (E : String) (ce : Cell) (q9 : Addr) (u : SX) (t : State) (H1 : Heap) (locs1 : List Loc), t.heap = H1 → s.vm.Alike t.vm → px u → BX E u t → H.size ≤ H1.size → (∀ q : Nat, q < H.size → ¬ AX q → H1[q]? = H[q]?) → va_S A0 H0 H1 locs1 → H1[q9]? = some ce → ce.vm = .none → s.vm.findClass E = some ce.cls → vx_W p l e R s m args below meth c H1 locs1 (cells + mc) (slots + ms) Q (F0 m pc ls rest) q9)
    (kk : ∀ (r : Int32) (u : S) (t : State) (H1 : Heap) (locs1 : List Loc), t.heap = H1 → s.vm.Alike t.vm → post r u → B u t → H.size ≤ H1.size → (∀ q : Nat, q < H.size → ¬ A1 q → H1[q]? = H[q]?) → va_S A0 H0 H1 locs1 → W p l e R s m args below meth c H1 locs1 (cells + mc) (slots + ms) Q (F0 m (pc + 3) ls (.int r :: rest))) : W p l e R s m args below meth c H locs cells slots Q (F0 m pc ls st0) := by
  intro T hT X
  rcases hr T hT X with ⟨v, st₀, t, T', L, h0, X', hL, e1, e2, ⟨⟨r, u, hv, hp, hb⟩, hF⟩, st⟩ | ⟨q, st₀, t, T', L, E, ce, h0, X', hL, e1, e2, ⟨u, hp, hb, hF⟩, hce, hcv, hcl, st⟩
  · cases hv
    obtain ⟨k1, k2, k3⟩ := vx_keep h0 e1 hS hA hf hL hF
    obtain ⟨t2, a1, b1⟩ := kk r u t T'.heap (locs ++ L) e1.symm (by rw [← e2]; exact X'.warmed.alike) hp hb k1 k2 k3 T' rfl X'
    exact ⟨t2, st t2 a1, b1⟩
  · obtain ⟨k1, k2, k3⟩ := vx_keep h0 e1 hS hAX hf hL hF
    obtain ⟨t2, a1, b1⟩ := kx E ce q u t T'.heap (locs ++ L) e1.symm (by rw [← e2]; exact X'.warmed.alike) hp hb k1 k2 k3 (by rw [e1]; exact hce) hcv hcl T' rfl X'
    exact ⟨t2, st.trans a1, b1⟩
theorem vx_calll {S SX : Type} {post : Int64 → S → Prop} {px : SX → Prop} {B : S → State → Prop} {BX : String → SX → State → Prop} {AX : Nat → Prop} (hr : vx_Run p l e R s m args below meth c H locs cells slots mc ms (F0 m pc ls st0) rest (va_Ql post B A1 a) (vx_X px BX AX) free) (hS : va_S A0 H0 H locs) (hA : ∀ q, q < H.size → A1 q → A0 q) (hf : ∀ q, free q → A0 q) (hAX : ∀ q, q < H.size → AX q → A0 q)
    (kx : ∀ (E : String) (ce : Cell) (q9 : Addr) (u : SX) (t : State) (H1 : Heap) (locs1 : List Loc), t.heap = H1 → s.vm.Alike t.vm → px u → BX E u t → H.size ≤ H1.size → (∀ q : Nat, q < H.size → ¬ AX q → H1[q]? = H[q]?) → va_S A0 H0 H1 locs1 → H1[q9]? = some ce → ce.vm = .none → s.vm.findClass E = some ce.cls → vx_W p l e R s m args below meth c H1 locs1 (cells + mc) (slots + ms) Q (F0 m pc ls rest) q9)
    (kk : ∀ (r : Int64) (u : S) (t : State) (H1 : Heap) (locs1 : List Loc), t.heap = H1 → s.vm.Alike t.vm → post r u → B u t → H.size ≤ H1.size → (∀ q : Nat, q < H.size → ¬ A1 q → H1[q]? = H[q]?) → va_S A0 H0 H1 locs1 → W p l e R s m args below meth c H1 locs1 (cells + mc) (slots + ms) Q (F0 m (pc + 3) ls (.long r :: rest))) : W p l e R s m args below meth c H locs cells slots Q (F0 m pc ls st0) := by
  intro T hT X
  rcases hr T hT X with ⟨v, st₀, t, T', L, h0, X', hL, e1, e2, ⟨⟨r, u, hv, hp, hb⟩, hF⟩, st⟩ | ⟨q, st₀, t, T', L, E, ce, h0, X', hL, e1, e2, ⟨u, hp, hb, hF⟩, hce, hcv, hcl, st⟩
  · cases hv
    obtain ⟨k1, k2, k3⟩ := vx_keep h0 e1 hS hA hf hL hF
    obtain ⟨t2, a1, b1⟩ := kk r u t T'.heap (locs ++ L) e1.symm (by rw [← e2]; exact X'.warmed.alike) hp hb k1 k2 k3 T' rfl X'
    exact ⟨t2, st t2 a1, b1⟩
  · obtain ⟨k1, k2, k3⟩ := vx_keep h0 e1 hS hAX hf hL hF
    obtain ⟨t2, a1, b1⟩ := kx E ce q u t T'.heap (locs ++ L) e1.symm (by rw [← e2]; exact X'.warmed.alike) hp hb k1 k2 k3 (by rw [e1]; exact hce) hcv hcl T' rfl X'
    exact ⟨t2, st.trans a1, b1⟩
theorem vx_callf {S SX : Type} {post : UInt32 → S → Prop} {px : SX → Prop} {B : S → State → Prop} {BX : String → SX → State → Prop} {AX : Nat → Prop} (hr : vx_Run p l e R s m args below meth c H locs cells slots mc ms (F0 m pc ls st0) rest (va_Qf post B A1 a) (vx_X px BX AX) free) (hS : va_S A0 H0 H locs) (hA : ∀ q, q < H.size → A1 q → A0 q) (hf : ∀ q, free q → A0 q) (hAX : ∀ q, q < H.size → AX q → A0 q)
    (kx : ∀ (E : String) (ce : Cell) (q9 : Addr) (u : SX) (t : State) (H1 : Heap) (locs1 : List Loc), t.heap = H1 → s.vm.Alike t.vm → px u → BX E u t → H.size ≤ H1.size → (∀ q : Nat, q < H.size → ¬ AX q → H1[q]? = H[q]?) → va_S A0 H0 H1 locs1 → H1[q9]? = some ce → ce.vm = .none → s.vm.findClass E = some ce.cls → vx_W p l e R s m args below meth c H1 locs1 (cells + mc) (slots + ms) Q (F0 m pc ls rest) q9)
    (kk : ∀ (r : UInt32) (u : S) (t : State) (H1 : Heap) (locs1 : List Loc), t.heap = H1 → s.vm.Alike t.vm → post r u → B u t → H.size ≤ H1.size → (∀ q : Nat, q < H.size → ¬ A1 q → H1[q]? = H[q]?) → va_S A0 H0 H1 locs1 → W p l e R s m args below meth c H1 locs1 (cells + mc) (slots + ms) Q (F0 m (pc + 3) ls (.float r :: rest))) : W p l e R s m args below meth c H locs cells slots Q (F0 m pc ls st0) := by
  intro T hT X
  rcases hr T hT X with ⟨v, st₀, t, T', L, h0, X', hL, e1, e2, ⟨⟨r, u, hv, hp, hb⟩, hF⟩, st⟩ | ⟨q, st₀, t, T', L, E, ce, h0, X', hL, e1, e2, ⟨u, hp, hb, hF⟩, hce, hcv, hcl, st⟩
  · cases hv
    obtain ⟨k1, k2, k3⟩ := vx_keep h0 e1 hS hA hf hL hF
    obtain ⟨t2, a1, b1⟩ := kk r u t T'.heap (locs ++ L) e1.symm (by rw [← e2]; exact X'.warmed.alike) hp hb k1 k2 k3 T' rfl X'
    exact ⟨t2, st t2 a1, b1⟩
  · obtain ⟨k1, k2, k3⟩ := vx_keep h0 e1 hS hAX hf hL hF
    obtain ⟨t2, a1, b1⟩ := kx E ce q u t T'.heap (locs ++ L) e1.symm (by rw [← e2]; exact X'.warmed.alike) hp hb k1 k2 k3 (by rw [e1]; exact hce) hcv hcl T' rfl X'
    exact ⟨t2, st.trans a1, b1⟩
theorem vx_calld {S SX : Type} {post : UInt64 → S → Prop} {px : SX → Prop} {B : S → State → Prop} {BX : String → SX → State → Prop} {AX : Nat → Prop} (hr : vx_Run p l e R s m args below meth c H locs cells slots mc ms (F0 m pc ls st0) rest (va_Qd post B A1 a) (vx_X px BX AX) free) (hS : va_S A0 H0 H locs) (hA : ∀ q, q < H.size → A1 q → A0 q) (hf : ∀ q, free q → A0 q) (hAX : ∀ q, q < H.size → AX q → A0 q)
    (kx : ∀ (E : String) (ce : Cell) (q9 : Addr) (u : SX) (t : State) (H1 : Heap) (locs1 : List Loc), t.heap = H1 → s.vm.Alike t.vm → px u → BX E u t → H.size ≤ H1.size → (∀ q : Nat, q < H.size → ¬ AX q → H1[q]? = H[q]?) → va_S A0 H0 H1 locs1 → H1[q9]? = some ce → ce.vm = .none → s.vm.findClass E = some ce.cls → vx_W p l e R s m args below meth c H1 locs1 (cells + mc) (slots + ms) Q (F0 m pc ls rest) q9)
    (kk : ∀ (r : UInt64) (u : S) (t : State) (H1 : Heap) (locs1 : List Loc), t.heap = H1 → s.vm.Alike t.vm → post r u → B u t → H.size ≤ H1.size → (∀ q : Nat, q < H.size → ¬ A1 q → H1[q]? = H[q]?) → va_S A0 H0 H1 locs1 → W p l e R s m args below meth c H1 locs1 (cells + mc) (slots + ms) Q (F0 m (pc + 3) ls (.double r :: rest))) : W p l e R s m args below meth c H locs cells slots Q (F0 m pc ls st0) := by
  intro T hT X
  rcases hr T hT X with ⟨v, st₀, t, T', L, h0, X', hL, e1, e2, ⟨⟨r, u, hv, hp, hb⟩, hF⟩, st⟩ | ⟨q, st₀, t, T', L, E, ce, h0, X', hL, e1, e2, ⟨u, hp, hb, hF⟩, hce, hcv, hcl, st⟩
  · cases hv
    obtain ⟨k1, k2, k3⟩ := vx_keep h0 e1 hS hA hf hL hF
    obtain ⟨t2, a1, b1⟩ := kk r u t T'.heap (locs ++ L) e1.symm (by rw [← e2]; exact X'.warmed.alike) hp hb k1 k2 k3 T' rfl X'
    exact ⟨t2, st t2 a1, b1⟩
  · obtain ⟨k1, k2, k3⟩ := vx_keep h0 e1 hS hAX hf hL hF
    obtain ⟨t2, a1, b1⟩ := kx E ce q u t T'.heap (locs ++ L) e1.symm (by rw [← e2]; exact X'.warmed.alike) hp hb k1 k2 k3 (by rw [e1]; exact hce) hcv hcl T' rfl X'
    exact ⟨t2, st.trans a1, b1⟩
theorem vx_callv {S SX : Type} {post : S → Prop} {px : SX → Prop} {B : S → State → Prop} {BX : String → SX → State → Prop} {AX : Nat → Prop} (hr : vx_Run p l e R s m args below meth c H locs cells slots mc ms (F0 m pc ls st0) rest (va_Qv post B A1 a) (vx_X px BX AX) free) (hS : va_S A0 H0 H locs) (hA : ∀ q, q < H.size → A1 q → A0 q) (hf : ∀ q, free q → A0 q) (hAX : ∀ q, q < H.size → AX q → A0 q)
    (kx : ∀ (E : String) (ce : Cell) (q9 : Addr) (u : SX) (t : State) (H1 : Heap) (locs1 : List Loc), t.heap = H1 → s.vm.Alike t.vm → px u → BX E u t → H.size ≤ H1.size → (∀ q : Nat, q < H.size → ¬ AX q → H1[q]? = H[q]?) → va_S A0 H0 H1 locs1 → H1[q9]? = some ce → ce.vm = .none → s.vm.findClass E = some ce.cls → vx_W p l e R s m args below meth c H1 locs1 (cells + mc) (slots + ms) Q (F0 m pc ls rest) q9)
    (kk : ∀ (u : S) (t : State) (H1 : Heap) (locs1 : List Loc), t.heap = H1 → s.vm.Alike t.vm → post u → B u t → H.size ≤ H1.size → (∀ q : Nat, q < H.size → ¬ A1 q → H1[q]? = H[q]?) → va_S A0 H0 H1 locs1 → W p l e R s m args below meth c H1 locs1 (cells + mc) (slots + ms) Q (F0 m (pc + 3) ls (rest))) : W p l e R s m args below meth c H locs cells slots Q (F0 m pc ls st0) := by
  intro T hT X
  rcases hr T hT X with ⟨v, st₀, t, T', L, h0, X', hL, e1, e2, ⟨⟨u, hv, hp, hb⟩, hF⟩, st⟩ | ⟨q, st₀, t, T', L, E, ce, h0, X', hL, e1, e2, ⟨u, hp, hb, hF⟩, hce, hcv, hcl, st⟩
  · cases hv
    obtain ⟨k1, k2, k3⟩ := vx_keep h0 e1 hS hA hf hL hF
    obtain ⟨t2, a1, b1⟩ := kk u t T'.heap (locs ++ L) e1.symm (by rw [← e2]; exact X'.warmed.alike) hp hb k1 k2 k3 T' rfl X'
    exact ⟨t2, st t2 a1, b1⟩
  · obtain ⟨k1, k2, k3⟩ := vx_keep h0 e1 hS hAX hf hL hF
    obtain ⟨t2, a1, b1⟩ := kx E ce q u t T'.heap (locs ++ L) e1.symm (by rw [← e2]; exact X'.warmed.alike) hp hb k1 k2 k3 (by rw [e1]; exact hce) hcv hcl T' rfl X'
    exact ⟨t2, st.trans a1, b1⟩
/-- caught by the row x of this method's table; the rows ahead don't take it -/
theorem vx_catch {own name : String} {E : String} {ce : Cell} {q : Addr} (hown : s.vm.findClass own = some m.cls) (pre : List ExceptionTableEntry) (x : ExceptionTableEntry) (suf : List ExceptionTableEntry) (hsplit : c.exceptionTable.toList = pre ++ x :: suf)
    (hpass : ∀ z ∈ pre, covers z pc = false ∨ (z.catchType ≠ 0 ∧ ∃ nm : String, (Cond.classLink own z.catchType nm).before args s = true ∧ va_Nc E nm s)) (hx : covers x pc = true) (h0 : x.catchType ≠ 0)
    (hlink : (Cond.classLink own x.catchType name).before args s = true) (hcast : (Cond.castable E name).before args s = true) (hcell : H[q]? = some ce) (hv : ce.vm = .none) (hcl : s.vm.findClass E = some ce.cls)
    (kk : W p l e R s m args below meth c H locs cells slots Q (F0 m x.handlerPc ls [.ref q])) : vx_W p l e R s m args below meth c H locs cells slots Q (F0 m pc ls rest) q := by
  intro T hT X
  have hpl : e.platform.magicAccessors = ({} : Platform).magicAccessors := by rw [X.admits.platform]
  obtain ⟨c3, c4, hc3, hc4, hasg⟩ := Cond.castable_spec hcast
  cases Option.some.inj (hc3.symm.trans hcl)
  obtain ⟨c5, hc5, hcl5⟩ := Cond.classLink_spec hown hlink e.platform hpl
  cases Option.some.inj (hc4.symm.trans hc5)
  obtain ⟨vm', X', st⟩ := X.thenCaughtThrough q (g := F0 m pc ls rest) rfl (Steps.refl _) (by rw [hT]; exact hcell) (by rw [hv]; rfl) (by obtain ⟨k9, h9, -⟩ := Vm.findClass_spec hcl; exact ⟨k9, h9⟩) pre x suf hsplit
    (fun z hz => by
      rcases hpass z hz with h | ⟨hz0, nm, hl1, hn1⟩
      · exact Or.inl h
      · obtain ⟨c6, hc6, hcl6⟩ := Cond.classLink_spec hown hl1 e.platform hpl
        obtain ⟨a8, b8, h1, h2, h3⟩ := hn1
        cases Option.some.inj (h1.symm.trans hcl)
        cases Option.some.inj (h2.symm.trans hc6)
        exact Or.inr ⟨hz0, _, hcl6, h3⟩) hx (Or.inr ⟨h0, c4, hcl5, hasg⟩)
  obtain ⟨t, a1, b1⟩ := kk (T.setVm vm') hT X'
  exact ⟨t, st.trans a1, b1⟩
end Rows
section Ends
variable {p : Program} {l : Launch} {e : Env} {R : Room} {s : State} {m : MethodId} {args : Array Value} {below : List Frame} {meth : Method} {c : Code} {H : Heap} {locs : List Loc} {cells slots : Nat} {Q : State → Prop}
variable {mc ms : Nat} {free : Addr → Prop} {A0 A1 : Nat → Prop} {H0 : Heap} {a : Array Value} {ls : Array Slot} {st0 rest : List Value}
variable {Qc : Array Value → State → Outcome → State → Prop} {XC : String → State → State → Prop}
/-- what a body that may throw owes at its end -/
def vx_MQ (below : List Frame) (Qc : Array Value → State → Outcome → State → Prop) (XC : String → State → State → Prop) (a : Array Value) (s : State) (mc ms : Nat) (free : Addr → Prop) : State → Prop := fun t =>
  ∃ o, t.status = .running ∧ Ended t below o ∧ vx_Q Qc XC mc ms free a s o t
theorem vx_ret {g : JFrame} {mc ms : Nat} (k : W p l e R s m args below meth c H locs cells slots (MQ below Qc args s mc ms free) g) : W p l e R s m args below meth c H locs cells slots (vx_MQ below Qc XC args s mc ms free) g := by
  intro T hT X
  obtain ⟨t, a1, o, b1, b2, b3, b4⟩ := k T hT X
  exact ⟨t, a1, o, b1, b2, Or.inl ⟨b3, b4⟩⟩
/-- not caught here: it goes on to the caller -/
theorem vx_widen {g : JFrame} {q : Addr} {k n : Nat} (h1 : cells ≤ k) (h2 : slots ≤ n) (kk : vx_W p l e R s m args below meth c H locs k n Q g q) : vx_W p l e R s m args below meth c H locs cells slots Q g q := fun T hT X => kk T hT (stand_widen X h1 h2)
theorem vx_out {pc : Nat} {E : String} {ce : Cell} {q : Addr} {mc ms : Nat} (hout : ∀ x ∈ c.exceptionTable.toList, covers x pc = false) (hlocks : meth.locks = false) (hcell : H[q]? = some ce) (hv : ce.vm = .none) (hcl : s.vm.findClass E = some ce.cls)
    (hx : ∀ t : State, t.heap = H → s.vm.Alike t.vm → XC E s t) (hf : ∀ z ∈ locs, free z.base) (hc : cells ≤ mc) (hs : slots ≤ ms) :
    vx_W p l e R s m args below meth c H locs cells slots (vx_MQ below Qc XC args s mc ms free) (F0 m pc ls rest) q := by
  intro T hT X
  obtain ⟨st1, hrun, hend, hW, hsm⟩ := X.leaveThrown q (g := F0 m pc ls rest) rfl rfl rfl hout hlocks
  have hcell9 : (T.setFrames (.throwing q :: below)).heap[q]? = some ce := by
    show T.heap[q]? = some ce
    rw [hT]; exact hcell
  exact ⟨_, st1, .threw q, hrun, hend, Or.inr ⟨q, rfl, E, ce, locs, hx _ hT hW.alike, hcell9, hv, hcl, hW, hsm.mono hc hs, hf⟩⟩
theorem vx_frame {U : State} {k n : Nat} (h : s.sameButNew ({ U with vm := s.vm } : State) locs k n) : s.heap.size ≤ U.heap.size ∧ ∀ q : Nat, q < s.heap.size → (∀ z ∈ locs, z.base ≠ q) → U.heap[q]? = s.heap[q]? := by
  obtain ⟨-, h2, -, -, -, h6⟩ := h
  refine ⟨h2, fun q hq hz => ?_⟩
  obtain ⟨c9, e1, e2, e3, e4⟩ := h6 q _ (Array.getElem?_eq_getElem hq)
  have hs : c9.slots = (s.heap[q]).slots := Array.ext_getElem? fun i => e4 i fun hm => hz _ hm rfl
  have h9 : c9 = s.heap[q] := by
    rw [hs] at e2
    exact e2
  have e5 : U.heap[q]? = some c9 := e1
  rw [e5, h9, Array.getElem?_eq_getElem hq]
/-- the words of a throw but the four that speak of the heap -/
def vx_no (w : Cond) : Bool := decide (w ≠ .isRef (.static Bundle.tN "UNASSIGNED_STACK" Bundle.steD)) && decide (w ≠ .isRef (.static Bundle.tN "SUPPRESSED_SENTINEL" Bundle.listD)) && decide (w ≠ .laysStatic Bundle.tN "UNASSIGNED_STACK" Bundle.steD) && decide (w ≠ .laysStatic Bundle.tN "SUPPRESSED_SENTINEL" Bundle.listD)
def vx_at0 (own : String) (ic : Nat) (X : String) (names : List String) : List Cond := (Bundle.ownAtoms0 own ic X names).filter vx_no
def vx_atS (own : String) (ic : Nat) (X : String) (names : List String) : List Cond := (Bundle.ownAtoms own ic X names).filter vx_no
/-- a word that the tables alone decide, or a good one -/
def vx_ot (w : Cond) : Bool := w.onTables || goodWord w
theorem vx_ot_at {args a' : Array Value} {s U : State} {w : Cond} (hW : s.WarmedH U.vm) (hvm : s.vm = U.vm) (hg : vx_ot w = true) (h : w.before args s = true) : w.before a' U = true := by
  simp only [vx_ot, Bool.or_eq_true] at hg
  rcases hg with hg | hg
  · exact va_tabs hg hvm h
  · exact word_at hW (good_of_word hg) h
/-- a list's words: the good ones out of the method's own list, the others by premises of their own -/
theorem vx_hat {args : Array Value} {s : State} {L B : List Cond} (h1 : ∀ w ∈ L.filter goodWord, w.before args s = true) (h2 : ∀ w ∈ L.filter (fun w => !goodWord w), w ∈ B) (h3 : ∀ w ∈ B, w.before args s = true) : ∀ w ∈ L, w.before args s = true := by
  intro w hw
  by_cases g : goodWord w = true
  · exact h1 w (List.mem_filter.mpr ⟨hw, g⟩)
  · refine h3 w (h2 w (List.mem_filter.mpr ⟨hw, ?_⟩))
    show (!goodWord w) = true
    cases hgw : goodWord w
    · rfl
    · exact absurd hgw g
theorem vx_c {args : Array Value} {s : State} {w : Cond} {B : List Cond} (h : w.before args s = true) (t : ∀ w ∈ B, w.before args s = true) : ∀ w' ∈ w :: B, w'.before args s = true := fun w' h' => (List.mem_cons.mp h').elim (fun e => by rw [e]; exact h) (t w')
theorem vx_n {args : Array Value} {s : State} : ∀ w ∈ ([] : List Cond), w.before args s = true := fun _ h => nomatch h
theorem vx_own {args : Array Value} {s : State} {L : List Cond} (h1 : ∀ w ∈ L.filter vx_no, w.before args s = true)
    (hU : (Cond.isRef (.static Bundle.tN "UNASSIGNED_STACK" Bundle.steD)).before args s = true) (hN : (Cond.isRef (.static Bundle.tN "SUPPRESSED_SENTINEL" Bundle.listD)).before args s = true)
    (lU : (Cond.laysStatic Bundle.tN "UNASSIGNED_STACK" Bundle.steD).before args s = true) (lN : (Cond.laysStatic Bundle.tN "SUPPRESSED_SENTINEL" Bundle.listD).before args s = true) : ∀ w ∈ L, w.before args s = true := by
  intro w hw
  by_cases e1 : w = .isRef (.static Bundle.tN "UNASSIGNED_STACK" Bundle.steD)
  · rw [e1]; exact hU
  · by_cases e2 : w = .isRef (.static Bundle.tN "SUPPRESSED_SENTINEL" Bundle.listD)
    · rw [e2]; exact hN
    · by_cases e3 : w = .laysStatic Bundle.tN "UNASSIGNED_STACK" Bundle.steD
      · rw [e3]; exact lU
      · by_cases e4 : w = .laysStatic Bundle.tN "SUPPRESSED_SENTINEL" Bundle.listD
        · rw [e4]; exact lN
        · exact h1 w (List.mem_filter.mpr ⟨hw, by unfold vx_no; rw [decide_eq_true e1, decide_eq_true e2, decide_eq_true e3, decide_eq_true e4]; rfl⟩)
/-- where a static field lies, its class's statics cell in H -/
def vx_L (C n d : String) (A : Nat → Prop) (U : State) (H : Heap) : Prop := ∃ (c : ClassId) (k : Class) (i : Nat) (f : Field) (a : Nat) (cell : Cell), U.vm.findClass C = some c ∧ U.fieldFound? C n d = some (c, k, i, f) ∧ f.isStatic = true ∧ k.statics = some a ∧ H[a]? = some cell ∧ cell.vm.isStatics = true ∧ cell.cls = c ∧ f.slot < cell.slots.size ∧ k.staticTypes[f.slot]? = some f.type ∧ ¬ A a
theorem vx_L.moved {C n d : String} {A : Nat → Prop} {u U : State} {H : Heap} (hvm : u.vm.Alike U.vm) (h : vx_L C n d A u H) : vx_L C n d A U H := by
  obtain ⟨c, k, i, f, a, cell, h1, h2, h3, h4, h5, h6, h7, h8, h9, h10⟩ := h
  obtain ⟨k', hi', he⟩ := State.fieldFound?_setVm hvm h2
  exact ⟨c, k', i, f, a, cell, by rw [hvm.findClass]; exact h1, hi', h3, by rw [he]; exact h4, h5, h6, h7, h8, by rw [he]; exact h9, h10⟩
theorem vx_L.kept {C n d : String} {A : Nat → Prop} {U : State} {H H1 : Heap} (h : vx_L C n d A U H) (hq : ∀ a : Nat, a < H.size → ¬ A a → H1[a]? = H[a]?) : vx_L C n d A U H1 := by
  obtain ⟨c, k, i, f, a, cell, h1, h2, h3, h4, h5, h6, h7, h8, h9, h10⟩ := h
  exact ⟨c, k, i, f, a, cell, h1, h2, h3, h4, by rw [hq a (Array.getElem?_eq_some_iff.mp h5).1 h10]; exact h5, h6, h7, h8, h9, h10⟩
theorem vx_L.narrow {C n d : String} {A B : Nat → Prop} {U : State} {H : Heap} (h : vx_L C n d A U H) (hAB : ∀ q, B q → A q) : vx_L C n d B U H := by
  obtain ⟨c, k, i, f, a, cell, h1, h2, h3, h4, h5, h6, h7, h8, h9, h10⟩ := h
  exact ⟨c, k, i, f, a, cell, h1, h2, h3, h4, h5, h6, h7, h8, h9, fun z => h10 (hAB _ z)⟩
theorem vx_L.word {C n d : String} {A : Nat → Prop} {s : State} {args : Array Value} (h : vx_L C n d A s s.heap) : (Cond.laysStatic C n d).before args s = true := by
  obtain ⟨c, k, i, f, a, cell, h1, h2, h3, h4, h5, h6, h7, h8, h9, -⟩ := h
  show (Cond.laysStatic C n d).holds args s none s [] = true
  exact Cond.laysStatic_of h1 h2 h3 h4 h5 h6 h7 h8 h9
/-- .. and what it holds: null or some reference -/
def vx_Zq (C n d : String) (A : Nat → Prop) (U : State) (H : Heap) : Prop := va_Zq C n d A U H ∧ vx_L C n d A U H
theorem vx_Zq.moved {C n d : String} {A : Nat → Prop} {u U : State} {H : Heap} (hvm : u.vm.Alike U.vm) (h : vx_Zq C n d A u H) : vx_Zq C n d A U H := ⟨va_Zq.moved hvm h.1, vx_L.moved hvm h.2⟩
theorem vx_Zq.kept {C n d : String} {A : Nat → Prop} {U : State} {H H1 : Heap} (h : vx_Zq C n d A U H) (hq : ∀ a : Nat, a < H.size → ¬ A a → H1[a]? = H[a]?) : vx_Zq C n d A U H1 := ⟨va_Zq.kept h.1 hq, vx_L.kept h.2 hq⟩
theorem vx_Zq.narrow {C n d : String} {A B : Nat → Prop} {U : State} {H : Heap} (h : vx_Zq C n d A U H) (hAB : ∀ q, B q → A q) : vx_Zq C n d B U H := ⟨va_Zq.narrow h.1 hAB, vx_L.narrow h.2 hAB⟩
theorem vx_Zqof {args : Array Value} {s : State} {C n d : String} {A : Nat → Prop} (hl : (Cond.laysStatic C n d).before args s = true) (hini : (Cond.initialized C).before args s = true) (h : (Cond.isRef (.static C n d)).before args s = true) (hA : ∀ a : Nat, a < s.heap.size → ¬ A a) : vx_Zq C n d A s s.heap := by
  refine ⟨va_Zqof hl hini h hA, ?_⟩
  obtain ⟨c, k, i, f, a, cell, h1, h2, h3, h4, h5, h6, h7, h8, h9⟩ := Cond.laysStatic_spec hl
  exact ⟨c, k, i, f, a, cell, h1, h2, h3, h4, h5, h6, h7, h8, h9, hA a (Array.getElem?_eq_some_iff.mp h5).1⟩
theorem vx_isRef {C n d : String} {v : Value} {A : Nat → Prop} {s : State} {args : Array Value} (h : va_Z C n d v A s s.heap) (hv : v.isRef = true) : (Cond.isRef (.static C n d)).before args s = true := by
  obtain ⟨cf, kf, fi, f, a, cell, h1, h2, h3, h4, h5, h6, h7, -⟩ := h
  have he : (Term.static C n d).eval args s none [] s = some v := by
    simp [Term.eval, State.fieldNamed?, h1, h2, h4, h5, h6, h7]
  simp only [Cond.before, Cond.holds, Cond.value, he]
  cases v <;> simp_all [Value.isRef]
theorem vx_isRefq {C n d : String} {A : Nat → Prop} {s : State} {args : Array Value} (h : va_Zq C n d A s s.heap) : (Cond.isRef (.static C n d)).before args s = true := by
  rcases h with h | ⟨t, h⟩
  · exact vx_isRef h rfl
  · exact vx_isRef h rfl
/-- the same frame, seen from here: as if the method were called anew in this heap -/
theorem vx_rebase {T : State} (X : Stand p l e R s m args below meth c T locs cells slots) {R' : Room} (hf : R'.frames ≤ R.frames) (hl : R'.locals ≤ R.locals) (hc : cells + R'.cells ≤ R.cells) (hs : slots + R'.slots ≤ R.slots) :
    Stand p l e R' ((T.setVm s.vm).setFrames (.invoking m args :: below)) m args below meth c T [] 0 0 := by
  have htop : (T.setVm s.vm).topJava?.isSome := X.here.top
  have hF : ((T.setVm s.vm).setFrames (.invoking m args :: below)).frames = .invoking m args :: below := State.frames_setFrames _ (State.cur_lt_of_top htop)
  obtain ⟨g₀, hg0⟩ := Option.isSome_iff_exists.mp htop
  obtain ⟨r, hr⟩ := State.topJava?_eq_some.mp hg0
  have hl9 : e.platform.stackLimits (T.setVm s.vm).me = e.platform.stackLimits s.me := X.limits
  have hb9 : (T.setVm s.vm).me.stackBytes = s.me.stackBytes := X.bytes
  refine ⟨X.admits, X.cas, X.clock, hF, ?_, X.hears, X.method, X.code, X.here, X.tail, X.warmed, ?_, ?_, ?_⟩
  · have h := X.room
    have hU : ((T.setVm s.vm).setFrames (.invoking m args :: below)).localsInUse = s.localsInUse := by
      rw [State.localsInUse_invoking hF (meth := meth) (c := c) X.method X.code, State.localsInUse_invoking X.frames X.method X.code]
    simp only [State.hasRoom, Bool.and_eq_true, decide_eq_true_eq] at h ⊢
    obtain ⟨⟨⟨⟨h1, h2, h3, h4, h5, h6⟩, h7⟩, h8⟩, h9⟩ := h
    rw [X.frames, List.length_cons] at h2 h3
    have q1 := X.heapSize
    have q2 := X.used
    simp only [hF, hU, List.length_cons, State.stackLimits_setFrames, State.stackBytes_setFrames, hl9, hb9]
    refine ⟨⟨⟨⟨by omega, by omega, by omega, by omega, by omega, h6⟩, ?_⟩, ?_⟩, X.book⟩
    · show T.heap.size + R'.cells ≤ e.platform.maxCells
      omega
    · show T.slotsUsed + R'.slots ≤ e.platform.maxSlots
      omega
  · rw [State.stackLimits_setFrames]; rfl
  · rw [State.stackBytes_setFrames]; rfl
  · refine ⟨?_, Nat.le_refl _, Nat.le_refl _, ?_, ?_, fun a c9 h9 => ⟨c9, h9, rfl, rfl, fun _ _ => rfl⟩⟩
    · obtain ⟨t, ht, -⟩ := State.frames_cons hr
      show T.setVm s.vm = { ((T.setVm s.vm).setFrames (.invoking m args :: below)).setFrames (T.setVm s.vm).frames with heap := T.heap, slotsUsed := T.slotsUsed }
      rw [State.setFrames_setFrames, State.setFrames_self ht]
      rfl
    · show T.slotsUsed = T.slotsUsed + ((T.heap.toList.drop T.heap.size).map (·.slots.size)).sum
      rw [List.drop_eq_nil_of_le (Nat.le_of_eq Array.length_toList)]
      rfl
    · show ((T.heap.toList.drop T.heap.size).map (·.slots.size)).sum ≤ 0
      rw [List.drop_eq_nil_of_le (Nat.le_of_eq Array.length_toList)]
      exact Nat.le_refl _
/-- 'throw new E()': new; dup; invokespecial; athrow -/
theorem vx_throw0 {cc : ByteArray} {pc : Nat} (hexec : p.tables.exec = Jvm.exec) (hb : c.code = cc) (hl : l.stackTraces = false) {own cls : String} {names : List String} {ik ic mc ms : Nat} {A : Nat → Prop}
    (hown : s.vm.findClass own = some m.cls) (hcls : Bundle.fit cls = true) (hnames : ∀ n ∈ names, Bundle.fit n = true)
    (hk : (Cond.classLink own ik cls).before args s = true) (hini : (Cond.initialized cls).before args s = true) (hat : ∀ w ∈ vx_at0 own ic cls names, w.before args s = true)
    (hgood : ∀ w ∈ Cond.classLink own ik cls :: Cond.initialized cls :: vx_at0 own ic cls names, vx_ot w = true)
    (hU : vx_Zq Bundle.tN "UNASSIGNED_STACK" Bundle.steD A s s.heap) (hN : vx_Zq Bundle.tN "SUPPRESSED_SENTINEL" Bundle.listD A s s.heap) (hS : va_S A s.heap H locs) (hsize : ls.size = c.maxLocals)
    (d0 : decode cc pc = .ok (.new ik, 3)) (d3 : decode cc (pc + 3) = .ok (.dup, 1)) (d4 : decode cc (pc + 4) = .ok (.invokespecial ic, 3)) (d7 : decode cc (pc + 7) = .ok (.athrow, 1))
    (hout : ∀ x ∈ c.exceptionTable.toList, covers x (pc + 7) = false)
    (hRframes : names.length + 3 < R.frames) (hRlocals : (rest.map fun v => v.category).sum + (13 * (names.length + 1) + 42) ≤ R.locals) (hRcells : cells + 1 ≤ R.cells) (hRslots : slots + 6 ≤ R.slots) (hlocks : meth.locks = false)
    (hx : ∀ t : State, s.vm.Alike t.vm → H.size ≤ t.heap.size → (∀ q : Nat, q < H.size → t.heap[q]? = H[q]?) → XC cls s t)
    (hf : ∀ z ∈ locs, free z.base) (hc : cells + 1 ≤ mc) (hs : slots + 6 ≤ ms) :
    W p l e R s m args below meth c H locs cells slots (vx_MQ below Qc XC args s mc ms free) (F0 m pc ls rest) := by
  intro T hT X
  have htr : e.platform.stackTraces = false := (show e.platform.stackTraces = l.stackTraces by rw [X.admits.platform]).trans hl
  have Y := vx_rebase X (R' := { frames := R.frames, locals := R.locals, cells := 1, slots := 6 }) (Nat.le_refl _) (Nat.le_refl _) hRcells hRslots
  obtain ⟨s', hA⟩ : ∃ z, z = (T.setVm s.vm).setFrames (.invoking m args :: below) := ⟨_, rfl⟩
  rw [← hA] at Y
  have hvm : s'.vm = s.vm := by rw [hA]; rfl
  have hhp : s'.heap = H := by rw [hA]; exact hT
  have hW0 : s.WarmedH s'.vm := by rw [hvm]; exact State.WarmedH.refl s
  have hat' : ∀ w ∈ vx_at0 own ic cls names, w.before args s' = true := fun w hw => vx_ot_at hW0 hvm.symm (hgood w (List.mem_cons_of_mem _ (List.mem_cons_of_mem _ hw))) (hat w hw)
  have hk' : (Cond.classLink own ik cls).before args s' = true := vx_ot_at hW0 hvm.symm (hgood _ List.mem_cons_self) hk
  have hini' : (Cond.initialized cls).before args s' = true := vx_ot_at hW0 hvm.symm (hgood _ (List.mem_cons_of_mem _ List.mem_cons_self)) hini
  have hU' : vx_Zq Bundle.tN "UNASSIGNED_STACK" Bundle.steD A s' s'.heap := by rw [hhp]; exact vx_Zq.moved hW0.alike (hU.kept hS.2.1)
  have hN' : vx_Zq Bundle.tN "SUPPRESSED_SENTINEL" Bundle.listD A s' s'.heap := by rw [hhp]; exact vx_Zq.moved hW0.alike (hN.kept hS.2.1)
  have h : ∀ w ∈ Bundle.ownAtoms0 own ic cls names, w.before args s' = true := vx_own hat' (vx_isRefq hU'.1) (vx_isRefq hN'.1) hU'.2.word hN'.2.word
  have hown' : s'.vm.findClass own = some m.cls := by rw [hvm]; exact hown
  have hins : (Cond.instantiable cls 6).before args s' = true := h _ (by simp [Bundle.ownAtoms0])
  obtain ⟨vm₁, cX, kX, hfX, hkX, -, -, X₁, st1⟩ := Y.newCold hexec (own := own) (C := cls) (index := ik) (n := 6) hown' hk' hins hini'
    (g := F0 m pc ls rest) rfl (by rw [hb]; exact d0) (Nat.le_refl _) (Nat.le_refl _)
  generalize hT1 : (T.setVm vm₁).pushCell { cls := cX, slots := kX.instanceTypes.map defaultValue, vm := .none } = T1 at X₁ st1
  have hcat : (Value.ref T.heap.size).category = 1 := rfl
  have hcellA : T1.heap[T.heap.size]? = some (freshCell cX kX) := by rw [← hT1]; exact State.heap_pushCell_size _ _
  have d3' : decode c.code (pc + 3) = .ok (.dup, 1) := by rw [hb]; exact d3
  obtain ⟨U, hsteps, hrun, hend, hW, hsame, ce, hce, hO⟩ := X₁.ctorThrow0 hexec htr (own := own) (cls := cls) (names := names) (ic := ic) hown' hcls hnames h (fun x hx => nomatch hx) hfX hkX hcellA (by rw [hhp, hT]; exact Nat.le_refl _)
    (g := { method := m, pc := pc + 4, locals := ls, stack := .ref T.heap.size :: .ref T.heap.size :: rest, locked := none }) rfl hsize rfl rfl (rest := rest) rfl
    (by rw [hb]; exact d4) (by rw [hb]; exact d7) hout hRframes (by simp only [List.map_cons, List.sum_cons, hcat]; omega) hlocks
  obtain ⟨f1, f2⟩ := vx_frame hsame
  rw [hhp] at f1 f2
  have hWs : s.WarmedH U.vm := State.WarmedH.trans hW0 hW
  have hcl : s.vm.findClass cls = some ce.cls := by
    have h9 := hO.cls
    rw [hvm] at h9
    exact h9
  have hall : s.sameButNew ({ U with vm := s.vm } : State) locs mc ms := by
    subst hA
    obtain ⟨e1, e2⟩ := hsame
    rw [State.setFrames_setFrames] at e1
    have h2 : (T.setVm s.vm).sameButNew ({ U with vm := s.vm } : State) [] (0 + 1) (0 + 6) := ⟨e1, e2⟩
    have h3 := X.same.trans h2
    rw [List.append_nil] at h3
    exact h3.mono hc hs
  refine ⟨U, ?_, .threw T.heap.size, hrun, hend, Or.inr ⟨T.heap.size, rfl, cls, ce, locs, hx U hWs.alike f1 (fun q hq => f2 q hq (fun z hz => nomatch hz)), hce, hO.vm, hcl, hWs, hall, hf⟩⟩
  refine st1 _ ?_
  show Steps p.tables e below (T1.setTop { method := m, pc := pc + 3, locals := ls, stack := .ref T.heap.size :: rest, locked := none }) _
  jvm_step X₁.here [X₁.here.top, hexec, d3', Value.category]
  exact hsteps
/-- 'throw new E("text")': new; dup; ldc; invokespecial; athrow -/
theorem vx_throwS {cc : ByteArray} {pc : Nat} (hexec : p.tables.exec = Jvm.exec) (hb : c.code = cc) (hl : l.stackTraces = false) {own cls text : String} {names : List String} {ik is ic mc ms sa : Nat} {A : Nat → Prop}
    (hown : s.vm.findClass own = some m.cls) (hcls : Bundle.fit cls = true) (hnames : ∀ n ∈ names, Bundle.fit n = true)
    (hk : (Cond.classLink own ik cls).before args s = true) (hini : (Cond.initialized cls).before args s = true) (hstr : vk_R own is text sa s) (hat : ∀ w ∈ vx_atS own ic cls names, w.before args s = true)
    (hgood : ∀ w ∈ Cond.classLink own ik cls :: Cond.initialized cls :: vx_atS own ic cls names, vx_ot w = true)
    (hU : vx_Zq Bundle.tN "UNASSIGNED_STACK" Bundle.steD A s s.heap) (hN : vx_Zq Bundle.tN "SUPPRESSED_SENTINEL" Bundle.listD A s s.heap) (hS : va_S A s.heap H locs) (hsize : ls.size = c.maxLocals)
    (d0 : decode cc pc = .ok (.new ik, 3)) (d3 : decode cc (pc + 3) = .ok (.dup, 1)) (d4 : decode cc (pc + 4) = .ok (.ldc is, 2)) (d6 : decode cc (pc + 6) = .ok (.invokespecial ic, 3)) (d9 : decode cc (pc + 9) = .ok (.athrow, 1))
    (hout : ∀ x ∈ c.exceptionTable.toList, covers x (pc + 9) = false)
    (hRframes : names.length + 3 < R.frames) (hRlocals : (rest.map fun v => v.category).sum + (13 * (names.length + 1) + 43) ≤ R.locals) (hRcells : cells + 1 ≤ R.cells) (hRslots : slots + 6 ≤ R.slots) (hlocks : meth.locks = false)
    (hx : ∀ t : State, s.vm.Alike t.vm → H.size ≤ t.heap.size → (∀ q : Nat, q < H.size → t.heap[q]? = H[q]?) → XC cls s t)
    (hf : ∀ z ∈ locs, free z.base) (hc : cells + 1 ≤ mc) (hs : slots + 6 ≤ ms) :
    W p l e R s m args below meth c H locs cells slots (vx_MQ below Qc XC args s mc ms free) (F0 m pc ls rest) := by
  intro T hT X
  have htr : e.platform.stackTraces = false := (show e.platform.stackTraces = l.stackTraces by rw [X.admits.platform]).trans hl
  have Y := vx_rebase X (R' := { frames := R.frames, locals := R.locals, cells := 1, slots := 6 }) (Nat.le_refl _) (Nat.le_refl _) hRcells hRslots
  obtain ⟨s', hA⟩ : ∃ z, z = (T.setVm s.vm).setFrames (.invoking m args :: below) := ⟨_, rfl⟩
  rw [← hA] at Y
  have hvm : s'.vm = s.vm := by rw [hA]; rfl
  have hhp : s'.heap = H := by rw [hA]; exact hT
  have hW0 : s.WarmedH s'.vm := by rw [hvm]; exact State.WarmedH.refl s
  have hat' : ∀ w ∈ vx_atS own ic cls names, w.before args s' = true := fun w hw => vx_ot_at hW0 hvm.symm (hgood w (List.mem_cons_of_mem _ (List.mem_cons_of_mem _ hw))) (hat w hw)
  have hk' : (Cond.classLink own ik cls).before args s' = true := vx_ot_at hW0 hvm.symm (hgood _ List.mem_cons_self) hk
  have hini' : (Cond.initialized cls).before args s' = true := vx_ot_at hW0 hvm.symm (hgood _ (List.mem_cons_of_mem _ List.mem_cons_self)) hini
  have hU' : vx_Zq Bundle.tN "UNASSIGNED_STACK" Bundle.steD A s' s'.heap := by rw [hhp]; exact vx_Zq.moved hW0.alike (hU.kept hS.2.1)
  have hN' : vx_Zq Bundle.tN "SUPPRESSED_SENTINEL" Bundle.listD A s' s'.heap := by rw [hhp]; exact vx_Zq.moved hW0.alike (hN.kept hS.2.1)
  have h : ∀ w ∈ Bundle.ownAtoms own ic cls names, w.before args s' = true := vx_own hat' (vx_isRefq hU'.1) (vx_isRefq hN'.1) hU'.2.word hN'.2.word
  have hown' : s'.vm.findClass own = some m.cls := by rw [hvm]; exact hown
  have hins : (Cond.instantiable cls 6).before args s' = true := h _ (by simp [Bundle.ownAtoms])
  obtain ⟨vm₁, cX, kX, hfX, hkX, -, -, X₁, st1⟩ := Y.newCold hexec (own := own) (C := cls) (index := ik) (n := 6) hown' hk' hins hini'
    (g := F0 m pc ls rest) rfl (by rw [hb]; exact d0) (Nat.le_refl _) (Nat.le_refl _)
  generalize hT1 : (T.setVm vm₁).pushCell { cls := cX, slots := kX.instanceTypes.map defaultValue, vm := .none } = T1 at X₁ st1
  have hcat : (Value.ref T.heap.size).category = 1 := rfl
  have hcellA : T1.heap[T.heap.size]? = some (freshCell cX kX) := by rw [← hT1]; exact State.heap_pushCell_size _ _
  have d3' : decode c.code (pc + 3) = .ok (.dup, 1) := by rw [hb]; exact d3
  have d4' : decode c.code (pc + 4) = .ok (.ldc is, 2) := by rw [hb]; exact d4
  have hstr' : vk_R own is text sa s' := vk_R.warm hW0 hstr
  obtain ⟨U, hsteps, hrun, hend, hW, hsame, ce, hce, hO⟩ := X₁.ctorThrowS hexec htr (own := own) (cls := cls) (names := names) (ic := ic) hown' hcls hnames h (fun x hx => nomatch hx) hfX hkX hcellA (by rw [hhp, hT]; exact Nat.le_refl _) (msg := .ref sa) rfl
    (g := { method := m, pc := pc + 6, locals := ls, stack := .ref sa :: .ref T.heap.size :: .ref T.heap.size :: rest, locked := none }) rfl hsize rfl rfl (rest := rest) rfl
    (by rw [hb]; exact d6) (by rw [hb]; exact d9) hout hRframes (by simp only [List.map_cons, List.sum_cons, hcat]; omega) hlocks
  obtain ⟨f1, f2⟩ := vx_frame hsame
  rw [hhp] at f1 f2
  have hWs : s.WarmedH U.vm := State.WarmedH.trans hW0 hW
  have hcl : s.vm.findClass cls = some ce.cls := by
    have h9 := hO.cls
    rw [hvm] at h9
    exact h9
  have hall : s.sameButNew ({ U with vm := s.vm } : State) locs mc ms := by
    subst hA
    obtain ⟨e1, e2⟩ := hsame
    rw [State.setFrames_setFrames] at e1
    have h2 : (T.setVm s.vm).sameButNew ({ U with vm := s.vm } : State) [] (0 + 1) (0 + 6) := ⟨e1, e2⟩
    have h3 := X.same.trans h2
    rw [List.append_nil] at h3
    exact h3.mono hc hs
  refine ⟨U, ?_, .threw T.heap.size, hrun, hend, Or.inr ⟨T.heap.size, rfl, cls, ce, locs, hx U hWs.alike f1 (fun q hq => f2 q hq (fun z hz => nomatch hz)), hce, hO.vm, hcl, hWs, hall, hf⟩⟩
  refine st1 _ ?_
  show Steps p.tables e below (T1.setTop { method := m, pc := pc + 3, locals := ls, stack := .ref T.heap.size :: rest, locked := none }) _
  jvm_step X₁.here [X₁.here.top, hexec, d3', Value.category]
  exact X₁.ldcString hexec (own := own) (text := text) (index := is) (a := sa) hown' hstr'.1 hstr'.2
    (g := { method := m, pc := pc + 4, locals := ls, stack := .ref T.heap.size :: .ref T.heap.size :: rest, locked := none }) rfl d4' _ hsteps
/-- 'throw new E("text")', the text by a wide index -/
theorem vx_throwSW {cc : ByteArray} {pc : Nat} (hexec : p.tables.exec = Jvm.exec) (hb : c.code = cc) (hl : l.stackTraces = false) {own cls text : String} {names : List String} {ik is ic mc ms sa : Nat} {A : Nat → Prop}
    (hown : s.vm.findClass own = some m.cls) (hcls : Bundle.fit cls = true) (hnames : ∀ n ∈ names, Bundle.fit n = true)
    (hk : (Cond.classLink own ik cls).before args s = true) (hini : (Cond.initialized cls).before args s = true) (hstr : vk_R own is text sa s) (hat : ∀ w ∈ vx_atS own ic cls names, w.before args s = true)
    (hgood : ∀ w ∈ Cond.classLink own ik cls :: Cond.initialized cls :: vx_atS own ic cls names, vx_ot w = true)
    (hU : vx_Zq Bundle.tN "UNASSIGNED_STACK" Bundle.steD A s s.heap) (hN : vx_Zq Bundle.tN "SUPPRESSED_SENTINEL" Bundle.listD A s s.heap) (hS : va_S A s.heap H locs) (hsize : ls.size = c.maxLocals)
    (d0 : decode cc pc = .ok (.new ik, 3)) (d3 : decode cc (pc + 3) = .ok (.dup, 1)) (d4 : decode cc (pc + 4) = .ok (.ldc_w is, 3)) (d7 : decode cc (pc + 7) = .ok (.invokespecial ic, 3)) (d10 : decode cc (pc + 10) = .ok (.athrow, 1))
    (hout : ∀ x ∈ c.exceptionTable.toList, covers x (pc + 10) = false)
    (hRframes : names.length + 3 < R.frames) (hRlocals : (rest.map fun v => v.category).sum + (13 * (names.length + 1) + 43) ≤ R.locals) (hRcells : cells + 1 ≤ R.cells) (hRslots : slots + 6 ≤ R.slots) (hlocks : meth.locks = false)
    (hx : ∀ t : State, s.vm.Alike t.vm → H.size ≤ t.heap.size → (∀ q : Nat, q < H.size → t.heap[q]? = H[q]?) → XC cls s t)
    (hf : ∀ z ∈ locs, free z.base) (hc : cells + 1 ≤ mc) (hs : slots + 6 ≤ ms) :
    W p l e R s m args below meth c H locs cells slots (vx_MQ below Qc XC args s mc ms free) (F0 m pc ls rest) := by
  intro T hT X
  have htr : e.platform.stackTraces = false := (show e.platform.stackTraces = l.stackTraces by rw [X.admits.platform]).trans hl
  have Y := vx_rebase X (R' := { frames := R.frames, locals := R.locals, cells := 1, slots := 6 }) (Nat.le_refl _) (Nat.le_refl _) hRcells hRslots
  obtain ⟨s', hA⟩ : ∃ z, z = (T.setVm s.vm).setFrames (.invoking m args :: below) := ⟨_, rfl⟩
  rw [← hA] at Y
  have hvm : s'.vm = s.vm := by rw [hA]; rfl
  have hhp : s'.heap = H := by rw [hA]; exact hT
  have hW0 : s.WarmedH s'.vm := by rw [hvm]; exact State.WarmedH.refl s
  have hat' : ∀ w ∈ vx_atS own ic cls names, w.before args s' = true := fun w hw => vx_ot_at hW0 hvm.symm (hgood w (List.mem_cons_of_mem _ (List.mem_cons_of_mem _ hw))) (hat w hw)
  have hk' : (Cond.classLink own ik cls).before args s' = true := vx_ot_at hW0 hvm.symm (hgood _ List.mem_cons_self) hk
  have hini' : (Cond.initialized cls).before args s' = true := vx_ot_at hW0 hvm.symm (hgood _ (List.mem_cons_of_mem _ List.mem_cons_self)) hini
  have hU' : vx_Zq Bundle.tN "UNASSIGNED_STACK" Bundle.steD A s' s'.heap := by rw [hhp]; exact vx_Zq.moved hW0.alike (hU.kept hS.2.1)
  have hN' : vx_Zq Bundle.tN "SUPPRESSED_SENTINEL" Bundle.listD A s' s'.heap := by rw [hhp]; exact vx_Zq.moved hW0.alike (hN.kept hS.2.1)
  have h : ∀ w ∈ Bundle.ownAtoms own ic cls names, w.before args s' = true := vx_own hat' (vx_isRefq hU'.1) (vx_isRefq hN'.1) hU'.2.word hN'.2.word
  have hown' : s'.vm.findClass own = some m.cls := by rw [hvm]; exact hown
  have hins : (Cond.instantiable cls 6).before args s' = true := h _ (by simp [Bundle.ownAtoms])
  obtain ⟨vm₁, cX, kX, hfX, hkX, -, -, X₁, st1⟩ := Y.newCold hexec (own := own) (C := cls) (index := ik) (n := 6) hown' hk' hins hini'
    (g := F0 m pc ls rest) rfl (by rw [hb]; exact d0) (Nat.le_refl _) (Nat.le_refl _)
  generalize hT1 : (T.setVm vm₁).pushCell { cls := cX, slots := kX.instanceTypes.map defaultValue, vm := .none } = T1 at X₁ st1
  have hcat : (Value.ref T.heap.size).category = 1 := rfl
  have hcellA : T1.heap[T.heap.size]? = some (freshCell cX kX) := by rw [← hT1]; exact State.heap_pushCell_size _ _
  have d3' : decode c.code (pc + 3) = .ok (.dup, 1) := by rw [hb]; exact d3
  have d4' : decode c.code (pc + 4) = .ok (.ldc_w is, 3) := by rw [hb]; exact d4
  have hstr' : vk_R own is text sa s' := vk_R.warm hW0 hstr
  obtain ⟨U, hsteps, hrun, hend, hW, hsame, ce, hce, hO⟩ := X₁.ctorThrowS hexec htr (own := own) (cls := cls) (names := names) (ic := ic) hown' hcls hnames h (fun x hx => nomatch hx) hfX hkX hcellA (by rw [hhp, hT]; exact Nat.le_refl _) (msg := .ref sa) rfl
    (g := { method := m, pc := pc + 7, locals := ls, stack := .ref sa :: .ref T.heap.size :: .ref T.heap.size :: rest, locked := none }) rfl hsize rfl rfl (rest := rest) rfl
    (by rw [hb]; exact d7) (by rw [hb]; exact d10) hout hRframes (by simp only [List.map_cons, List.sum_cons, hcat]; omega) hlocks
  obtain ⟨f1, f2⟩ := vx_frame hsame
  rw [hhp] at f1 f2
  have hWs : s.WarmedH U.vm := State.WarmedH.trans hW0 hW
  have hcl : s.vm.findClass cls = some ce.cls := by
    have h9 := hO.cls
    rw [hvm] at h9
    exact h9
  have hall : s.sameButNew ({ U with vm := s.vm } : State) locs mc ms := by
    subst hA
    obtain ⟨e1, e2⟩ := hsame
    rw [State.setFrames_setFrames] at e1
    have h2 : (T.setVm s.vm).sameButNew ({ U with vm := s.vm } : State) [] (0 + 1) (0 + 6) := ⟨e1, e2⟩
    have h3 := X.same.trans h2
    rw [List.append_nil] at h3
    exact h3.mono hc hs
  refine ⟨U, ?_, .threw T.heap.size, hrun, hend, Or.inr ⟨T.heap.size, rfl, cls, ce, locs, hx U hWs.alike f1 (fun q hq => f2 q hq (fun z hz => nomatch hz)), hce, hO.vm, hcl, hWs, hall, hf⟩⟩
  refine st1 _ ?_
  show Steps p.tables e below (T1.setTop { method := m, pc := pc + 3, locals := ls, stack := .ref T.heap.size :: rest, locked := none }) _
  jvm_step X₁.here [X₁.here.top, hexec, d3', Value.category]
  exact X₁.ldcStringW hexec (own := own) (text := text) (index := is) (a := sa) hown' hstr'.1 hstr'.2
    (g := { method := m, pc := pc + 4, locals := ls, stack := .ref T.heap.size :: .ref T.heap.size :: rest, locked := none }) rfl d4' _ hsteps
end Ends
section Bodies
variable {l : Launch}
theorem vx_ofW {y : MethodName} {ws ws' : List Cond} {rm : Room} {Pc : Array Value → State → Prop} {Qc : Array Value → State → Outcome → State → Prop} {XC : String → State → State → Prop} {mc ms : Nat} {free : Addr → Prop} {cc : ByteArray} {maxL : Nat} {ret : Option FieldType}
    (hy : plainName y.cls = true) (hw : ws = Cond.code y cc maxL ret :: ws')
    (body : ∀ p e s m args below meth c s₁, BodyLoose p l y (headSpec ws rm) cc maxL ret e s m args below meth c s₁ → c.maxLocals = maxL → (∀ x ∈ c.exceptionTable.toList, False) → Pc args s →
      W p l e (headSpec ws rm).room s m args below meth c s.heap [] 0 0 (vx_MQ below Qc XC args s mc ms free) (entryFrame m args maxL)) : vx_Met l y ws rm Pc Qc XC mc ms free := by
  refine MetFree.of_bodyS (code := cc) (maxLocals := maxL) (ret := ret) hy ?_ ?_
  · intro args s m h hn
    obtain ⟨meth, c, h1, h2, h3, h4, h5, h6, -, -⟩ := Cond.code_spec hn (atoms_spec (ws := ws) h _ (by rw [hw]; exact List.mem_cons_self))
    exact ⟨meth, c, h1, h2, h3, h4, h5, h6⟩
  · intro p e s m args below meth c s₁ B hml hP _
    have hh0 : s₁.heap = s.heap := by rw [B.state]; rfl
    have ht : ∀ x ∈ c.exceptionTable.toList, False := by
      obtain ⟨meth9, c9, h1, h2, -, -, -, -, h7, -⟩ := Cond.code_spec B.named (atoms_spec (ws := ws) B.pre _ (by rw [hw]; exact List.mem_cons_self))
      cases Option.some.inj (h1.symm.trans B.method)
      cases Option.some.inj (h2.symm.trans (Stand.of_body B).code)
      intro x hx
      rw [Array.isEmpty_iff.mp h7] at hx
      cases hx
    obtain ⟨t, a1, o, b1, b2, b3⟩ := body p e s m args below meth c s₁ B hml ht hP s₁ hh0 (Stand.of_body B)
    exact ⟨t, o, a1, b1, b2, b3⟩
/-- the table of a body with handlers -/
theorem vx_table {p : Program} {x y : MethodName} {S : Spec} {cc bytes : ByteArray} {maxL maxL' : Nat} {ret ret' : Option FieldType} {e : Env} {s s₁ : State} {m : MethodId} {args : Array Value} {below : List Frame} {meth : Method} {c : Code} {hh : List (Nat × Nat × Nat × Nat)}
    (B : BodyLoose p l y S cc maxL ret e s m args below meth c s₁) (h : (Cond.codeWith y bytes maxL' ret' hh).before args s = true) : c.exceptionTable.toList = tableOf hh := by
  obtain ⟨m9, meth9, c9, hn9, h1, h2, -, -, h6, -⟩ := Cond.codeWith_spec h
  cases Option.some.inj (hn9.symm.trans B.named)
  cases Option.some.inj (h1.symm.trans B.method)
  cases Option.some.inj (h2.symm.trans (Stand.of_body B).code)
  rw [← h6, table_eq]
end Bodies
end VXA
/-! ===== END ===== -/
/-! ===== BEGIN a static call of a method with an exception table ===== -/
section VXS
variable {p : Program} {l : Launch} {e : Env} {R : Room} {s : State} {m : MethodId} {args : Array Value} {below : List Frame} {meth : Method} {c : Code} {T : State} {H : Heap} {locs : List Loc} {cells slots : Nat}
abbrev vx_CSW (R : Room) (s : State) (args : Array Value) (own : String) (index : Nat) (y : MethodName) (bytes : ByteArray) (maxL : Nat) (ret : Option FieldType) (hh : List (Nat × Nat × Nat × Nat)) (ws : List Cond) (rm : Room) (mc ms n : Nat) : Prop :=
  (rm.cells = mc ∧ rm.slots = ms ∧ rm.frames + 1 ≤ R.frames ∧ 8 + (maxL + 11) + rm.locals ≤ R.locals ∧ (∀ w ∈ ws, ∀ (a' : Array Value) (U : State), s.WarmedH U.vm → w.before a' U = true) ∧ Cond.codeWith y bytes maxL ret hh ∈ ws) ∧
  (Cond.codeWith y bytes maxL ret hh).before args s = true ∧ (Cond.initialized y.cls).before args s = true ∧ (y.cls ≠ "java/lang/invoke/MethodHandle" ∧ y.cls ≠ "java/lang/invoke/VarHandle") ∧
  (∀ sig, parseMethodDescriptor y.desc = some sig → n = sig.parameters.length) ∧ (Cond.methodLink own index y).before args s = true ∧ (Cond.static y).before args s = true
theorem vx_cwSW {own : String} {index maxL mc ms : Nat} {y : MethodName} {bytes : ByteArray} {ret : Option FieldType} {hh : List (Nat × Nat × Nat × Nat)} {Ts ws ws' : List Cond} {rm : Room} (n : Nat) (ht : ∀ w ∈ Ts, w.before args s = true) (hT : GoodIn Ts (va_wsS own index y ws)) (hw : ws = Cond.codeWith y bytes maxL ret hh :: ws') (hrc : rm.cells = mc) (hrs : rm.slots = ms)
    (hd : y.cls ≠ "java/lang/invoke/MethodHandle" ∧ y.cls ≠ "java/lang/invoke/VarHandle" ∧ (parseMethodDescriptor y.desc).map (fun d => d.parameters.length) = some n) (hR : rm.frames + 1 ≤ R.frames ∧ 8 + (maxL + 11) + rm.locals ≤ R.locals) :
    vx_CSW R s args own index y bytes maxL ret hh ws rm mc ms n := by
  have ok : ∀ w ∈ va_wsS own index y ws, w.before args s = true := fun w h => ht w (hT w h).1
  have hG : GoodIn Ts ws := fun w h => hT w (by unfold va_wsS; exact List.mem_append_right _ h)
  have hc : Cond.codeWith y bytes maxL ret hh ∈ ws := by rw [hw]; exact List.mem_cons_self
  refine ⟨⟨hrc, hrs, hR.1, hR.2, pay_in ht hG, hc⟩, ht _ (hG _ hc).1, ok _ (by simp [va_wsS]), ⟨hd.1, hd.2.1⟩, fun sig h => ?_, ok _ (by simp [va_wsS]), ok _ (by simp [va_wsS])⟩
  have h2 := hd.2.2
  rw [h] at h2
  exact (Option.some.inj h2).symm
theorem vx_callSW (X : Stand p l e R s m args below meth c T locs cells slots) (hexec : p.tables.exec = Jvm.exec) {own : String} {index : Nat} {y : MethodName} {bytes : ByteArray} {maxL : Nat} {ret : Option FieldType} {hh : List (Nat × Nat × Nat × Nat)}
    (hown : s.vm.findClass own = some m.cls) (hlink : (Cond.methodLink own index y).before args s = true) (hstat : (Cond.static y).before args s = true) (hinit : (Cond.initialized y.cls).before args s = true)
    (hcode : (Cond.codeWith y bytes maxL ret hh).before args s = true) (hy : y.cls ≠ "java/lang/invoke/MethodHandle" ∧ y.cls ≠ "java/lang/invoke/VarHandle")
    {W9 : Nat} {Pre : Pt → Array Value → Prop} {Post : Pt → Array Value → Option Value → Pt → Prop} (hK : Back l R p e below s args y 3 W9 Pre Post)
    {g : JFrame} (hg : g.method = m) (hsize : g.locals.size = c.maxLocals) {argsL rest : List Value} (hlen : ∀ sig, parseMethodDescriptor y.desc = some sig → argsL.length = sig.parameters.length)
    (hstack : g.stack = argsL.reverse ++ rest) (hW : 2 * g.monitorRoom + (rest.map fun v => v.category).sum ≤ W9) (hdg : decode c.code g.pc = .ok (.invokestatic index, 3))
    (hpre : ∀ vm₁, s.WarmedH vm₁ → Pre ⟨T.setVm vm₁, locs, cells, slots⟩ argsL.toArray) :
    ∃ (v : Option Value) (vm₁ : Vm) (B : Pt), s.WarmedH vm₁ ∧ Stand p l e R s m args below meth c B.U B.locs B.cells B.slots ∧ Post ⟨T.setVm vm₁, locs, cells, slots⟩ argsL.toArray v B ∧
      ∀ target, Steps p.tables e below (B.U.setTop { g with pc := g.pc + 3, stack := v.toList ++ rest }) target → Steps p.tables e below (T.setTop g) target := by
  obtain ⟨mk, methM, cM, hnamed, hmethM, -, -, -, -, -, -, hsigM⟩ := Cond.codeWith_spec hcode
  have hstatic : methM.isStatic = true := Cond.static_spec hnamed hmethM hstat
  obtain ⟨kP, hkP, -⟩ := className_of_methodNamed hnamed
  have hinitP : kP.init = .initialized := Cond.initialized_spec (findClass_of_methodNamed hnamed) hkP hinit
  obtain ⟨vm₁, X₁, hstep₁⟩ := X.invokestatic hexec hown hlink hnamed hmethM hstatic hkP hinitP hy (g := g) hg (argsL := argsL) (rest := rest) (hlen _ hsigM) hstack hdg
  obtain ⟨v, B, X', hpost, hsteps⟩ := hK m meth c ⟨T.setVm vm₁, locs, cells, slots⟩ { g with stack := rest } (.invokestatic index) mk argsL.toArray X₁ hg hsize hdg hW (X₁.named hnamed) (hpre vm₁ X₁.warmed)
  exact ⟨v, vm₁, B, X₁.warmed, X', hpost, fun target h => hstep₁ _ fun acts => by rw [doInvoke_state]; exact hsteps.trans h⟩
theorem vx_runSW {y : MethodName} {bytes cc : ByteArray} {maxL nL mc ms n index : Nat} {ret : Option FieldType} {hh : List (Nat × Nat × Nat × Nat)} {ws : List Cond} {rm : Room} {Pc : Array Value → State → Prop} {Qc : Array Value → State → Outcome → State → Prop} {free : Addr → Prop} {Ts : List Cond} {own : String} {As rest : List Value} {g : JFrame}
    (S : CallFix p m c cc nL s args Ts own) (hM : Met l y ws rm Pc Qc mc ms free) (cw : vx_CSW R s args own index y bytes maxL ret hh ws rm mc ms n) (hp : PreS s H Pc As)
    (hg : g.method = m) (hn : As.length = n) (hsize : g.locals.size = nL) (hstack : g.stack = As.reverse ++ rest) (hW : 2 * g.monitorRoom + (rest.map fun v => v.category).sum ≤ 8) (hdg : decode cc g.pc = .ok (.invokestatic index, 3)) (hf : cells + mc ≤ R.cells ∧ slots + ms ≤ R.slots) :
    va_Run p l e R s m args below meth c H locs cells slots mc ms g rest (Qc As.toArray) (free) := by
  obtain ⟨⟨hrc, hrs, hfr, hlo, hws, hcw⟩, hcode, hini, hy, hlen, hl, hstt⟩ := cw
  have hK : Back l R p e below s args y 3 8 (PreOf R mc ms Pc) (PostOf Qc mc ms free) := va_backW (hh := hh) (bytes := bytes) (maxL := maxL) (ret := ret) hM hp.1 hrc hrs hfr hlo hws hcw (fun a' U hW => word_at hW (Or.inl (by first | rfl | simp [Cond.onTables, Cond.keeps, Cond.steady])) hini)
  obtain ⟨hx, hb, hml, ho, -⟩ := S
  intro T hT X
  obtain ⟨v, vm₁, ⟨U', l2, c2, s2⟩, hW₁, X', ⟨g', mk, t, L, e1, e2, hq, h1, hL, h2, h3⟩, st⟩ := vx_callSW X hx (hh := hh) (bytes := bytes) (maxL := maxL) (ret := ret) ho hl hstt hini hcode hy hK hg (hsize.trans hml.symm) (argsL := As) (rest := rest) (fun sig h => hn.trans (hlen sig h)) hstack hW (by rw [hb]; exact hdg)
    (fun vm₁ hW₁ => ⟨hf.1, hf.2, hp.2 (T.setVm vm₁) hT hW₁⟩)
  dsimp only [Pt.U, Pt.locs, Pt.cells, Pt.slots] at X' e1 e2 h1 h2 h3 st
  subst h1; subst h2; subst h3
  exact ⟨v, (T.setVm vm₁).calling g' mk As.toArray, t, U', L, hT, X', hL, e1, e2, hq, st⟩
/-- not caught here, past rows that name other classes: it goes on to the caller -/
theorem vx_outP {p : Program} {l : Launch} {e : Env} {R : Room} {s : State} {m : MethodId} {args : Array Value} {below : List Frame} {meth : Method} {c : Code} {H : Heap} {locs : List Loc} {cells slots : Nat} {free : Addr → Prop} {ls : Array Slot} {rest : List Value} {Qc : Array Value → State → Outcome → State → Prop} {XC : String → State → State → Prop}
    {pc : Nat} {own E : String} {ce : Cell} {q : Addr} {mc ms : Nat} (hown : s.vm.findClass own = some m.cls) (hlocks : meth.locks = false)
    (hpass : ∀ z ∈ c.exceptionTable.toList, covers z pc = false ∨ (z.catchType ≠ 0 ∧ ∃ nm : String, (Cond.classLink own z.catchType nm).before args s = true ∧ va_Nc E nm s)) (hcell : H[q]? = some ce) (hv : ce.vm = .none) (hcl : s.vm.findClass E = some ce.cls)
    (hx : ∀ t : State, t.heap = H → s.vm.Alike t.vm → XC E s t) (hf : ∀ z ∈ locs, free z.base) (hc : cells ≤ mc) (hs : slots ≤ ms) :
    vx_W p l e R s m args below meth c H locs cells slots (vx_MQ below Qc XC args s mc ms free) (F0 m pc ls rest) q := by
  intro T hT X
  have hpl : e.platform.magicAccessors = ({} : Platform).magicAccessors := by rw [X.admits.platform]
  obtain ⟨vm', hW', X', st⟩ := X.outThrough hlocks q (g := F0 m pc ls rest) rfl rfl rfl (cell := ce) (by rw [hT]; exact hcell) (by rw [hv]; rfl)
    (by obtain ⟨k9, h9, -⟩ := Vm.findClass_spec hcl; exact ⟨k9, h9⟩) (fun z hz => by
      rcases hpass z hz with h | ⟨hz0, nm, hl1, hn1⟩
      · exact Or.inl h
      · obtain ⟨c6, hc6, hcl6⟩ := Cond.classLink_spec hown hl1 e.platform hpl
        obtain ⟨a8, b8, h1, h2, h3⟩ := hn1
        cases Option.some.inj (h1.symm.trans hcl)
        cases Option.some.inj (h2.symm.trans hc6)
        exact Or.inr ⟨hz0, _, hcl6, h3⟩)
  obtain ⟨g₀, hfr⟩ := X'.frames_eq
  have hcell9 : ((T.setVm vm').setFrames (.throwing q :: below)).heap[q]? = some ce := by
    show T.heap[q]? = some ce
    rw [hT]; exact hcell
  have hend : Ended ((T.setVm vm').setFrames (.throwing q :: below)) below (.threw q) := State.frames_setFrames _ (State.cur_lt_of_frames hfr)
  refine ⟨(T.setVm vm').setFrames (.throwing q :: below), ?_, .threw q, X'.here.running, hend, Or.inr ⟨q, rfl, E, ce, locs, hx _ hT (X'.ends _).1.alike, hcell9, hv, hcl, (X'.ends _).1, (X'.ends _).2.mono hc hs, hf⟩⟩
  rw [X.pushThrowing_eq]
  exact st
/-- a thing of a world lies in the heap -/
theorem vx_lt {D : va_G} {cl : List vw_C} {ws : va_W} {H1 : Heap} (h : va_P D cl ws H1) {k : Nat} {q : Nat × va_E} (hk : ws[k]? = some q) : q.1 < H1.size := (h k q hk).lt
end VXS
/-! ===== END ===== -/
/-! ===== BEGIN methods with a table of their own: called by a name, returning or throwing ===== -/
section VXH
/-! vx_backW, vx_callVX, vx_callSX, vx_callVW, vx_runVW, vx_runVX, vx_runSX, vx_ofWH follow the same proofs as their sisters above (Free/Laws.lean, Shelf42/LK1.lean); vx_outP calls Shelf42/NT130.lean (outThrough). -/
section
variable {l : Launch} {R : Room} {p : Program} {e : Env} {below : List Frame} {s : State} {sargs : Array Value} {y : MethodName} {len W9 : Nat}
theorem vx_backW {ws : List Cond} {rm : Room} {Pc : Array Value → State → Prop} {Qc : Array Value → State → Outcome → State → Prop} {XC : String → State → State → Prop} {mc ms : Nat} {free : Addr → Prop} {bytes : ByteArray} {maxL : Nat} {ret : Option FieldType} {hh : List (Nat × Nat × Nat × Nat)}
    (hM : vx_Met l y ws rm Pc Qc XC mc ms free) (hblind : FrameBlind Pc) (hrc : rm.cells = mc) (hrs : rm.slots = ms)
    (hframes : rm.frames + 1 ≤ R.frames) (hlocals : W9 + (maxL + 11) + rm.locals ≤ R.locals)
    (hws : ∀ w ∈ ws, ∀ a' U, s.WarmedH U.vm → w.before a' U = true) (hcode : Cond.codeWith y bytes maxL ret hh ∈ ws) (hinit : ∀ a' U, s.WarmedH U.vm → (Cond.initialized y.cls).before a' U = true) :
    vx_Back l R p e below s sargs y len W9 (PreOf R mc ms Pc) (PostOf Qc mc ms free) (vx_Post XC mc ms free) := by
  intro m meth c A g ig mk a X hg hsize hdg hW hn hp
  have h1 : (headSpec ws rm).pre.before a A.U = true := atoms_intro fun w hw => hws w hw _ _ X.warmed
  have h2 : (Cond.codeWith y bytes maxL ret hh).before a A.U = true := hws _ hcode _ _ X.warmed
  have h3 : (Cond.initialized y.cls).before a A.U = true := hinit _ _ X.warmed
  have h4 : A.cells + (headSpec ws rm).room.cells ≤ R.cells := by rw [show (headSpec ws rm).room.cells = mc from hrc]; exact hp.1
  have h5 : A.slots + (headSpec ws rm).room.slots ≤ R.slots := by rw [show (headSpec ws rm).room.slots = ms from hrs]; exact hp.2.1
  have hPc : Pc a (A.U.calling g mk a) := hblind _ _ _ _ hp.2.2
  obtain ⟨U, Ls, c0, s0⟩ := A
  dsimp only [Pt.U, Pt.locs, Pt.cells, Pt.slots] at h1 h2 h3 h4 h5 X hn hPc ⊢
  obtain ⟨m9, methY, cY, hn9, hmY, hcY, -, hlY, -⟩ := Cond.codeWith_spec h2
  cases Option.some.inj (hn9.symm.trans hn)
  obtain ⟨kY, hkY, -⟩ := className_of_methodNamed hn
  have hinitY : kY.init = .initialized := Cond.initialized_spec (findClass_of_methodNamed hn) hkY h3
  have h : At U g.method c below := by rw [hg]; exact X.here
  have hlocals9 : W9 + (maxL + 11) + (headSpec ws rm).room.locals ≤ R.locals := hlocals
  have happ : (headSpec ws rm).appliesLoose y e.platform (U.calling g mk a) = true :=
    Spec.appliesLoose_calling (g := g) h hdg hn hkY hinitY
      (X.room_calling (g := g) (R' := (headSpec ws rm).room) hsize hmY hcY hframes (by rw [hlY]; omega) h4 h5) h1
  obtain ⟨mid, hmid⟩ := h.above
  have hfr : (U.setTop g).frames = (.java g :: mid) ++ below := by rw [State.frames_setTop' g h.top, hmid]; rfl
  obtain ⟨o, s₂, hsteps, -, hend, hq⟩ := Steps.callFree hM p X.admits X.cas X.clock (acts := []) hfr happ hPc trivial
  have hq' : vx_Q Qc XC mc ms free a (U.calling g mk a) o s₂ := hq
  rw [State.frames_setTop' g h.top] at hend
  obtain ⟨g₀, hg0⟩ := Option.isSome_iff_exists.mp h.top
  obtain ⟨r, hr⟩ := State.topJava?_eq_some.mp hg0
  have hr' : (({ U with heap := s₂.heap, slotsUsed := s₂.slotsUsed } : State).setVm s₂.vm).frames = .java g₀ :: r := hr
  rcases hq' with ⟨hqc, L, hfe, hL⟩ | ⟨q, rfl, E, ce, L, hx, hce, hcv, hcl, hW₂, hsm, hL⟩
  · obtain ⟨⟨v, rfl⟩, hW₂, e2, q2, q3, q4, q5, q6⟩ := id hfe
    have e3 : s₂ = ({ (U.calling g mk a).setFrames s₂.frames with heap := s₂.heap, slotsUsed := s₂.slotsUsed } : State).setVm s₂.vm := by
      have : s₂ = ({ s₂ with vm := (U.calling g mk a).vm } : State).setVm s₂.vm := rfl
      rw [e2] at this
      exact this
    obtain ⟨c₂, i₂, len₂, hc₂, hd₂, hf₂⟩ := hend
    have hW' : U.WarmedH s₂.vm := hW₂
    have hcc : c₂ = c := by
      have h1 : s₂.code? g.method = U.code? g.method := by
        rw [State.code?_eq, State.code?_eq, hW'.alike.method?]
      exact Option.some.inj (hc₂.symm.trans (h1.trans h.code))
    subst hcc
    have hlen : len₂ = len := by rw [hdg] at hd₂; cases hd₂; rfl
    subst hlen
    have hs₂ : s₂ = (({ U with heap := s₂.heap, slotsUsed := s₂.slotsUsed } : State).setVm s₂.vm).setTop { g with pc := g.pc + len₂, stack := v.toList ++ g.stack } := by
      refine e3.trans ?_
      rw [hf₂, State.calling_eq h.top, State.setFrames_setFrames, State.setTop_of_frames _ hr', hr]
      rfl
    have hsame : U.sameButNew ({ U with heap := s₂.heap, slotsUsed := s₂.slotsUsed } : State) L mc ms := by
      refine ⟨?_, q2, q3, q4, q5, q6⟩
      obtain ⟨t, ht, -⟩ := State.frames_cons hr
      show ({ U with heap := s₂.heap, slotsUsed := s₂.slotsUsed } : State) = { U.setFrames U.frames with heap := s₂.heap, slotsUsed := s₂.slotsUsed }
      rw [State.setFrames_self ht]
    subst hg
    refine Or.inl ⟨v, ⟨(({ U with heap := s₂.heap, slotsUsed := s₂.slotsUsed } : State).setVm s₂.vm), Ls ++ L, c0 + mc, s0 + ms⟩,
      ⟨X.admits, X.cas, X.clock, X.frames, X.room, X.hears, X.method, X.code, (X.here.setHeapUsed s₂.heap s₂.slotsUsed).setVm hW'.alike, X.tail, State.WarmedH.trans X.warmed hW', X.limits, X.bytes, X.same.trans (hsame.setVm s.vm)⟩,
      ⟨g, mk, s₂, L, rfl, rfl, hqc, rfl, hL, rfl, rfl⟩, ?_⟩
    show Steps p.tables e below _ ((({ U with heap := s₂.heap, slotsUsed := s₂.slotsUsed } : State).setVm s₂.vm).setTop { g with pc := g.pc + len₂, stack := v.toList ++ g.stack })
    rw [← hs₂]
    exact hsteps
  · obtain ⟨e2, q2, q3, q4, q5, q6⟩ := id hsm
    have e3 : s₂ = ({ (U.calling g mk a).setFrames s₂.frames with heap := s₂.heap, slotsUsed := s₂.slotsUsed } : State).setVm s₂.vm := by
      have : s₂ = ({ s₂ with vm := (U.calling g mk a).vm } : State).setVm s₂.vm := rfl
      rw [e2] at this
      exact this
    have hf₂ : s₂.frames = .throwing q :: .java g :: U.frames.tail := hend
    have hW' : U.WarmedH s₂.vm := hW₂
    have hs₂ : s₂ = ((({ U with heap := s₂.heap, slotsUsed := s₂.slotsUsed } : State).setVm s₂.vm).setTop g).pushFrame (.throwing q) := by
      refine e3.trans ?_
      rw [hf₂, State.calling_eq h.top, State.setFrames_setFrames, State.pushFrame, State.frames_setTop _ hr', State.setTop_of_frames _ hr', State.setFrames_setFrames, hr]
      rfl
    have hsame : U.sameButNew ({ U with heap := s₂.heap, slotsUsed := s₂.slotsUsed } : State) L mc ms := by
      refine ⟨?_, q2, q3, q4, q5, q6⟩
      obtain ⟨t, ht, -⟩ := State.frames_cons hr
      show ({ U with heap := s₂.heap, slotsUsed := s₂.slotsUsed } : State) = { U.setFrames U.frames with heap := s₂.heap, slotsUsed := s₂.slotsUsed }
      rw [State.setFrames_self ht]
    subst hg
    refine Or.inr ⟨q, ⟨(({ U with heap := s₂.heap, slotsUsed := s₂.slotsUsed } : State).setVm s₂.vm), Ls ++ L, c0 + mc, s0 + ms⟩,
      ⟨X.admits, X.cas, X.clock, X.frames, X.room, X.hears, X.method, X.code, (X.here.setHeapUsed s₂.heap s₂.slotsUsed).setVm hW'.alike, X.tail, State.WarmedH.trans X.warmed hW', X.limits, X.bytes, X.same.trans (hsame.setVm s.vm)⟩,
      ⟨g, mk, s₂, L, E, ce, rfl, rfl, hx, hce, hcv, hcl, rfl, hL, rfl, rfl⟩, ?_⟩
    show Steps p.tables e below _ (((({ U with heap := s₂.heap, slotsUsed := s₂.slotsUsed } : State).setVm s₂.vm).setTop g).pushFrame (.throwing q))
    rw [← hs₂]
    exact hsteps
end
variable {p : Program} {l : Launch} {e : Env} {R : Room} {s : State} {m : MethodId} {args : Array Value} {below : List Frame} {meth : Method} {c : Code} {T : State} {H : Heap} {locs : List Loc} {cells slots : Nat}
theorem vx_callVX (X : Stand p l e R s m args below meth c T locs cells slots) (hexec : p.tables.exec = Jvm.exec) {own C : String} {index : Nat} {y : MethodName} {bytes : ByteArray} {maxL : Nat} {ret : Option FieldType} {hh : List (Nat × Nat × Nat × Nat)}
    (hown : s.vm.findClass own = some m.cls) (hlink : (Cond.methodLink own index y).before args s = true) (hinst : (Cond.instanceMethod y).before args s = true) (hsel : (Cond.selects C y y).before args s = true)
    (hcode : (Cond.codeWith y bytes maxL ret hh).before args s = true) (hy : y.cls ≠ "java/lang/invoke/MethodHandle" ∧ y.cls ≠ "java/lang/invoke/VarHandle")
    {W9 : Nat} {Pre : Pt → Array Value → Prop} {Post : Pt → Array Value → Option Value → Pt → Prop} {PostX : Pt → Array Value → Addr → Pt → Prop} (hK : vx_Back l R p e below s args y 3 W9 Pre Post PostX)
    {b : Addr} {cellB : Cell} (hcell : T.heap[b]? = some cellB) (hobj : cellB.vm.isStatics = false) (hcls : s.vm.findClass C = some cellB.cls)
    {g : JFrame} (hg : g.method = m) (hsize : g.locals.size = c.maxLocals) {argsL rest : List Value} (hlen : ∀ sig, parseMethodDescriptor y.desc = some sig → argsL.length = sig.parameters.length)
    (hstack : g.stack = argsL.reverse ++ .ref b :: rest) (hW : 2 * g.monitorRoom + (rest.map fun v => v.category).sum ≤ W9) (hdg : decode c.code g.pc = .ok (.invokevirtual index, 3))
    (hpre : ∀ vm₁, s.WarmedH vm₁ → Pre ⟨T.setVm vm₁, locs, cells, slots⟩ (Value.ref b :: argsL).toArray) :
    (∃ (v : Option Value) (vm₁ : Vm) (B : Pt), s.WarmedH vm₁ ∧ Stand p l e R s m args below meth c B.U B.locs B.cells B.slots ∧ Post ⟨T.setVm vm₁, locs, cells, slots⟩ (Value.ref b :: argsL).toArray v B ∧
      ∀ target, Steps p.tables e below (B.U.setTop { g with pc := g.pc + 3, stack := v.toList ++ rest }) target → Steps p.tables e below (T.setTop g) target) ∨
    (∃ (q : Addr) (vm₁ : Vm) (B : Pt), s.WarmedH vm₁ ∧ Stand p l e R s m args below meth c B.U B.locs B.cells B.slots ∧ PostX ⟨T.setVm vm₁, locs, cells, slots⟩ (Value.ref b :: argsL).toArray q B ∧
      Steps p.tables e below (T.setTop g) ((B.U.setTop { g with stack := rest }).pushFrame (.throwing q))) := by
  obtain ⟨mk, methM, hnamed, hmethM, hstM, habM⟩ := Cond.instanceMethod_spec hinst
  obtain ⟨m8, methM', cM, hn8, hmethM', -, -, -, -, -, -, hsigM⟩ := Cond.codeWith_spec hcode
  cases Option.some.inj (hn8.symm.trans hnamed)
  cases hmethM.symm.trans hmethM'
  obtain ⟨c2, r2, m2, q1, q2, q3, q4, kP, hkP, hkPi⟩ := Cond.selects_spec hsel
  cases hcls.symm.trans q1
  cases (State.methodFound?_of_named hnamed hy).symm.trans q2
  cases hnamed.symm.trans q3
  have hselP : selectMethod e.platform s.vm cellB.cls mk = .method mk := by rw [Launch.admits_selectMethod X.admits]; exact q4
  obtain ⟨vm₁, X₁, hstep₁⟩ := X.invokevirtual hexec hown hlink hnamed hmethM hstM hkP hkPi hy (a := b) (cell := cellB) hcell
    (fun z h => by rw [h] at hobj; cases hobj) hselP hmethM habM hkP hkPi (g := g) hg (argsL := argsL) (rest := rest) (hlen _ hsigM) hstack hdg
  rcases hK m meth c ⟨T.setVm vm₁, locs, cells, slots⟩ { g with stack := rest } (.invokevirtual index) mk (Value.ref b :: argsL).toArray X₁ hg hsize hdg hW (X₁.named hnamed) (hpre vm₁ X₁.warmed) with ⟨v, B, X', hpost, hsteps⟩ | ⟨q, B, X', hpost, hsteps⟩
  · exact Or.inl ⟨v, vm₁, B, X₁.warmed, X', hpost, fun target h => hstep₁ _ fun acts => by rw [doInvoke_state]; exact hsteps.trans h⟩
  · exact Or.inr ⟨q, vm₁, B, X₁.warmed, X', hpost, hstep₁ _ fun acts => by rw [doInvoke_state]; exact hsteps⟩
theorem vx_callSX (X : Stand p l e R s m args below meth c T locs cells slots) (hexec : p.tables.exec = Jvm.exec) {own : String} {index : Nat} {y : MethodName} {bytes : ByteArray} {maxL : Nat} {ret : Option FieldType} {hh : List (Nat × Nat × Nat × Nat)}
    (hown : s.vm.findClass own = some m.cls) (hlink : (Cond.methodLink own index y).before args s = true) (hstat : (Cond.static y).before args s = true) (hinit : (Cond.initialized y.cls).before args s = true)
    (hcode : (Cond.codeWith y bytes maxL ret hh).before args s = true) (hy : y.cls ≠ "java/lang/invoke/MethodHandle" ∧ y.cls ≠ "java/lang/invoke/VarHandle")
    {W9 : Nat} {Pre : Pt → Array Value → Prop} {Post : Pt → Array Value → Option Value → Pt → Prop} {PostX : Pt → Array Value → Addr → Pt → Prop} (hK : vx_Back l R p e below s args y 3 W9 Pre Post PostX)
    {g : JFrame} (hg : g.method = m) (hsize : g.locals.size = c.maxLocals) {argsL rest : List Value} (hlen : ∀ sig, parseMethodDescriptor y.desc = some sig → argsL.length = sig.parameters.length)
    (hstack : g.stack = argsL.reverse ++ rest) (hW : 2 * g.monitorRoom + (rest.map fun v => v.category).sum ≤ W9) (hdg : decode c.code g.pc = .ok (.invokestatic index, 3))
    (hpre : ∀ vm₁, s.WarmedH vm₁ → Pre ⟨T.setVm vm₁, locs, cells, slots⟩ argsL.toArray) :
    (∃ (v : Option Value) (vm₁ : Vm) (B : Pt), s.WarmedH vm₁ ∧ Stand p l e R s m args below meth c B.U B.locs B.cells B.slots ∧ Post ⟨T.setVm vm₁, locs, cells, slots⟩ argsL.toArray v B ∧
      ∀ target, Steps p.tables e below (B.U.setTop { g with pc := g.pc + 3, stack := v.toList ++ rest }) target → Steps p.tables e below (T.setTop g) target) ∨
    (∃ (q : Addr) (vm₁ : Vm) (B : Pt), s.WarmedH vm₁ ∧ Stand p l e R s m args below meth c B.U B.locs B.cells B.slots ∧ PostX ⟨T.setVm vm₁, locs, cells, slots⟩ argsL.toArray q B ∧
      Steps p.tables e below (T.setTop g) ((B.U.setTop { g with stack := rest }).pushFrame (.throwing q))) := by
  obtain ⟨mk, methM, cM, hnamed, hmethM, -, -, -, -, -, -, hsigM⟩ := Cond.codeWith_spec hcode
  have hstatic : methM.isStatic = true := Cond.static_spec hnamed hmethM hstat
  obtain ⟨kP, hkP, -⟩ := className_of_methodNamed hnamed
  have hinitP : kP.init = .initialized := Cond.initialized_spec (findClass_of_methodNamed hnamed) hkP hinit
  obtain ⟨vm₁, X₁, hstep₁⟩ := X.invokestatic hexec hown hlink hnamed hmethM hstatic hkP hinitP hy (g := g) hg (argsL := argsL) (rest := rest) (hlen _ hsigM) hstack hdg
  rcases hK m meth c ⟨T.setVm vm₁, locs, cells, slots⟩ { g with stack := rest } (.invokestatic index) mk argsL.toArray X₁ hg hsize hdg hW (X₁.named hnamed) (hpre vm₁ X₁.warmed) with ⟨v, B, X', hpost, hsteps⟩ | ⟨q, B, X', hpost, hsteps⟩
  · exact Or.inl ⟨v, vm₁, B, X₁.warmed, X', hpost, fun target h => hstep₁ _ fun acts => by rw [doInvoke_state]; exact hsteps.trans h⟩
  · exact Or.inr ⟨q, vm₁, B, X₁.warmed, X', hpost, hstep₁ _ fun acts => by rw [doInvoke_state]; exact hsteps⟩
theorem vx_callVW (X : Stand p l e R s m args below meth c T locs cells slots) (hexec : p.tables.exec = Jvm.exec) {own C : String} {index : Nat} {y : MethodName} {bytes : ByteArray} {maxL : Nat} {ret : Option FieldType} {hh : List (Nat × Nat × Nat × Nat)}
    (hown : s.vm.findClass own = some m.cls) (hlink : (Cond.methodLink own index y).before args s = true) (hinst : (Cond.instanceMethod y).before args s = true) (hsel : (Cond.selects C y y).before args s = true)
    (hcode : (Cond.codeWith y bytes maxL ret hh).before args s = true) (hy : y.cls ≠ "java/lang/invoke/MethodHandle" ∧ y.cls ≠ "java/lang/invoke/VarHandle")
    {W9 : Nat} {Pre : Pt → Array Value → Prop} {Post : Pt → Array Value → Option Value → Pt → Prop} (hK : Back l R p e below s args y 3 W9 Pre Post)
    {b : Addr} {cellB : Cell} (hcell : T.heap[b]? = some cellB) (hobj : cellB.vm.isStatics = false) (hcls : s.vm.findClass C = some cellB.cls)
    {g : JFrame} (hg : g.method = m) (hsize : g.locals.size = c.maxLocals) {argsL rest : List Value} (hlen : ∀ sig, parseMethodDescriptor y.desc = some sig → argsL.length = sig.parameters.length)
    (hstack : g.stack = argsL.reverse ++ .ref b :: rest) (hW : 2 * g.monitorRoom + (rest.map fun v => v.category).sum ≤ W9) (hdg : decode c.code g.pc = .ok (.invokevirtual index, 3))
    (hpre : ∀ vm₁, s.WarmedH vm₁ → Pre ⟨T.setVm vm₁, locs, cells, slots⟩ (Value.ref b :: argsL).toArray) :
    ∃ (v : Option Value) (vm₁ : Vm) (B : Pt), s.WarmedH vm₁ ∧ Stand p l e R s m args below meth c B.U B.locs B.cells B.slots ∧ Post ⟨T.setVm vm₁, locs, cells, slots⟩ (Value.ref b :: argsL).toArray v B ∧
      ∀ target, Steps p.tables e below (B.U.setTop { g with pc := g.pc + 3, stack := v.toList ++ rest }) target → Steps p.tables e below (T.setTop g) target := by
  obtain ⟨mk, methM, hnamed, hmethM, hstM, habM⟩ := Cond.instanceMethod_spec hinst
  obtain ⟨m8, methM', cM, hn8, hmethM', -, -, -, -, -, -, hsigM⟩ := Cond.codeWith_spec hcode
  cases Option.some.inj (hn8.symm.trans hnamed)
  cases hmethM.symm.trans hmethM'
  obtain ⟨c2, r2, m2, q1, q2, q3, q4, kP, hkP, hkPi⟩ := Cond.selects_spec hsel
  cases hcls.symm.trans q1
  cases (State.methodFound?_of_named hnamed hy).symm.trans q2
  cases hnamed.symm.trans q3
  have hselP : selectMethod e.platform s.vm cellB.cls mk = .method mk := by rw [Launch.admits_selectMethod X.admits]; exact q4
  obtain ⟨vm₁, X₁, hstep₁⟩ := X.invokevirtual hexec hown hlink hnamed hmethM hstM hkP hkPi hy (a := b) (cell := cellB) hcell
    (fun z h => by rw [h] at hobj; cases hobj) hselP hmethM habM hkP hkPi (g := g) hg (argsL := argsL) (rest := rest) (hlen _ hsigM) hstack hdg
  obtain ⟨v, B, X', hpost, hsteps⟩ := hK m meth c ⟨T.setVm vm₁, locs, cells, slots⟩ { g with stack := rest } (.invokevirtual index) mk (Value.ref b :: argsL).toArray X₁ hg hsize hdg hW (X₁.named hnamed) (hpre vm₁ X₁.warmed)
  exact ⟨v, vm₁, B, X₁.warmed, X', hpost, fun target h => hstep₁ _ fun acts => by rw [doInvoke_state]; exact hsteps.trans h⟩
abbrev vx_CVW (R : Room) (s : State) (args : Array Value) (own C : String) (index : Nat) (y : MethodName) (bytes : ByteArray) (maxL : Nat) (ret : Option FieldType) (hh : List (Nat × Nat × Nat × Nat)) (ws : List Cond) (rm : Room) (mc ms n : Nat) : Prop :=
  (rm.cells = mc ∧ rm.slots = ms ∧ rm.frames + 1 ≤ R.frames ∧ 8 + (maxL + 11) + rm.locals ≤ R.locals ∧ (∀ w ∈ ws, ∀ (a' : Array Value) (U : State), s.WarmedH U.vm → w.before a' U = true) ∧ Cond.codeWith y bytes maxL ret hh ∈ ws) ∧
  (Cond.codeWith y bytes maxL ret hh).before args s = true ∧ (Cond.initialized y.cls).before args s = true ∧ (y.cls ≠ "java/lang/invoke/MethodHandle" ∧ y.cls ≠ "java/lang/invoke/VarHandle") ∧
  (∀ sig, parseMethodDescriptor y.desc = some sig → n = sig.parameters.length) ∧ (Cond.methodLink own index y).before args s = true ∧ (Cond.instanceMethod y).before args s = true ∧ (Cond.selects C y y).before args s = true
theorem vx_cwVW {own C : String} {index maxL mc ms : Nat} {y : MethodName} {bytes : ByteArray} {ret : Option FieldType} {hh : List (Nat × Nat × Nat × Nat)} {Ts ws ws' : List Cond} {rm : Room} (n : Nat) (ht : ∀ w ∈ Ts, w.before args s = true) (hT : GoodIn Ts (wsV own index C y ws)) (hw : ws = Cond.codeWith y bytes maxL ret hh :: ws') (hrc : rm.cells = mc) (hrs : rm.slots = ms)
    (hd : y.cls = C ∧ y.cls ≠ "java/lang/invoke/MethodHandle" ∧ y.cls ≠ "java/lang/invoke/VarHandle" ∧ (parseMethodDescriptor y.desc).map (fun d => d.parameters.length) = some n) (hR : rm.frames + 1 ≤ R.frames ∧ 8 + (maxL + 11) + rm.locals ≤ R.locals) :
    vx_CVW R s args own C index y bytes maxL ret hh ws rm mc ms n := by
  obtain ⟨hC, hd⟩ := hd
  subst hC
  have ok : ∀ w ∈ wsV own index y.cls y ws, w.before args s = true := fun w h => ht w (hT w h).1
  have hG : GoodIn Ts ws := fun w h => hT w (by unfold wsV; exact List.mem_append_right _ h)
  have hc : Cond.codeWith y bytes maxL ret hh ∈ ws := by rw [hw]; exact List.mem_cons_self
  refine ⟨⟨hrc, hrs, hR.1, hR.2, pay_in ht hG, hc⟩, ht _ (hG _ hc).1, ok _ (by simp [wsV]), ⟨hd.1, hd.2.1⟩, fun sig h => ?_, ok _ (by simp [wsV]), ok _ (by simp [wsV]), ok _ (by simp [wsV])⟩
  have h2 := hd.2.2
  rw [h] at h2
  exact (Option.some.inj h2).symm
theorem vx_runVW {y : MethodName} {bytes cc : ByteArray} {maxL nL mc ms n index : Nat} {ret : Option FieldType} {hh : List (Nat × Nat × Nat × Nat)} {ws : List Cond} {rm : Room} {Pc : Array Value → State → Prop} {Qc : Array Value → State → Outcome → State → Prop} {free : Addr → Prop} {Ts : List Cond} {own C : String} {b : Addr} {As rest : List Value} {g : JFrame}
    (S : CallFix p m c cc nL s args Ts own) (hM : Met l y ws rm Pc Qc mc ms free) (cw : vx_CVW R s args own C index y bytes maxL ret hh ws rm mc ms n) (hp : PreV s H C b Pc As)
    (hg : g.method = m) (hn : As.length = n) (hsize : g.locals.size = nL) (hstack : g.stack = As.reverse ++ .ref b :: rest) (hW : 2 * g.monitorRoom + (rest.map fun v => v.category).sum ≤ 8) (hdg : decode cc g.pc = .ok (.invokevirtual index, 3)) (hf : cells + mc ≤ R.cells ∧ slots + ms ≤ R.slots) :
    va_Run p l e R s m args below meth c H locs cells slots mc ms g rest (Qc (Value.ref b :: As).toArray) free := by
  obtain ⟨⟨hrc, hrs, hfr, hlo, hws, hcw⟩, hcode, hini, hy, hlen, hl, hin, hse⟩ := cw
  have hK : Back l R p e below s args y 3 8 (PreOf R mc ms Pc) (PostOf Qc mc ms free) := va_backW (hh := hh) (bytes := bytes) (maxL := maxL) (ret := ret) hM hp.1 hrc hrs hfr hlo hws hcw (fun a' U hW => word_at hW (Or.inl (by first | rfl | simp [Cond.onTables, Cond.keeps, Cond.steady])) hini)
  obtain ⟨hx, hb, hml, ho, -⟩ := S
  obtain ⟨-, ⟨cellB, hcB, hoB, hclB⟩, hPc⟩ := hp
  intro T hT X
  obtain ⟨v, vm₁, ⟨U', l2, c2, s2⟩, hW₁, X', ⟨g', mk, t, L, e1, e2, hq, h1, hL, h2, h3⟩, st⟩ := vx_callVW X hx (C := C) (hh := hh) (bytes := bytes) (maxL := maxL) (ret := ret) ho hl hin hse hcode hy hK (by rw [hT]; exact hcB) hoB hclB hg (hsize.trans hml.symm) (argsL := As) (rest := rest) (fun sig h => hn.trans (hlen sig h)) hstack hW (by rw [hb]; exact hdg)
    (fun vm₁ hW₁ => ⟨hf.1, hf.2, hPc (T.setVm vm₁) hT hW₁⟩)
  dsimp only [Pt.U, Pt.locs, Pt.cells, Pt.slots] at X' e1 e2 h1 h2 h3 st
  subst h1; subst h2; subst h3
  exact ⟨v, (T.setVm vm₁).calling g' mk (Value.ref b :: As).toArray, t, U', L, hT, X', hL, e1, e2, hq, st⟩
section
variable {y : MethodName} {bytes cc : ByteArray} {maxL nL mc ms n index : Nat} {ret : Option FieldType} {ws : List Cond} {rm : Room} {Pc : Array Value → State → Prop} {Qc : Array Value → State → Outcome → State → Prop} {XC : String → State → State → Prop} {free : Addr → Prop} {Ts : List Cond} {own C : String} {b : Addr} {As rest : List Value} {g : JFrame}
theorem vx_runVX {hh : List (Nat × Nat × Nat × Nat)} (S : CallFix p m c cc nL s args Ts own) (hM : vx_Met l y ws rm Pc Qc XC mc ms free) (cw : vx_CVW R s args own C index y bytes maxL ret hh ws rm mc ms n) (hp : PreV s H C b Pc As)
    (hg : g.method = m) (hn : As.length = n) (hsize : g.locals.size = nL) (hstack : g.stack = As.reverse ++ .ref b :: rest) (hW : 2 * g.monitorRoom + (rest.map fun v => v.category).sum ≤ 8) (hdg : decode cc g.pc = .ok (.invokevirtual index, 3)) (hf : cells + mc ≤ R.cells ∧ slots + ms ≤ R.slots) :
    vx_Run p l e R s m args below meth c H locs cells slots mc ms g rest (Qc (Value.ref b :: As).toArray) XC free := by
  obtain ⟨⟨hrc, hrs, hfr, hlo, hws, hcw⟩, hcode, hini, hy, hlen, hl, hin, hse⟩ := cw
  have hK : vx_Back l R p e below s args y 3 8 (PreOf R mc ms Pc) (PostOf Qc mc ms free) (vx_Post XC mc ms free) := vx_backW (hh := hh) (bytes := bytes) (maxL := maxL) (ret := ret) hM hp.1 hrc hrs hfr hlo hws hcw (fun a' U hW => word_at hW (Or.inl (by first | rfl | simp [Cond.onTables, Cond.keeps, Cond.steady])) hini)
  obtain ⟨hx, hb, hml, ho, -⟩ := S
  obtain ⟨-, ⟨cellB, hcB, hoB, hclB⟩, hPc⟩ := hp
  intro T hT X
  rcases vx_callVX X hx (C := C) (hh := hh) (bytes := bytes) (maxL := maxL) (ret := ret) ho hl hin hse hcode hy hK (by rw [hT]; exact hcB) hoB hclB hg (hsize.trans hml.symm) (argsL := As) (rest := rest) (fun sig h => hn.trans (hlen sig h)) hstack hW (by rw [hb]; exact hdg)
    (fun vm₁ hW₁ => ⟨hf.1, hf.2, hPc (T.setVm vm₁) hT hW₁⟩) with ⟨v, vm₁, ⟨U', l2, c2, s2⟩, hW₁, X', ⟨g', mk, t, L, e1, e2, hq, h1, hL, h2, h3⟩, st⟩ | ⟨q, vm₁, ⟨U', l2, c2, s2⟩, hW₁, X', ⟨g', mk, t, L, E, ce, e1, e2, hq, hce, hcv, hcl, h1, hL, h2, h3⟩, st⟩
  · dsimp only [Pt.U, Pt.locs, Pt.cells, Pt.slots] at X' e1 e2 h1 h2 h3 st
    subst h1; subst h2; subst h3
    exact Or.inl ⟨v, (T.setVm vm₁).calling g' mk (Value.ref b :: As).toArray, t, U', L, hT, X', hL, e1, e2, hq, st⟩
  · dsimp only [Pt.U, Pt.locs, Pt.cells, Pt.slots] at X' e1 e2 h1 h2 h3 st hcl
    subst h1; subst h2; subst h3
    exact Or.inr ⟨q, (T.setVm vm₁).calling g' mk (Value.ref b :: As).toArray, t, U', L, E, ce, hT, X', hL, e1, e2, hq, hce, hcv, vx_cls hW₁ hcl, st⟩
theorem vx_runSX {hh : List (Nat × Nat × Nat × Nat)} (S : CallFix p m c cc nL s args Ts own) (hM : vx_Met l y ws rm Pc Qc XC mc ms free) (cw : vx_CSW R s args own index y bytes maxL ret hh ws rm mc ms n) (hp : PreS s H Pc As)
    (hg : g.method = m) (hn : As.length = n) (hsize : g.locals.size = nL) (hstack : g.stack = As.reverse ++ rest) (hW : 2 * g.monitorRoom + (rest.map fun v => v.category).sum ≤ 8) (hdg : decode cc g.pc = .ok (.invokestatic index, 3)) (hf : cells + mc ≤ R.cells ∧ slots + ms ≤ R.slots) :
    vx_Run p l e R s m args below meth c H locs cells slots mc ms g rest (Qc As.toArray) XC free := by
  obtain ⟨⟨hrc, hrs, hfr, hlo, hws, hcw⟩, hcode, hini, hy, hlen, hl, hstt⟩ := cw
  have hK : vx_Back l R p e below s args y 3 8 (PreOf R mc ms Pc) (PostOf Qc mc ms free) (vx_Post XC mc ms free) := vx_backW (hh := hh) (bytes := bytes) (maxL := maxL) (ret := ret) hM hp.1 hrc hrs hfr hlo hws hcw (fun a' U hW => word_at hW (Or.inl (by first | rfl | simp [Cond.onTables, Cond.keeps, Cond.steady])) hini)
  obtain ⟨hx, hb, hml, ho, -⟩ := S
  intro T hT X
  rcases vx_callSX X hx (hh := hh) (bytes := bytes) (maxL := maxL) (ret := ret) ho hl hstt hini hcode hy hK hg (hsize.trans hml.symm) (argsL := As) (rest := rest) (fun sig h => hn.trans (hlen sig h)) hstack hW (by rw [hb]; exact hdg)
    (fun vm₁ hW₁ => ⟨hf.1, hf.2, hp.2 (T.setVm vm₁) hT hW₁⟩) with ⟨v, vm₁, ⟨U', l2, c2, s2⟩, hW₁, X', ⟨g', mk, t, L, e1, e2, hq, h1, hL, h2, h3⟩, st⟩ | ⟨q, vm₁, ⟨U', l2, c2, s2⟩, hW₁, X', ⟨g', mk, t, L, E, ce, e1, e2, hq, hce, hcv, hcl, h1, hL, h2, h3⟩, st⟩
  · dsimp only [Pt.U, Pt.locs, Pt.cells, Pt.slots] at X' e1 e2 h1 h2 h3 st
    subst h1; subst h2; subst h3
    exact Or.inl ⟨v, (T.setVm vm₁).calling g' mk As.toArray, t, U', L, hT, X', hL, e1, e2, hq, st⟩
  · dsimp only [Pt.U, Pt.locs, Pt.cells, Pt.slots] at X' e1 e2 h1 h2 h3 st hcl
    subst h1; subst h2; subst h3
    exact Or.inr ⟨q, (T.setVm vm₁).calling g' mk As.toArray, t, U', L, E, ce, hT, X', hL, e1, e2, hq, hce, hcv, vx_cls hW₁ hcl, st⟩
end
end VXH
theorem vx_ofWH {l : Launch} {y : MethodName} {ws ws' : List Cond} {rm : Room} {Pc : Array Value → State → Prop} {Qc : Array Value → State → Outcome → State → Prop} {XC : String → State → State → Prop} {mc ms : Nat} {free : Addr → Prop} {cc : ByteArray} {maxL : Nat} {ret : Option FieldType} {hh : List (Nat × Nat × Nat × Nat)}
    (hy : plainName y.cls = true) (hw : ws = Cond.codeWith y cc maxL ret hh :: ws')
    (body : ∀ p e s m args below meth c s₁, BodyLoose p l y (headSpec ws rm) cc maxL ret e s m args below meth c s₁ → c.maxLocals = maxL → Pc args s →
      W p l e (headSpec ws rm).room s m args below meth c s.heap [] 0 0 (vx_MQ below Qc XC args s mc ms free) (entryFrame m args maxL)) : vx_Met l y ws rm Pc Qc XC mc ms free := by
  refine MetFree.of_bodyS (code := cc) (maxLocals := maxL) (ret := ret) hy ?_ ?_
  · intro args s m h hn
    obtain ⟨m9, meth, c, hn9, h1, h2, h3, h4, -, h5, h6, -⟩ := Cond.codeWith_spec (atoms_spec (ws := ws) h _ (by rw [hw]; exact List.mem_cons_self))
    cases hn.symm.trans hn9
    exact ⟨meth, c, h1, h2, h3, h4, h5, h6⟩
  · intro p e s m args below meth c s₁ B hml hP _
    have hh0 : s₁.heap = s.heap := by rw [B.state]; rfl
    obtain ⟨t, a1, o, b1, b2, b3⟩ := body p e s m args below meth c s₁ B hml hP s₁ hh0 (Stand.of_body B)
    exact ⟨t, o, a1, b1, b2, b3⟩
/-! ===== END ===== -/
end
section
/-! ===== BEGIN printed: names, fields, word lists, decode rows ===== -/
def RX0 : String := "Spotbeat$Body"
def TX0 : u_T := fun k => match k with
  | 0 => ("Spotbeat$Body", "number", "I", true)
  | 1 => ("Spotbeat$Body", "variant", "I", true)
  | 2 => ("Spotbeat$Body", "makers", "[I", true)
  | 3 => ("Spotbeat$Body", "where", "I", false)
  | _ => ("Spotbeat$Body", "measure", "I", false)
def tyX0 : Nat → FieldType := fun k => match k with
  | 0 => .int
  | 1 => .int
  | 2 => .array .int
  | 3 => .int
  | _ => .int
abbrev wsX00 : List Cond := u_ws RX0 TX0 5
theorem nmX0 : ∀ a, a < 5 → ∀ b, b < 5 → a ≠ b → (TX0 a).2.1 ≠ (TX0 b).2.1 := by decide +kernel
theorem tyX0_ok : ∀ k, k < 5 → parseFieldDescriptor (TX0 k).2.2.1 = some (tyX0 k) := by decide +kernel
abbrev cX0_init : ByteArray := prog_2_method_1_code
def yX0_init : MethodName := ⟨RX0, "<init>", "(II)V"⟩
abbrev cX0_makerOf : ByteArray := prog_2_method_2_code
def yX0_makerOf : MethodName := ⟨RX0, "makerOf", "(LSpotbeat$Spot;)I"⟩
abbrev cX0_setMaker : ByteArray := prog_2_method_3_code
def yX0_setMaker : MethodName := ⟨RX0, "setMaker", "(LSpotbeat$Spot;I)V"⟩
abbrev cX0_isWithout : ByteArray := prog_2_method_4_code
def yX0_isWithout : MethodName := ⟨RX0, "isWithout", "(LSpotbeat$Spot;)Z"⟩
def RX1 : String := "Spotbeat$Paces"
def TX1 : u_T := fun k => match k with
  | 0 => ("Spotbeat$Paces", "tracks", "[LSpotbeat$Track;", true)
  | 1 => ("Spotbeat$Paces", "seen", "[Z", true)
  | 2 => ("Spotbeat$Paces", "last", "I", false)
  | 3 => ("Spotbeat$Paces", "reached", "I", false)
  | 4 => ("Spotbeat$Paces", "canMeet", "Z", false)
  | _ => ("Spotbeat$Paces", "canStick", "Z", false)
def tyX1 : Nat → FieldType := fun k => match k with
  | 0 => .array (.object "Spotbeat$Track")
  | 1 => .array .boolean
  | 2 => .int
  | 3 => .int
  | 4 => .boolean
  | _ => .boolean
abbrev wsX10 : List Cond := u_ws RX1 TX1 6
theorem nmX1 : ∀ a, a < 6 → ∀ b, b < 6 → a ≠ b → (TX1 a).2.1 ≠ (TX1 b).2.1 := by decide +kernel
theorem tyX1_ok : ∀ k, k < 6 → parseFieldDescriptor (TX1 k).2.2.1 = some (tyX1 k) := by decide +kernel
abbrev cX1_init : ByteArray := prog_3_method_1_code
def yX1_init : MethodName := ⟨RX1, "<init>", "()V"⟩
abbrev cX1_lay : ByteArray := prog_3_method_2_code
def yX1_lay : MethodName := ⟨RX1, "lay", "(LSpotbeat$Station;I)V"⟩
abbrev cX1_explore : ByteArray := prog_3_method_3_code
def yX1_explore : MethodName := ⟨RX1, "explore", "()V"⟩
abbrev cX1_visit : ByteArray := prog_3_method_4_code
def yX1_visit : MethodName := ⟨RX1, "visit", "(I)V"⟩
abbrev cX1_place : ByteArray := prog_3_method_5_code
def yX1_place : MethodName := ⟨RX1, "place", "(I)V"⟩
abbrev cX1_isMeeting : ByteArray := prog_3_method_6_code
def yX1_isMeeting : MethodName := ⟨RX1, "isMeeting", "()Z"⟩
abbrev cX1_hasStepsLeft : ByteArray := prog_3_method_7_code
def yX1_hasStepsLeft : MethodName := ⟨RX1, "hasStepsLeft", "()Z"⟩
abbrev cX1_markNext : ByteArray := prog_3_method_8_code
def yX1_markNext : MethodName := ⟨RX1, "markNext", "(I)I"⟩
abbrev cX1_canStep : ByteArray := prog_3_method_9_code
def yX1_canStep : MethodName := ⟨RX1, "canStep", "(LSpotbeat$Track;)Z"⟩
abbrev cX1_mark : ByteArray := prog_3_method_10_code
def yX1_mark : MethodName := ⟨RX1, "mark", "(I)V"⟩
abbrev cX1_leavesZone : ByteArray := prog_3_method_11_code
def yX1_leavesZone : MethodName := ⟨RX1, "leavesZone", "()Z"⟩
def RX2 : String := "Spotbeat$Program"
def TX2 : u_T := fun k => match k with
  | 0 => ("Spotbeat$Program", "base", "I", true)
  | 1 => ("Spotbeat$Program", "kinds", "[C", true)
  | 2 => ("Spotbeat$Program", "numbers", "[I", true)
  | _ => ("Spotbeat$Program", "length", "I", false)
def tyX2 : Nat → FieldType := fun k => match k with
  | 0 => .int
  | 1 => .array .char
  | 2 => .array .int
  | _ => .int
abbrev wsX20 : List Cond := u_ws RX2 TX2 4
theorem nmX2 : ∀ a, a < 4 → ∀ b, b < 4 → a ≠ b → (TX2 a).2.1 ≠ (TX2 b).2.1 := by decide +kernel
theorem tyX2_ok : ∀ k, k < 4 → parseFieldDescriptor (TX2 k).2.2.1 = some (tyX2 k) := by decide +kernel
abbrev cX2_init : ByteArray := prog_4_method_1_code
def yX2_init : MethodName := ⟨RX2, "<init>", "(I)V"⟩
abbrev cX2_add : ByteArray := prog_4_method_2_code
def yX2_add : MethodName := ⟨RX2, "add", "(CI)V"⟩
abbrev cX2_kindAt : ByteArray := prog_4_method_3_code
def yX2_kindAt : MethodName := ⟨RX2, "kindAt", "(I)C"⟩
abbrev cX2_numberAt : ByteArray := prog_4_method_4_code
def yX2_numberAt : MethodName := ⟨RX2, "numberAt", "(I)I"⟩
abbrev cX2_placeAhead : ByteArray := prog_4_method_5_code
def yX2_placeAhead : MethodName := ⟨RX2, "placeAhead", "(I)I"⟩
def RX3 : String := "Spotbeat$Robot"
def TX3 : u_T := fun k => match k with
  | 0 => ("Spotbeat$Robot", "number", "I", true)
  | 1 => ("Spotbeat$Robot", "station", "I", true)
  | 2 => ("Spotbeat$Robot", "base", "I", true)
  | 3 => ("Spotbeat$Robot", "reach", "I", true)
  | 4 => ("Spotbeat$Robot", "programs", "[LSpotbeat$Program;", true)
  | 5 => ("Spotbeat$Robot", "current", "I", false)
  | 6 => ("Spotbeat$Robot", "worn", "I", false)
  | 7 => ("Spotbeat$Robot", "dressed", "I", false)
  | 8 => ("Spotbeat$Robot", "goodWelds", "I", false)
  | 9 => ("Spotbeat$Robot", "substitute", "I", false)
  | _ => ("Spotbeat$Robot", "dead", "Z", false)
def tyX3 : Nat → FieldType := fun k => match k with
  | 0 => .int
  | 1 => .int
  | 2 => .int
  | 3 => .int
  | 4 => .array (.object "Spotbeat$Program")
  | 5 => .int
  | 6 => .int
  | 7 => .int
  | 8 => .int
  | 9 => .int
  | _ => .boolean
abbrev wsX30 : List Cond := u_ws RX3 TX3 11
theorem nmX3 : ∀ a, a < 11 → ∀ b, b < 11 → a ≠ b → (TX3 a).2.1 ≠ (TX3 b).2.1 := by decide +kernel
theorem tyX3_ok : ∀ k, k < 11 → parseFieldDescriptor (TX3 k).2.2.1 = some (tyX3 k) := by decide +kernel
abbrev cX3_init : ByteArray := prog_5_method_1_code
def yX3_init : MethodName := ⟨RX3, "<init>", "(IIII)V"⟩
abbrev cX3_programFor : ByteArray := prog_5_method_2_code
def yX3_programFor : MethodName := ⟨RX3, "programFor", "(I)LSpotbeat$Program;"⟩
abbrev cX3_canReach : ByteArray := prog_5_method_3_code
def yX3_canReach : MethodName := ⟨RX3, "canReach", "(I)Z"⟩
abbrev cX3_strength : ByteArray := prog_5_method_4_code
def yX3_strength : MethodName := ⟨RX3, "strength", "()I"⟩
def RX4 : String := "Spotbeat$Spot"
def TX4 : u_T := fun k => match k with
  | 0 => ("Spotbeat$Spot", "number", "I", true)
  | 1 => ("Spotbeat$Spot", "child", "I", true)
  | 2 => ("Spotbeat$Spot", "place", "I", true)
  | 3 => ("Spotbeat$Spot", "variants", "I", true)
  | 4 => ("Spotbeat$Spot", "need", "I", true)
  | _ => ("Spotbeat$Spot", "holds", "Z", true)
def tyX4 : Nat → FieldType := fun k => match k with
  | 0 => .int
  | 1 => .int
  | 2 => .int
  | 3 => .int
  | 4 => .int
  | _ => .boolean
abbrev wsX40 : List Cond := u_ws RX4 TX4 6
theorem nmX4 : ∀ a, a < 6 → ∀ b, b < 6 → a ≠ b → (TX4 a).2.1 ≠ (TX4 b).2.1 := by decide +kernel
theorem tyX4_ok : ∀ k, k < 6 → parseFieldDescriptor (TX4 k).2.2.1 = some (tyX4 k) := by decide +kernel
abbrev cX4_init : ByteArray := prog_6_method_1_code
def yX4_init : MethodName := ⟨RX4, "<init>", "(IIIIIZ)V"⟩
abbrev cX4_isOf : ByteArray := prog_6_method_2_code
def yX4_isOf : MethodName := ⟨RX4, "isOf", "(I)Z"⟩
def RX5 : String := "Spotbeat$Station"
def TX5 : u_T := fun k => match k with
  | 0 => ("Spotbeat$Station", "number", "I", true)
  | 1 => ("Spotbeat$Station", "firstBeat", "I", true)
  | 2 => ("Spotbeat$Station", "crew", "[LSpotbeat$Robot;", true)
  | 3 => ("Spotbeat$Station", "crewSize", "I", false)
  | 4 => ("Spotbeat$Station", "body", "LSpotbeat$Body;", false)
  | 5 => ("Spotbeat$Station", "worked", "Z", false)
  | 6 => ("Spotbeat$Station", "stands", "Z", false)
  | 7 => ("Spotbeat$Station", "offset", "I", false)
  | 8 => ("Spotbeat$Station", "stood", "I", false)
  | 9 => ("Spotbeat$Station", "wasEmpty", "I", false)
  | 10 => ("Spotbeat$Station", "wasBlocked", "I", false)
  | _ => ("Spotbeat$Station", "went", "I", false)
def tyX5 : Nat → FieldType := fun k => match k with
  | 0 => .int
  | 1 => .int
  | 2 => .array (.object "Spotbeat$Robot")
  | 3 => .int
  | 4 => .object "Spotbeat$Body"
  | 5 => .boolean
  | 6 => .boolean
  | 7 => .int
  | 8 => .int
  | 9 => .int
  | 10 => .int
  | _ => .int
abbrev wsX50 : List Cond := u_ws RX5 TX5 12
theorem nmX5 : ∀ a, a < 12 → ∀ b, b < 12 → a ≠ b → (TX5 a).2.1 ≠ (TX5 b).2.1 := by decide +kernel
theorem tyX5_ok : ∀ k, k < 12 → parseFieldDescriptor (TX5 k).2.2.1 = some (tyX5 k) := by decide +kernel
abbrev cX5_init : ByteArray := prog_7_method_1_code
def yX5_init : MethodName := ⟨RX5, "<init>", "(II)V"⟩
abbrev cX5_isFull : ByteArray := prog_7_method_2_code
def yX5_isFull : MethodName := ⟨RX5, "isFull", "()Z"⟩
abbrev cX5_add : ByteArray := prog_7_method_3_code
def yX5_add : MethodName := ⟨RX5, "add", "(LSpotbeat$Robot;)V"⟩
abbrev cX5_hasBaseAt : ByteArray := prog_7_method_4_code
def yX5_hasBaseAt : MethodName := ⟨RX5, "hasBaseAt", "(I)Z"⟩
abbrev cX5_take : ByteArray := prog_7_method_5_code
def yX5_take : MethodName := ⟨RX5, "take", "(LSpotbeat$Body;)V"⟩
abbrev cX5_letterSum : ByteArray := prog_7_method_6_code
def yX5_letterSum : MethodName := ⟨RX5, "letterSum", "()I"⟩
def RX6 : String := "Spotbeat$Track"
def TX6 : u_T := fun k => match k with
  | 0 => ("Spotbeat$Track", "zones", "[I", true)
  | 1 => ("Spotbeat$Track", "claims", "[I", true)
  | 2 => ("Spotbeat$Track", "lowCells", "[J", true)
  | 3 => ("Spotbeat$Track", "highCells", "[J", true)
  | 4 => ("Spotbeat$Track", "length", "I", false)
  | _ => ("Spotbeat$Track", "pace", "I", false)
def tyX6 : Nat → FieldType := fun k => match k with
  | 0 => .array .int
  | 1 => .array .int
  | 2 => .array .long
  | 3 => .array .long
  | 4 => .int
  | _ => .int
abbrev wsX60 : List Cond := u_ws RX6 TX6 6
theorem nmX6 : ∀ a, a < 6 → ∀ b, b < 6 → a ≠ b → (TX6 a).2.1 ≠ (TX6 b).2.1 := by decide +kernel
theorem tyX6_ok : ∀ k, k < 6 → parseFieldDescriptor (TX6 k).2.2.1 = some (tyX6 k) := by decide +kernel
abbrev cX6_init : ByteArray := prog_8_method_1_code
def yX6_init : MethodName := ⟨RX6, "<init>", "()V"⟩
abbrev cX6_layNothing : ByteArray := prog_8_method_2_code
def yX6_layNothing : MethodName := ⟨RX6, "layNothing", "()V"⟩
abbrev cX6_lay : ByteArray := prog_8_method_3_code
def yX6_lay : MethodName := ⟨RX6, "lay", "(LSpotbeat$Program;)V"⟩
abbrev cX6_layCells : ByteArray := prog_8_method_4_code
def yX6_layCells : MethodName := ⟨RX6, "layCells", "(III)V"⟩
abbrev cX6_layCell : ByteArray := prog_8_method_5_code
def yX6_layCell : MethodName := ⟨RX6, "layCell", "(III)V"⟩
abbrev cX6_isEnded : ByteArray := prog_8_method_6_code
def yX6_isEnded : MethodName := ⟨RX6, "isEnded", "()Z"⟩
abbrev cX6_zonesHeld : ByteArray := prog_8_method_7_code
def yX6_zonesHeld : MethodName := ⟨RX6, "zonesHeld", "()I"⟩
abbrev cX6_zoneClaimed : ByteArray := prog_8_method_8_code
def yX6_zoneClaimed : MethodName := ⟨RX6, "zoneClaimed", "()I"⟩
abbrev cX6_zonesAtEnd : ByteArray := prog_8_method_9_code
def yX6_zonesAtEnd : MethodName := ⟨RX6, "zonesAtEnd", "()I"⟩
abbrev cX6_meets : ByteArray := prog_8_method_10_code
def yX6_meets : MethodName := ⟨RX6, "meets", "(LSpotbeat$Track;)Z"⟩
abbrev cX6_lowHeld : ByteArray := prog_8_method_11_code
def yX6_lowHeld : MethodName := ⟨RX6, "lowHeld", "()J"⟩
abbrev cX6_highHeld : ByteArray := prog_8_method_12_code
def yX6_highHeld : MethodName := ⟨RX6, "highHeld", "()J"⟩
def RX7 : String := "Spotbeat"
def TX7 : u_T := fun k => match k with
  | 0 => ("Spotbeat", "parents", "[I", true)
  | 1 => ("Spotbeat", "spotRow", "[LSpotbeat$Spot;", true)
  | 2 => ("Spotbeat", "stationRow", "[LSpotbeat$Station;", true)
  | 3 => ("Spotbeat", "robotRow", "[LSpotbeat$Robot;", true)
  | 4 => ("Spotbeat", "bodyRow", "[LSpotbeat$Body;", true)
  | 5 => ("Spotbeat", "paces", "LSpotbeat$Paces;", true)
  | 6 => ("Spotbeat", "panelCount", "I", false)
  | 7 => ("Spotbeat", "spotCount", "I", false)
  | 8 => ("Spotbeat", "stationCount", "I", false)
  | 9 => ("Spotbeat", "robotCount", "I", false)
  | 10 => ("Spotbeat", "bodyCount", "I", false)
  | _ => ("Spotbeat", "beatCount", "I", false)
def tyX7 : Nat → FieldType := fun k => match k with
  | 0 => .array .int
  | 1 => .array (.object "Spotbeat$Spot")
  | 2 => .array (.object "Spotbeat$Station")
  | 3 => .array (.object "Spotbeat$Robot")
  | 4 => .array (.object "Spotbeat$Body")
  | 5 => .object "Spotbeat$Paces"
  | 6 => .int
  | 7 => .int
  | 8 => .int
  | 9 => .int
  | 10 => .int
  | _ => .int
abbrev wsX70 : List Cond := u_ws RX7 TX7 12
theorem nmX7 : ∀ a, a < 12 → ∀ b, b < 12 → a ≠ b → (TX7 a).2.1 ≠ (TX7 b).2.1 := by decide +kernel
theorem tyX7_ok : ∀ k, k < 12 → parseFieldDescriptor (TX7 k).2.2.1 = some (tyX7 k) := by decide +kernel
abbrev cX7_init : ByteArray := prog_1_method_1_code
def yX7_init : MethodName := ⟨RX7, "<init>", "()V"⟩
abbrev cX7_panel : ByteArray := prog_1_method_2_code
def yX7_panel : MethodName := ⟨RX7, "panel", "(I)I"⟩
abbrev cX7_spot : ByteArray := prog_1_method_3_code
def yX7_spot : MethodName := ⟨RX7, "spot", "(IIIIIZ)I"⟩
abbrev cX7_spots : ByteArray := prog_1_method_4_code
def yX7_spots : MethodName := ⟨RX7, "spots", "(I)I"⟩
abbrev cX7_isHeld : ByteArray := prog_1_method_5_code
def yX7_isHeld : MethodName := ⟨RX7, "isHeld", "(I)Z"⟩
abbrev cX7_isPanel : ByteArray := prog_1_method_6_code
def yX7_isPanel : MethodName := ⟨RX7, "isPanel", "(I)Z"⟩
abbrev cX7_childOf : ByteArray := prog_1_method_7_code
def yX7_childOf : MethodName := ⟨RX7, "childOf", "(II)I"⟩
abbrev cX7_isPanelHeld : ByteArray := prog_1_method_8_code
def yX7_isPanelHeld : MethodName := ⟨RX7, "isPanelHeld", "(II)Z"⟩
abbrev cX7_station : ByteArray := prog_1_method_9_code
def yX7_station : MethodName := ⟨RX7, "station", "()I"⟩
abbrev cX7_robot : ByteArray := prog_1_method_10_code
def yX7_robot : MethodName := ⟨RX7, "robot", "(III)I"⟩
abbrev cX7_reaches : ByteArray := prog_1_method_11_code
def yX7_reaches : MethodName := ⟨RX7, "reaches", "(II)Z"⟩
abbrev cX7_swept : ByteArray := prog_1_method_12_code
def yX7_swept : MethodName := ⟨RX7, "swept", "(II)I"⟩
abbrev cX7_current : ByteArray := prog_1_method_13_code
def yX7_current : MethodName := ⟨RX7, "current", "(II)I"⟩
abbrev cX7_isPlace : ByteArray := prog_1_method_14_code
def yX7_isPlace : MethodName := ⟨RX7, "isPlace", "(I)Z"⟩
abbrev cX7_requirePlace : ByteArray := prog_1_method_15_code
def yX7_requirePlace : MethodName := ⟨RX7, "requirePlace", "(I)V"⟩
abbrev cX7_xOf : ByteArray := prog_1_method_16_code
def yX7_xOf : MethodName := ⟨RX7, "xOf", "(I)I"⟩
abbrev cX7_yOf : ByteArray := prog_1_method_17_code
def yX7_yOf : MethodName := ⟨RX7, "yOf", "(I)I"⟩
abbrev cX7_distance : ByteArray := prog_1_method_18_code
def yX7_distance : MethodName := ⟨RX7, "distance", "(II)I"⟩
abbrev cX7_requireVariant : ByteArray := prog_1_method_19_code
def yX7_requireVariant : MethodName := ⟨RX7, "requireVariant", "(I)V"⟩
abbrev cX7_spotAt : ByteArray := prog_1_method_20_code
def yX7_spotAt : MethodName := ⟨RX7, "spotAt", "(I)LSpotbeat$Spot;"⟩
abbrev cX7_robotAt : ByteArray := prog_1_method_21_code
def yX7_robotAt : MethodName := ⟨RX7, "robotAt", "(I)LSpotbeat$Robot;"⟩
abbrev cX7_stationAt : ByteArray := prog_1_method_22_code
def yX7_stationAt : MethodName := ⟨RX7, "stationAt", "(I)LSpotbeat$Station;"⟩
abbrev cX7_bodyAt : ByteArray := prog_1_method_23_code
def yX7_bodyAt : MethodName := ⟨RX7, "bodyAt", "(I)LSpotbeat$Body;"⟩
abbrev cX7_requireSpot : ByteArray := prog_1_method_24_code
def yX7_requireSpot : MethodName := ⟨RX7, "requireSpot", "(I)LSpotbeat$Spot;"⟩
abbrev cX7_requireRobot : ByteArray := prog_1_method_25_code
def yX7_requireRobot : MethodName := ⟨RX7, "requireRobot", "(I)LSpotbeat$Robot;"⟩
abbrev cX7_requireStation : ByteArray := prog_1_method_26_code
def yX7_requireStation : MethodName := ⟨RX7, "requireStation", "(I)LSpotbeat$Station;"⟩
abbrev cX7_requireBody : ByteArray := prog_1_method_27_code
def yX7_requireBody : MethodName := ⟨RX7, "requireBody", "(I)LSpotbeat$Body;"⟩
abbrev cX7_step : ByteArray := prog_1_method_28_code
def yX7_step : MethodName := ⟨RX7, "step", "(IICI)I"⟩
abbrev cX7_erase : ByteArray := prog_1_method_29_code
def yX7_erase : MethodName := ⟨RX7, "erase", "(II)I"⟩
abbrev cX7_steps : ByteArray := prog_1_method_30_code
def yX7_steps : MethodName := ⟨RX7, "steps", "(II)I"⟩
abbrev cX7_welds : ByteArray := prog_1_method_31_code
def yX7_welds : MethodName := ⟨RX7, "welds", "(II)I"⟩
abbrev cX7_proof : ByteArray := prog_1_method_32_code
def yX7_proof : MethodName := ⟨RX7, "proof", "(II)C"⟩
abbrev cX7_states : ByteArray := prog_1_method_33_code
def yX7_states : MethodName := ⟨RX7, "states", "(II)I"⟩
abbrev cX7_uncovered : ByteArray := prog_1_method_34_code
def yX7_uncovered : MethodName := ⟨RX7, "uncovered", "(I)I"⟩
abbrev cX7_deal : ByteArray := prog_1_method_35_code
def yX7_deal : MethodName := ⟨RX7, "deal", "(I)I"⟩
abbrev cX7_requireProgram : ByteArray := prog_1_method_36_code
def yX7_requireProgram : MethodName := ⟨RX7, "requireProgram", "(II)LSpotbeat$Program;"⟩
abbrev cX7_isStep : ByteArray := prog_1_method_37_code
def yX7_isStep : MethodName := ⟨RX7, "isStep", "(CI)Z"⟩
abbrev cX7_fits : ByteArray := prog_1_method_38_code
def yX7_fits : MethodName := ⟨RX7, "fits", "(IICI)Z"⟩
abbrev cX7_spotWelded : ByteArray := prog_1_method_39_code
def yX7_spotWelded : MethodName := ⟨RX7, "spotWelded", "(LSpotbeat$Program;I)LSpotbeat$Spot;"⟩
abbrev cX7_explore : ByteArray := prog_1_method_40_code
def yX7_explore : MethodName := ⟨RX7, "explore", "(II)V"⟩
abbrev cX7_isUncovered : ByteArray := prog_1_method_41_code
def yX7_isUncovered : MethodName := ⟨RX7, "isUncovered", "(LSpotbeat$Spot;I)Z"⟩
abbrev cX7_hasWeld : ByteArray := prog_1_method_42_code
def yX7_hasWeld : MethodName := ⟨RX7, "hasWeld", "(LSpotbeat$Program;LSpotbeat$Spot;)Z"⟩
abbrev cX7_dealSpot : ByteArray := prog_1_method_43_code
def yX7_dealSpot : MethodName := ⟨RX7, "dealSpot", "(LSpotbeat$Spot;I)Z"⟩
abbrev cX7_canBeDealt : ByteArray := prog_1_method_44_code
def yX7_canBeDealt : MethodName := ⟨RX7, "canBeDealt", "(LSpotbeat$Robot;LSpotbeat$Spot;)Z"⟩
abbrev cX7_order : ByteArray := prog_1_method_45_code
def yX7_order : MethodName := ⟨RX7, "order", "(I)I"⟩
abbrev cX7_beat : ByteArray := prog_1_method_46_code
def yX7_beat : MethodName := ⟨RX7, "beat", "()I"⟩
abbrev cX7_beats : ByteArray := prog_1_method_47_code
def yX7_beats : MethodName := ⟨RX7, "beats", "()I"⟩
abbrev cX7_at : ByteArray := prog_1_method_48_code
def yX7_at : MethodName := ⟨RX7, "at", "(I)I"⟩
abbrev cX7_where : ByteArray := prog_1_method_49_code
def yX7_where : MethodName := ⟨RX7, "where", "(I)I"⟩
abbrev cX7_waiting : ByteArray := prog_1_method_50_code
def yX7_waiting : MethodName := ⟨RX7, "waiting", "()I"⟩
abbrev cX7_stand : ByteArray := prog_1_method_51_code
def yX7_stand : MethodName := ⟨RX7, "stand", "(IZ)Z"⟩
abbrev cX7_letters : ByteArray := prog_1_method_52_code
def yX7_letters : MethodName := ⟨RX7, "letters", "(IC)I"⟩
abbrev cX7_run : ByteArray := prog_1_method_53_code
def yX7_run : MethodName := ⟨RX7, "run", "(LSpotbeat$Station;)Z"⟩
abbrev cX7_bringWaiting : ByteArray := prog_1_method_54_code
def yX7_bringWaiting : MethodName := ⟨RX7, "bringWaiting", "()V"⟩
abbrev cX7_countAt : ByteArray := prog_1_method_55_code
def yX7_countAt : MethodName := ⟨RX7, "countAt", "(I)I"⟩
abbrev cX7_work : ByteArray := prog_1_method_56_code
def yX7_work : MethodName := ⟨RX7, "work", "(LSpotbeat$Station;LSpotbeat$Body;)V"⟩
abbrev cX7_welderFor : ByteArray := prog_1_method_57_code
def yX7_welderFor : MethodName := ⟨RX7, "welderFor", "(LSpotbeat$Robot;LSpotbeat$Spot;)LSpotbeat$Robot;"⟩
abbrev cX7_weld : ByteArray := prog_1_method_58_code
def yX7_weld : MethodName := ⟨RX7, "weld", "(LSpotbeat$Robot;LSpotbeat$Spot;LSpotbeat$Body;)V"⟩
abbrev cX7_lackingOf : ByteArray := prog_1_method_59_code
def yX7_lackingOf : MethodName := ⟨RX7, "lackingOf", "(LSpotbeat$Body;Z)I"⟩
abbrev cX7_lackingOf_ : ByteArray := prog_1_method_60_code
def yX7_lackingOf_ : MethodName := ⟨RX7, "lackingOf", "(LSpotbeat$Body;)I"⟩
abbrev cX7_measureOf : ByteArray := prog_1_method_61_code
def yX7_measureOf : MethodName := ⟨RX7, "measureOf", "(LSpotbeat$Body;)I"⟩
abbrev cX7_die : ByteArray := prog_1_method_62_code
def yX7_die : MethodName := ⟨RX7, "die", "(IZ)Z"⟩
abbrev cX7_standIn : ByteArray := prog_1_method_63_code
def yX7_standIn : MethodName := ⟨RX7, "standIn", "(II)I"⟩
abbrev cX7_wear : ByteArray := prog_1_method_64_code
def yX7_wear : MethodName := ⟨RX7, "wear", "(I)I"⟩
abbrev cX7_dress : ByteArray := prog_1_method_65_code
def yX7_dress : MethodName := ⟨RX7, "dress", "(I)I"⟩
abbrev cX7_change : ByteArray := prog_1_method_66_code
def yX7_change : MethodName := ⟨RX7, "change", "(I)I"⟩
abbrev cX7_made : ByteArray := prog_1_method_67_code
def yX7_made : MethodName := ⟨RX7, "made", "(I)I"⟩
abbrev cX7_lacks : ByteArray := prog_1_method_68_code
def yX7_lacks : MethodName := ⟨RX7, "lacks", "(I)I"⟩
abbrev cX7_isLacking : ByteArray := prog_1_method_69_code
def yX7_isLacking : MethodName := ⟨RX7, "isLacking", "(II)Z"⟩
abbrev cX7_firstLacking : ByteArray := prog_1_method_70_code
def yX7_firstLacking : MethodName := ⟨RX7, "firstLacking", "(I)I"⟩
abbrev cX7_mend : ByteArray := prog_1_method_71_code
def yX7_mend : MethodName := ⟨RX7, "mend", "(II)I"⟩
abbrev cX7_maker : ByteArray := prog_1_method_72_code
def yX7_maker : MethodName := ⟨RX7, "maker", "(II)I"⟩
abbrev cX7_whole : ByteArray := prog_1_method_73_code
def yX7_whole : MethodName := ⟨RX7, "whole", "()I"⟩
abbrev cX7_offset : ByteArray := prog_1_method_74_code
def yX7_offset : MethodName := ⟨RX7, "offset", "(II)I"⟩
abbrev cX7_measure : ByteArray := prog_1_method_75_code
def yX7_measure : MethodName := ⟨RX7, "measure", "(I)I"⟩
abbrev cX7_feedBack : ByteArray := prog_1_method_76_code
def yX7_feedBack : MethodName := ⟨RX7, "feedBack", "(II)I"⟩
abbrev cX7_meanOfLast : ByteArray := prog_1_method_77_code
def yX7_meanOfLast : MethodName := ⟨RX7, "meanOfLast", "(I)I"⟩
abbrev cX7_checksum : ByteArray := prog_1_method_78_code
def yX7_checksum : MethodName := ⟨RX7, "checksum", "()J"⟩
abbrev cX7_wholeShare : ByteArray := prog_1_method_79_code
def yX7_wholeShare : MethodName := ⟨RX7, "wholeShare", "()F"⟩
abbrev cX7_meanMeasure : ByteArray := prog_1_method_80_code
def yX7_meanMeasure : MethodName := ⟨RX7, "meanMeasure", "()D"⟩
abbrev cX7_isSound : ByteArray := prog_1_method_81_code
def yX7_isSound : MethodName := ⟨RX7, "isSound", "()Z"⟩
abbrev cX7_stationsAreSound : ByteArray := prog_1_method_82_code
def yX7_stationsAreSound : MethodName := ⟨RX7, "stationsAreSound", "()Z"⟩
abbrev cX7_orderIsSound : ByteArray := prog_1_method_83_code
def yX7_orderIsSound : MethodName := ⟨RX7, "orderIsSound", "()Z"⟩
abbrev cX7_isPlaced : ByteArray := prog_1_method_84_code
def yX7_isPlaced : MethodName := ⟨RX7, "isPlaced", "(LSpotbeat$Body;)Z"⟩
abbrev cX7_isBehind : ByteArray := prog_1_method_85_code
def yX7_isBehind : MethodName := ⟨RX7, "isBehind", "(LSpotbeat$Body;LSpotbeat$Body;)Z"⟩
abbrev cX7_makersAreSound : ByteArray := prog_1_method_86_code
def yX7_makersAreSound : MethodName := ⟨RX7, "makersAreSound", "()Z"⟩
abbrev cX7_isMakerSound : ByteArray := prog_1_method_87_code
def yX7_isMakerSound : MethodName := ⟨RX7, "isMakerSound", "(ILSpotbeat$Spot;)Z"⟩
def RX8 : String := "SpotbeatModel$Body"
def TX8 : u_T := fun k => match k with
  | 0 => ("SpotbeatModel$Body", "variant", "I", true)
  | 1 => ("SpotbeatModel$Body", "makers", "[I", true)
  | 2 => ("SpotbeatModel$Body", "where", "I", false)
  | _ => ("SpotbeatModel$Body", "measure", "I", false)
def tyX8 : Nat → FieldType := fun k => match k with
  | 0 => .int
  | 1 => .array .int
  | 2 => .int
  | _ => .int
abbrev wsX80 : List Cond := u_ws RX8 TX8 4
theorem nmX8 : ∀ a, a < 4 → ∀ b, b < 4 → a ≠ b → (TX8 a).2.1 ≠ (TX8 b).2.1 := by decide +kernel
theorem tyX8_ok : ∀ k, k < 4 → parseFieldDescriptor (TX8 k).2.2.1 = some (tyX8 k) := by decide +kernel
abbrev cX8_init : ByteArray := prog_11_method_1_code
def yX8_init : MethodName := ⟨RX8, "<init>", "(I)V"⟩
def RX9 : String := "SpotbeatModel$Robot"
def TX9 : u_T := fun k => match k with
  | 0 => ("SpotbeatModel$Robot", "station", "I", true)
  | 1 => ("SpotbeatModel$Robot", "base", "I", true)
  | 2 => ("SpotbeatModel$Robot", "reach", "I", true)
  | 3 => ("SpotbeatModel$Robot", "programs", "Ljava/util/List;", true)
  | 4 => ("SpotbeatModel$Robot", "current", "I", false)
  | 5 => ("SpotbeatModel$Robot", "wear", "I", false)
  | 6 => ("SpotbeatModel$Robot", "dressed", "I", false)
  | 7 => ("SpotbeatModel$Robot", "standIn", "I", false)
  | 8 => ("SpotbeatModel$Robot", "made", "I", false)
  | _ => ("SpotbeatModel$Robot", "isDead", "Z", false)
def tyX9 : Nat → FieldType := fun k => match k with
  | 0 => .int
  | 1 => .int
  | 2 => .int
  | 3 => .object "java/util/List"
  | 4 => .int
  | 5 => .int
  | 6 => .int
  | 7 => .int
  | 8 => .int
  | _ => .boolean
abbrev wsX90 : List Cond := u_ws RX9 TX9 10
theorem nmX9 : ∀ a, a < 10 → ∀ b, b < 10 → a ≠ b → (TX9 a).2.1 ≠ (TX9 b).2.1 := by decide +kernel
theorem tyX9_ok : ∀ k, k < 10 → parseFieldDescriptor (TX9 k).2.2.1 = some (tyX9 k) := by decide +kernel
abbrev cX9_init : ByteArray := prog_12_method_1_code
def yX9_init : MethodName := ⟨RX9, "<init>", "(III)V"⟩
abbrev cX9_reaches : ByteArray := prog_12_method_2_code
def yX9_reaches : MethodName := ⟨RX9, "reaches", "(I)Z"⟩
abbrev cX9_placeAt : ByteArray := prog_12_method_3_code
def yX9_placeAt : MethodName := ⟨RX9, "placeAt", "(II)I"⟩
abbrev cX9_zonesAt : ByteArray := prog_12_method_4_code
def yX9_zonesAt : MethodName := ⟨RX9, "zonesAt", "(II)I"⟩
def RX10 : String := "SpotbeatModel$Spot"
def TX10 : u_T := fun k => match k with
  | 0 => ("SpotbeatModel$Spot", "one", "I", true)
  | 1 => ("SpotbeatModel$Spot", "other", "I", true)
  | 2 => ("SpotbeatModel$Spot", "place", "I", true)
  | 3 => ("SpotbeatModel$Spot", "variants", "I", true)
  | 4 => ("SpotbeatModel$Spot", "need", "I", true)
  | _ => ("SpotbeatModel$Spot", "holds", "Z", true)
def tyX10 : Nat → FieldType := fun k => match k with
  | 0 => .int
  | 1 => .int
  | 2 => .int
  | 3 => .int
  | 4 => .int
  | _ => .boolean
abbrev wsX100 : List Cond := u_ws RX10 TX10 6
theorem nmX10 : ∀ a, a < 6 → ∀ b, b < 6 → a ≠ b → (TX10 a).2.1 ≠ (TX10 b).2.1 := by decide +kernel
theorem tyX10_ok : ∀ k, k < 6 → parseFieldDescriptor (TX10 k).2.2.1 = some (tyX10 k) := by decide +kernel
abbrev cX10_init : ByteArray := prog_13_method_1_code
def yX10_init : MethodName := ⟨RX10, "<init>", "(IIIIIZ)V"⟩
abbrev cX10_isOf : ByteArray := prog_13_method_2_code
def yX10_isOf : MethodName := ⟨RX10, "isOf", "(I)Z"⟩
def RX11 : String := "SpotbeatModel$Station"
def TX11 : u_T := fun k => match k with
  | 0 => ("SpotbeatModel$Station", "robots", "Ljava/util/List;", true)
  | 1 => ("SpotbeatModel$Station", "letters", "[I", true)
  | 2 => ("SpotbeatModel$Station", "body", "I", false)
  | 3 => ("SpotbeatModel$Station", "offset", "I", false)
  | 4 => ("SpotbeatModel$Station", "stands", "Z", false)
  | _ => ("SpotbeatModel$Station", "isWorked", "Z", false)
def tyX11 : Nat → FieldType := fun k => match k with
  | 0 => .object "java/util/List"
  | 1 => .array .int
  | 2 => .int
  | 3 => .int
  | 4 => .boolean
  | _ => .boolean
abbrev wsX110 : List Cond := u_ws RX11 TX11 6
theorem nmX11 : ∀ a, a < 6 → ∀ b, b < 6 → a ≠ b → (TX11 a).2.1 ≠ (TX11 b).2.1 := by decide +kernel
theorem tyX11_ok : ∀ k, k < 6 → parseFieldDescriptor (TX11 k).2.2.1 = some (tyX11 k) := by decide +kernel
abbrev cX11_init : ByteArray := prog_14_method_1_code
def yX11_init : MethodName := ⟨RX11, "<init>", "()V"⟩
def RX12 : String := "SpotbeatModel"
def TX12 : u_T := fun k => match k with
  | 0 => ("SpotbeatModel", "thrown", "I", false)
  | 1 => ("SpotbeatModel", "parents", "Ljava/util/List;", true)
  | 2 => ("SpotbeatModel", "spots", "Ljava/util/List;", true)
  | 3 => ("SpotbeatModel", "stations", "Ljava/util/List;", true)
  | 4 => ("SpotbeatModel", "robots", "Ljava/util/List;", true)
  | 5 => ("SpotbeatModel", "bodies", "Ljava/util/List;", true)
  | 6 => ("SpotbeatModel", "waits", "I", false)
  | _ => ("SpotbeatModel", "beats", "I", false)
def tyX12 : Nat → FieldType := fun k => match k with
  | 0 => .int
  | 1 => .object "java/util/List"
  | 2 => .object "java/util/List"
  | 3 => .object "java/util/List"
  | 4 => .object "java/util/List"
  | 5 => .object "java/util/List"
  | 6 => .int
  | _ => .int
abbrev wsX120 : List Cond := u_ws RX12 TX12 8
theorem nmX12 : ∀ a, a < 8 → ∀ b, b < 8 → a ≠ b → (TX12 a).2.1 ≠ (TX12 b).2.1 := by decide +kernel
theorem tyX12_ok : ∀ k, k < 8 → parseFieldDescriptor (TX12 k).2.2.1 = some (tyX12 k) := by decide +kernel
abbrev cX12_init : ByteArray := prog_10_method_1_code
def yX12_init : MethodName := ⟨RX12, "<init>", "()V"⟩
abbrev cX12_thrown : ByteArray := prog_10_method_2_code
def yX12_thrown : MethodName := ⟨RX12, "thrown", "()I"⟩
abbrev cX12_isWrong : ByteArray := prog_10_method_3_code
def yX12_isWrong : MethodName := ⟨RX12, "isWrong", "(I)Z"⟩
abbrev cX12_isBetween : ByteArray := prog_10_method_4_code
def yX12_isBetween : MethodName := ⟨RX12, "isBetween", "(III)Z"⟩
abbrev cX12_isOf : ByteArray := prog_10_method_5_code
def yX12_isOf : MethodName := ⟨RX12, "isOf", "(Ljava/util/List;I)Z"⟩
abbrev cX12_isPlace : ByteArray := prog_10_method_6_code
def yX12_isPlace : MethodName := ⟨RX12, "isPlace", "(I)Z"⟩
abbrev cX12_isVariant : ByteArray := prog_10_method_7_code
def yX12_isVariant : MethodName := ⟨RX12, "isVariant", "(I)Z"⟩
abbrev cX12_panel : ByteArray := prog_10_method_8_code
def yX12_panel : MethodName := ⟨RX12, "panel", "(I)I"⟩
abbrev cX12_spot : ByteArray := prog_10_method_9_code
def yX12_spot : MethodName := ⟨RX12, "spot", "(IIIIIZ)I"⟩
abbrev cX12_spots : ByteArray := prog_10_method_10_code
def yX12_spots : MethodName := ⟨RX12, "spots", "(I)I"⟩
abbrev cX12_isHeld : ByteArray := prog_10_method_11_code
def yX12_isHeld : MethodName := ⟨RX12, "isHeld", "(I)Z"⟩
abbrev cX12_station : ByteArray := prog_10_method_12_code
def yX12_station : MethodName := ⟨RX12, "station", "()I"⟩
abbrev cX12_robot : ByteArray := prog_10_method_13_code
def yX12_robot : MethodName := ⟨RX12, "robot", "(III)I"⟩
abbrev cX12_reaches : ByteArray := prog_10_method_14_code
def yX12_reaches : MethodName := ⟨RX12, "reaches", "(II)Z"⟩
abbrev cX12_swept : ByteArray := prog_10_method_15_code
def yX12_swept : MethodName := ⟨RX12, "swept", "(II)I"⟩
abbrev cX12_current : ByteArray := prog_10_method_16_code
def yX12_current : MethodName := ⟨RX12, "current", "(II)I"⟩
abbrev cX12_step : ByteArray := prog_10_method_17_code
def yX12_step : MethodName := ⟨RX12, "step", "(IICI)I"⟩
abbrev cX12_isNoProgram : ByteArray := prog_10_method_18_code
def yX12_isNoProgram : MethodName := ⟨RX12, "isNoProgram", "(II)Z"⟩
abbrev cX12_erase : ByteArray := prog_10_method_19_code
def yX12_erase : MethodName := ⟨RX12, "erase", "(II)I"⟩
abbrev cX12_steps : ByteArray := prog_10_method_20_code
def yX12_steps : MethodName := ⟨RX12, "steps", "(II)I"⟩
abbrev cX12_isWeld : ByteArray := prog_10_method_21_code
def yX12_isWeld : MethodName := ⟨RX12, "isWeld", "(LSpotbeatModel$Robot;II)Z"⟩
abbrev cX12_welds : ByteArray := prog_10_method_22_code
def yX12_welds : MethodName := ⟨RX12, "welds", "(II)I"⟩
abbrev cX12_canStep : ByteArray := prog_10_method_23_code
def yX12_canStep : MethodName := ⟨RX12, "canStep", "([ILjava/util/List;II)Z"⟩
abbrev cX12_isHolding : ByteArray := prog_10_method_24_code
def yX12_isHolding : MethodName := ⟨RX12, "isHolding", "(LSpotbeatModel$Robot;III)Z"⟩
abbrev cX12_canMeet : ByteArray := prog_10_method_25_code
def yX12_canMeet : MethodName := ⟨RX12, "canMeet", "([ILjava/util/List;I)Z"⟩
abbrev cX12_robotsOf : ByteArray := prog_10_method_26_code
def yX12_robotsOf : MethodName := ⟨RX12, "robotsOf", "(I)Ljava/util/List;"⟩
abbrev cX12_reached : ByteArray := prog_10_method_27_code
def yX12_reached : MethodName := ⟨RX12, "reached", "(II)Ljava/util/List;"⟩
abbrev cX12_isNoStation : ByteArray := prog_10_method_28_code
def yX12_isNoStation : MethodName := ⟨RX12, "isNoStation", "(II)Z"⟩
abbrev cX12_proof : ByteArray := prog_10_method_29_code
def yX12_proof : MethodName := ⟨RX12, "proof", "(II)C"⟩
abbrev cX12_states : ByteArray := prog_10_method_30_code
def yX12_states : MethodName := ⟨RX12, "states", "(II)I"⟩
abbrev cX12_isCovered : ByteArray := prog_10_method_31_code
def yX12_isCovered : MethodName := ⟨RX12, "isCovered", "(II)Z"⟩
abbrev cX12_uncovered : ByteArray := prog_10_method_32_code
def yX12_uncovered : MethodName := ⟨RX12, "uncovered", "(I)I"⟩
abbrev cX12_deal : ByteArray := prog_10_method_33_code
def yX12_deal : MethodName := ⟨RX12, "deal", "(I)I"⟩
abbrev cX12_isLackingNow : ByteArray := prog_10_method_34_code
def yX12_isLackingNow : MethodName := ⟨RX12, "isLackingNow", "(LSpotbeatModel$Body;I)Z"⟩
abbrev cX12_lacking : ByteArray := prog_10_method_35_code
def yX12_lacking : MethodName := ⟨RX12, "lacking", "(LSpotbeatModel$Body;Z)I"⟩
abbrev cX12_lacking_ : ByteArray := prog_10_method_36_code
def yX12_lacking_ : MethodName := ⟨RX12, "lacking", "(LSpotbeatModel$Body;)I"⟩
abbrev cX12_order : ByteArray := prog_10_method_37_code
def yX12_order : MethodName := ⟨RX12, "order", "(I)I"⟩
abbrev cX12_welds_ : ByteArray := prog_10_method_38_code
def yX12_welds_ : MethodName := ⟨RX12, "welds", "(LSpotbeatModel$Body;II)V"⟩
abbrev cX12_works : ByteArray := prog_10_method_39_code
def yX12_works : MethodName := ⟨RX12, "works", "(LSpotbeatModel$Station;)V"⟩
abbrev cX12_goesOff : ByteArray := prog_10_method_40_code
def yX12_goesOff : MethodName := ⟨RX12, "goesOff", "(LSpotbeatModel$Body;)V"⟩
abbrev cX12_beat : ByteArray := prog_10_method_41_code
def yX12_beat : MethodName := ⟨RX12, "beat", "()I"⟩
abbrev cX12_comes : ByteArray := prog_10_method_42_code
def yX12_comes : MethodName := ⟨RX12, "comes", "(II)V"⟩
abbrev cX12_beats : ByteArray := prog_10_method_43_code
def yX12_beats : MethodName := ⟨RX12, "beats", "()I"⟩
abbrev cX12_at : ByteArray := prog_10_method_44_code
def yX12_at : MethodName := ⟨RX12, "at", "(I)I"⟩
abbrev cX12_isNoBody : ByteArray := prog_10_method_45_code
def yX12_isNoBody : MethodName := ⟨RX12, "isNoBody", "(I)Z"⟩
abbrev cX12_where : ByteArray := prog_10_method_46_code
def yX12_where : MethodName := ⟨RX12, "where", "(I)I"⟩
abbrev cX12_waiting : ByteArray := prog_10_method_47_code
def yX12_waiting : MethodName := ⟨RX12, "waiting", "()I"⟩
abbrev cX12_stand : ByteArray := prog_10_method_48_code
def yX12_stand : MethodName := ⟨RX12, "stand", "(IZ)Z"⟩
abbrev cX12_letters : ByteArray := prog_10_method_49_code
def yX12_letters : MethodName := ⟨RX12, "letters", "(IC)I"⟩
abbrev cX12_isNoRobot : ByteArray := prog_10_method_50_code
def yX12_isNoRobot : MethodName := ⟨RX12, "isNoRobot", "(I)Z"⟩
abbrev cX12_die : ByteArray := prog_10_method_51_code
def yX12_die : MethodName := ⟨RX12, "die", "(IZ)Z"⟩
abbrev cX12_standIn : ByteArray := prog_10_method_52_code
def yX12_standIn : MethodName := ⟨RX12, "standIn", "(II)I"⟩
abbrev cX12_wear : ByteArray := prog_10_method_53_code
def yX12_wear : MethodName := ⟨RX12, "wear", "(I)I"⟩
abbrev cX12_dress : ByteArray := prog_10_method_54_code
def yX12_dress : MethodName := ⟨RX12, "dress", "(I)I"⟩
abbrev cX12_change : ByteArray := prog_10_method_55_code
def yX12_change : MethodName := ⟨RX12, "change", "(I)I"⟩
abbrev cX12_made : ByteArray := prog_10_method_56_code
def yX12_made : MethodName := ⟨RX12, "made", "(I)I"⟩
abbrev cX12_lacks : ByteArray := prog_10_method_57_code
def yX12_lacks : MethodName := ⟨RX12, "lacks", "(I)I"⟩
abbrev cX12_isNoSpot : ByteArray := prog_10_method_58_code
def yX12_isNoSpot : MethodName := ⟨RX12, "isNoSpot", "(II)Z"⟩
abbrev cX12_isLacking : ByteArray := prog_10_method_59_code
def yX12_isLacking : MethodName := ⟨RX12, "isLacking", "(II)Z"⟩
abbrev cX12_firstLacking : ByteArray := prog_10_method_60_code
def yX12_firstLacking : MethodName := ⟨RX12, "firstLacking", "(I)I"⟩
abbrev cX12_mend : ByteArray := prog_10_method_61_code
def yX12_mend : MethodName := ⟨RX12, "mend", "(II)I"⟩
abbrev cX12_maker : ByteArray := prog_10_method_62_code
def yX12_maker : MethodName := ⟨RX12, "maker", "(II)I"⟩
abbrev cX12_off : ByteArray := prog_10_method_63_code
def yX12_off : MethodName := ⟨RX12, "off", "()I"⟩
abbrev cX12_wholes : ByteArray := prog_10_method_64_code
def yX12_wholes : MethodName := ⟨RX12, "wholes", "()I"⟩
abbrev cX12_whole : ByteArray := prog_10_method_65_code
def yX12_whole : MethodName := ⟨RX12, "whole", "()I"⟩
abbrev cX12_offset : ByteArray := prog_10_method_66_code
def yX12_offset : MethodName := ⟨RX12, "offset", "(II)I"⟩
abbrev cX12_measure : ByteArray := prog_10_method_67_code
def yX12_measure : MethodName := ⟨RX12, "measure", "(I)I"⟩
abbrev cX12_feedBack : ByteArray := prog_10_method_68_code
def yX12_feedBack : MethodName := ⟨RX12, "feedBack", "(II)I"⟩
abbrev cX12_checksum : ByteArray := prog_10_method_69_code
def yX12_checksum : MethodName := ⟨RX12, "checksum", "()J"⟩
abbrev cX12_wholeShare : ByteArray := prog_10_method_70_code
def yX12_wholeShare : MethodName := ⟨RX12, "wholeShare", "()F"⟩
abbrev cX12_meanMeasure : ByteArray := prog_10_method_71_code
def yX12_meanMeasure : MethodName := ⟨RX12, "meanMeasure", "()D"⟩
abbrev cX12_isSound : ByteArray := prog_10_method_72_code
def yX12_isSound : MethodName := ⟨RX12, "isSound", "()Z"⟩
def RJx145de : String := "java/io/Serializable"
def TJx145de : u_T := fun k => match k with
  | _ => ("", "", "", false)
def tyJx145de : Nat → FieldType := fun k => match k with
  | _ => .int
abbrev wsJx145de0 : List Cond := u_ws RJx145de TJx145de 0
theorem nmJx145de : ∀ a, a < 0 → ∀ b, b < 0 → a ≠ b → (TJx145de a).2.1 ≠ (TJx145de b).2.1 := by decide +kernel
theorem tyJx145de_ok : ∀ k, k < 0 → parseFieldDescriptor (TJx145de k).2.2.1 = some (tyJx145de k) := by decide +kernel
def RJx9f9b0 : String := "java/lang/CharSequence"
def TJx9f9b0 : u_T := fun k => match k with
  | _ => ("", "", "", false)
def tyJx9f9b0 : Nat → FieldType := fun k => match k with
  | _ => .int
abbrev wsJx9f9b00 : List Cond := u_ws RJx9f9b0 TJx9f9b0 0
theorem nmJx9f9b0 : ∀ a, a < 0 → ∀ b, b < 0 → a ≠ b → (TJx9f9b0 a).2.1 ≠ (TJx9f9b0 b).2.1 := by decide +kernel
theorem tyJx9f9b0_ok : ∀ k, k < 0 → parseFieldDescriptor (TJx9f9b0 k).2.2.1 = some (tyJx9f9b0 k) := by decide +kernel
def RJ11 : String := "java/lang/Character"
def TJ11 : u_T := fun k => match k with
  | _ => ("", "", "", false)
def tyJ11 : Nat → FieldType := fun k => match k with
  | _ => .int
abbrev wsJ110 : List Cond := u_ws RJ11 TJ11 0
theorem nmJ11 : ∀ a, a < 0 → ∀ b, b < 0 → a ≠ b → (TJ11 a).2.1 ≠ (TJ11 b).2.1 := by decide +kernel
theorem tyJ11_ok : ∀ k, k < 0 → parseFieldDescriptor (TJ11 k).2.2.1 = some (tyJ11 k) := by decide +kernel
abbrev cJ11_isValidCodePoint_9a6ad : ByteArray := prog_17_method_11_code
def yJ11_isValidCodePoint_9a6ad : MethodName := ⟨RJ11, "isValidCodePoint", "(I)Z"⟩
abbrev cJ11_highSurrogate_5068e : ByteArray := prog_17_method_28_code
def yJ11_highSurrogate_5068e : MethodName := ⟨RJ11, "highSurrogate", "(I)C"⟩
abbrev cJ11_lowSurrogate_5068e : ByteArray := prog_17_method_29_code
def yJ11_lowSurrogate_5068e : MethodName := ⟨RJ11, "lowSurrogate", "(I)C"⟩
def RJx8e188 : String := "java/lang/Cloneable"
def TJx8e188 : u_T := fun k => match k with
  | _ => ("", "", "", false)
def tyJx8e188 : Nat → FieldType := fun k => match k with
  | _ => .int
abbrev wsJx8e1880 : List Cond := u_ws RJx8e188 TJx8e188 0
theorem nmJx8e188 : ∀ a, a < 0 → ∀ b, b < 0 → a ≠ b → (TJx8e188 a).2.1 ≠ (TJx8e188 b).2.1 := by decide +kernel
theorem tyJx8e188_ok : ∀ k, k < 0 → parseFieldDescriptor (TJx8e188 k).2.2.1 = some (tyJx8e188 k) := by decide +kernel
def RJxb160c : String := "java/lang/Comparable"
def TJxb160c : u_T := fun k => match k with
  | _ => ("", "", "", false)
def tyJxb160c : Nat → FieldType := fun k => match k with
  | _ => .int
abbrev wsJxb160c0 : List Cond := u_ws RJxb160c TJxb160c 0
theorem nmJxb160c : ∀ a, a < 0 → ∀ b, b < 0 → a ≠ b → (TJxb160c a).2.1 ≠ (TJxb160c b).2.1 := by decide +kernel
theorem tyJxb160c_ok : ∀ k, k < 0 → parseFieldDescriptor (TJxb160c k).2.2.1 = some (tyJxb160c k) := by decide +kernel
def RJxabbfe : String := "java/lang/Integer$IntegerCache"
def TJxabbfe : u_T := fun k => match k with
  | _ => ("", "", "", false)
def tyJxabbfe : Nat → FieldType := fun k => match k with
  | _ => .int
abbrev wsJxabbfe0 : List Cond := u_ws RJxabbfe TJxabbfe 0
theorem nmJxabbfe : ∀ a, a < 0 → ∀ b, b < 0 → a ≠ b → (TJxabbfe a).2.1 ≠ (TJxabbfe b).2.1 := by decide +kernel
theorem tyJxabbfe_ok : ∀ k, k < 0 → parseFieldDescriptor (TJxabbfe k).2.2.1 = some (tyJxabbfe k) := by decide +kernel
def RJ6 : String := "java/lang/Integer"
def TJ6 : u_T := fun k => match k with
  | _ => ("java/lang/Integer", "value", "I", true)
def tyJ6 : Nat → FieldType := fun k => match k with
  | _ => .int
abbrev wsJ60 : List Cond := u_ws RJ6 TJ6 1
theorem nmJ6 : ∀ a, a < 1 → ∀ b, b < 1 → a ≠ b → (TJ6 a).2.1 ≠ (TJ6 b).2.1 := by decide +kernel
theorem tyJ6_ok : ∀ k, k < 1 → parseFieldDescriptor (TJ6 k).2.2.1 = some (tyJ6 k) := by decide +kernel
abbrev cJ6_valueOf_2dffe : ByteArray := prog_24_method_22_code
def yJ6_valueOf_2dffe : MethodName := ⟨RJ6, "valueOf", "(I)Ljava/lang/Integer;"⟩
abbrev cJ6_init_d00df : ByteArray := prog_24_method_23_code
def yJ6_init_d00df : MethodName := ⟨RJ6, "<init>", "(I)V"⟩
abbrev cJ6_intValue_8abf5 : ByteArray := prog_24_method_27_code
def yJ6_intValue_8abf5 : MethodName := ⟨RJ6, "intValue", "()I"⟩
def RJxab1ab : String := "java/lang/Iterable"
def TJxab1ab : u_T := fun k => match k with
  | _ => ("", "", "", false)
def tyJxab1ab : Nat → FieldType := fun k => match k with
  | _ => .int
abbrev wsJxab1ab0 : List Cond := u_ws RJxab1ab TJxab1ab 0
theorem nmJxab1ab : ∀ a, a < 0 → ∀ b, b < 0 → a ≠ b → (TJxab1ab a).2.1 ≠ (TJxab1ab b).2.1 := by decide +kernel
theorem tyJxab1ab_ok : ∀ k, k < 0 → parseFieldDescriptor (TJxab1ab k).2.2.1 = some (tyJxab1ab k) := by decide +kernel
def RJ9 : String := "java/lang/Math"
def TJ9 : u_T := fun k => match k with
  | _ => ("", "", "", false)
def tyJ9 : Nat → FieldType := fun k => match k with
  | _ => .int
abbrev wsJ90 : List Cond := u_ws RJ9 TJ9 0
theorem nmJ9 : ∀ a, a < 0 → ∀ b, b < 0 → a ≠ b → (TJ9 a).2.1 ≠ (TJ9 b).2.1 := by decide +kernel
theorem tyJ9_ok : ∀ k, k < 0 → parseFieldDescriptor (TJ9 k).2.2.1 = some (tyJ9 k) := by decide +kernel
abbrev cJ9_abs_0f7a4 : ByteArray := prog_27_method_59_code
def yJ9_abs_0f7a4 : MethodName := ⟨RJ9, "abs", "(I)I"⟩
abbrev cJ9_max_7cf53 : ByteArray := prog_27_method_65_code
def yJ9_max_7cf53 : MethodName := ⟨RJ9, "max", "(II)I"⟩
abbrev cJ9_min_7cf53 : ByteArray := prog_27_method_69_code
def yJ9_min_7cf53 : MethodName := ⟨RJ9, "min", "(II)I"⟩
def RJxd2413 : String := "java/lang/Number"
def TJxd2413 : u_T := fun k => match k with
  | _ => ("", "", "", false)
def tyJxd2413 : Nat → FieldType := fun k => match k with
  | _ => .int
abbrev wsJxd24130 : List Cond := u_ws RJxd2413 TJxd2413 0
theorem nmJxd2413 : ∀ a, a < 0 → ∀ b, b < 0 → a ≠ b → (TJxd2413 a).2.1 ≠ (TJxd2413 b).2.1 := by decide +kernel
theorem tyJxd2413_ok : ∀ k, k < 0 → parseFieldDescriptor (TJxd2413 k).2.2.1 = some (tyJxd2413 k) := by decide +kernel
abbrev cJxd2413_init_da8c8 : ByteArray := prog_28_method_1_code
def yJxd2413_init_da8c8 : MethodName := ⟨RJxd2413, "<init>", "()V"⟩
def RJ0 : String := "java/lang/String"
def TJ0 : u_T := fun k => match k with
  | _ => ("", "", "", false)
def tyJ0 : Nat → FieldType := fun k => match k with
  | _ => .int
abbrev wsJ00 : List Cond := u_ws RJ0 TJ0 0
theorem nmJ0 : ∀ a, a < 0 → ∀ b, b < 0 → a ≠ b → (TJ0 a).2.1 ≠ (TJ0 b).2.1 := by decide +kernel
theorem tyJ0_ok : ∀ k, k < 0 → parseFieldDescriptor (TJ0 k).2.2.1 = some (tyJ0 k) := by decide +kernel
abbrev cJ0_length_8abf5 : ByteArray := prog_30_method_54_code
def yJ0_length_8abf5 : MethodName := ⟨RJ0, "length", "()I"⟩
abbrev cJ0_indexOf_0f7a4 : ByteArray := prog_30_method_79_code
def yJ0_indexOf_0f7a4 : MethodName := ⟨RJ0, "indexOf", "(I)I"⟩
abbrev cJ0_indexOf_7cf53 : ByteArray := prog_30_method_80_code
def yJ0_indexOf_7cf53 : MethodName := ⟨RJ0, "indexOf", "(II)I"⟩
abbrev cJ0_coder_7d493 : ByteArray := prog_30_method_152_code
def yJ0_coder_7d493 : MethodName := ⟨RJ0, "coder", "()B"⟩
abbrev cJ0_isLatin1_aae02 : ByteArray := prog_30_method_154_code
def yJ0_isLatin1_aae02 : MethodName := ⟨RJ0, "isLatin1", "()Z"⟩
abbrev cJ0_checkBoundsBeginEnd_23922 : ByteArray := prog_30_method_158_code
def yJ0_checkBoundsBeginEnd_23922 : MethodName := ⟨RJ0, "checkBoundsBeginEnd", "(III)V"⟩
def RJ1 : String := "java/lang/StringLatin1"
def TJ1 : u_T := fun k => match k with
  | _ => ("", "", "", false)
def tyJ1 : Nat → FieldType := fun k => match k with
  | _ => .int
abbrev wsJ10 : List Cond := u_ws RJ1 TJ1 0
theorem nmJ1 : ∀ a, a < 0 → ∀ b, b < 0 → a ≠ b → (TJ1 a).2.1 ≠ (TJ1 b).2.1 := by decide +kernel
theorem tyJ1_ok : ∀ k, k < 0 → parseFieldDescriptor (TJ1 k).2.2.1 = some (tyJ1 k) := by decide +kernel
abbrev cJ1_canEncode_9a6ad : ByteArray := prog_31_method_4_code
def yJ1_canEncode_9a6ad : MethodName := ⟨RJ1, "canEncode", "(I)Z"⟩
abbrev cJ1_indexOf_4cfef : ByteArray := prog_31_method_22_code
def yJ1_indexOf_4cfef : MethodName := ⟨RJ1, "indexOf", "([BIII)I"⟩
abbrev cJ1_indexOfChar_4cfef : ByteArray := prog_31_method_23_code
def yJ1_indexOfChar_4cfef : MethodName := ⟨RJ1, "indexOfChar", "([BIII)I"⟩
def RJ2 : String := "java/lang/StringUTF16"
def TJ2 : u_T := fun k => match k with
  | _ => ("", "", "", false)
def tyJ2 : Nat → FieldType := fun k => match k with
  | _ => .int
abbrev wsJ20 : List Cond := u_ws RJ2 TJ2 0
theorem nmJ2 : ∀ a, a < 0 → ∀ b, b < 0 → a ≠ b → (TJ2 a).2.1 ≠ (TJ2 b).2.1 := by decide +kernel
theorem tyJ2_ok : ∀ k, k < 0 → parseFieldDescriptor (TJ2 k).2.2.1 = some (tyJ2 k) := by decide +kernel
abbrev cJ2_getChar_3b067 : ByteArray := prog_32_method_5_code
def yJ2_getChar_3b067 : MethodName := ⟨RJ2, "getChar", "([BI)C"⟩
abbrev cJ2_length_9d52b : ByteArray := prog_32_method_6_code
def yJ2_length_9d52b : MethodName := ⟨RJ2, "length", "([B)I"⟩
abbrev cJ2_indexOf_4cfef : ByteArray := prog_32_method_40_code
def yJ2_indexOf_4cfef : MethodName := ⟨RJ2, "indexOf", "([BIII)I"⟩
abbrev cJ2_indexOfChar_4cfef : ByteArray := prog_32_method_47_code
def yJ2_indexOfChar_4cfef : MethodName := ⟨RJ2, "indexOfChar", "([BIII)I"⟩
abbrev cJ2_indexOfCharUnsafe_4cfef : ByteArray := prog_32_method_48_code
def yJ2_indexOfCharUnsafe_4cfef : MethodName := ⟨RJ2, "indexOfCharUnsafe", "([BIII)I"⟩
abbrev cJ2_indexOfSupplementary_4cfef : ByteArray := prog_32_method_49_code
def yJ2_indexOfSupplementary_4cfef : MethodName := ⟨RJ2, "indexOfSupplementary", "([BIII)I"⟩
abbrev cJ2_checkBoundsBeginEnd_d044e : ByteArray := prog_32_method_93_code
def yJ2_checkBoundsBeginEnd_d044e : MethodName := ⟨RJ2, "checkBoundsBeginEnd", "(II[B)V"⟩
def RJ10 : String := "java/lang/System"
def TJ10 : u_T := fun k => match k with
  | _ => ("", "", "", false)
def tyJ10 : Nat → FieldType := fun k => match k with
  | _ => .int
abbrev wsJ100 : List Cond := u_ws RJ10 TJ10 0
theorem nmJ10 : ∀ a, a < 0 → ∀ b, b < 0 → a ≠ b → (TJ10 a).2.1 ≠ (TJ10 b).2.1 := by decide +kernel
theorem tyJ10_ok : ∀ k, k < 0 → parseFieldDescriptor (TJ10 k).2.2.1 = some (tyJ10 k) := by decide +kernel
def RJxfd54e : String := "java/lang/constant/Constable"
def TJxfd54e : u_T := fun k => match k with
  | _ => ("", "", "", false)
def tyJxfd54e : Nat → FieldType := fun k => match k with
  | _ => .int
abbrev wsJxfd54e0 : List Cond := u_ws RJxfd54e TJxfd54e 0
theorem nmJxfd54e : ∀ a, a < 0 → ∀ b, b < 0 → a ≠ b → (TJxfd54e a).2.1 ≠ (TJxfd54e b).2.1 := by decide +kernel
theorem tyJxfd54e_ok : ∀ k, k < 0 → parseFieldDescriptor (TJxfd54e k).2.2.1 = some (tyJxfd54e k) := by decide +kernel
def RJx3cf43 : String := "java/lang/constant/ConstantDesc"
def TJx3cf43 : u_T := fun k => match k with
  | _ => ("", "", "", false)
def tyJx3cf43 : Nat → FieldType := fun k => match k with
  | _ => .int
abbrev wsJx3cf430 : List Cond := u_ws RJx3cf43 TJx3cf43 0
theorem nmJx3cf43 : ∀ a, a < 0 → ∀ b, b < 0 → a ≠ b → (TJx3cf43 a).2.1 ≠ (TJx3cf43 b).2.1 := by decide +kernel
theorem tyJx3cf43_ok : ∀ k, k < 0 → parseFieldDescriptor (TJx3cf43 k).2.2.1 = some (tyJx3cf43 k) := by decide +kernel
def RJxa1e45 : String := "java/util/AbstractCollection"
def TJxa1e45 : u_T := fun k => match k with
  | _ => ("", "", "", false)
def tyJxa1e45 : Nat → FieldType := fun k => match k with
  | _ => .int
abbrev wsJxa1e450 : List Cond := u_ws RJxa1e45 TJxa1e45 0
theorem nmJxa1e45 : ∀ a, a < 0 → ∀ b, b < 0 → a ≠ b → (TJxa1e45 a).2.1 ≠ (TJxa1e45 b).2.1 := by decide +kernel
theorem tyJxa1e45_ok : ∀ k, k < 0 → parseFieldDescriptor (TJxa1e45 k).2.2.1 = some (tyJxa1e45 k) := by decide +kernel
abbrev cJxa1e45_init_da8c8 : ByteArray := prog_38_method_1_code
def yJxa1e45_init_da8c8 : MethodName := ⟨RJxa1e45, "<init>", "()V"⟩
def RJxc12de : String := "java/util/AbstractList"
def TJxc12de : u_T := fun k => match k with
  | _ => ("", "", "", false)
def tyJxc12de : Nat → FieldType := fun k => match k with
  | _ => .int
abbrev wsJxc12de0 : List Cond := u_ws RJxc12de TJxc12de 0
theorem nmJxc12de : ∀ a, a < 0 → ∀ b, b < 0 → a ≠ b → (TJxc12de a).2.1 ≠ (TJxc12de b).2.1 := by decide +kernel
theorem tyJxc12de_ok : ∀ k, k < 0 → parseFieldDescriptor (TJxc12de k).2.2.1 = some (tyJxc12de k) := by decide +kernel
abbrev cJxc12de_init_da8c8 : ByteArray := prog_39_method_1_code
def yJxc12de_init_da8c8 : MethodName := ⟨RJxc12de, "<init>", "()V"⟩
def RJx35411 : String := "java/util/ArrayList$Itr"
def TJx35411 : u_T := fun k => match k with
  | 0 => ("java/util/ArrayList$Itr", "cursor", "I", false)
  | 1 => ("java/util/ArrayList$Itr", "lastRet", "I", false)
  | 2 => ("java/util/ArrayList$Itr", "expectedModCount", "I", false)
  | _ => ("java/util/ArrayList$Itr", "this$0", "Ljava/util/ArrayList;", true)
def tyJx35411 : Nat → FieldType := fun k => match k with
  | 0 => .int
  | 1 => .int
  | 2 => .int
  | _ => .object "java/util/ArrayList"
abbrev wsJx354110 : List Cond := u_ws RJx35411 TJx35411 4
theorem nmJx35411 : ∀ a, a < 4 → ∀ b, b < 4 → a ≠ b → (TJx35411 a).2.1 ≠ (TJx35411 b).2.1 := by decide +kernel
theorem tyJx35411_ok : ∀ k, k < 4 → parseFieldDescriptor (TJx35411 k).2.2.1 = some (tyJx35411 k) := by decide +kernel
abbrev cJx35411_init_45d68 : ByteArray := prog_41_method_1_code
def yJx35411_init_45d68 : MethodName := ⟨RJx35411, "<init>", "(Ljava/util/ArrayList;)V"⟩
abbrev cJx35411_hasNext_aae02 : ByteArray := prog_41_method_2_code
def yJx35411_hasNext_aae02 : MethodName := ⟨RJx35411, "hasNext", "()Z"⟩
abbrev cJx35411_next_0502b : ByteArray := prog_41_method_3_code
def yJx35411_next_0502b : MethodName := ⟨RJx35411, "next", "()Ljava/lang/Object;"⟩
abbrev cJx35411_checkForComodification_da8c8 : ByteArray := prog_41_method_6_code
def yJx35411_checkForComodification_da8c8 : MethodName := ⟨RJx35411, "checkForComodification", "()V"⟩
def RJx4a65c : String := "java/util/ArrayList"
def TJx4a65c : u_T := fun k => match k with
  | 0 => ("java/util/AbstractList", "modCount", "I", false)
  | 1 => ("java/util/ArrayList", "elementData", "[Ljava/lang/Object;", false)
  | _ => ("java/util/ArrayList", "size", "I", false)
def tyJx4a65c : Nat → FieldType := fun k => match k with
  | 0 => .int
  | 1 => .array (.object "java/lang/Object")
  | _ => .int
abbrev wsJx4a65c0 : List Cond := u_ws RJx4a65c TJx4a65c 3
theorem nmJx4a65c : ∀ a, a < 3 → ∀ b, b < 3 → a ≠ b → (TJx4a65c a).2.1 ≠ (TJx4a65c b).2.1 := by decide +kernel
theorem tyJx4a65c_ok : ∀ k, k < 3 → parseFieldDescriptor (TJx4a65c k).2.2.1 = some (tyJx4a65c k) := by decide +kernel
abbrev cJx4a65c_init_da8c8 : ByteArray := prog_40_method_2_code
def yJx4a65c_init_da8c8 : MethodName := ⟨RJx4a65c, "<init>", "()V"⟩
abbrev cJx4a65c_grow_92f84 : ByteArray := prog_40_method_6_code
def yJx4a65c_grow_92f84 : MethodName := ⟨RJx4a65c, "grow", "(I)[Ljava/lang/Object;"⟩
abbrev cJx4a65c_grow_d5877 : ByteArray := prog_40_method_7_code
def yJx4a65c_grow_d5877 : MethodName := ⟨RJx4a65c, "grow", "()[Ljava/lang/Object;"⟩
abbrev cJx4a65c_size_8abf5 : ByteArray := prog_40_method_8_code
def yJx4a65c_size_8abf5 : MethodName := ⟨RJx4a65c, "size", "()I"⟩
abbrev cJx4a65c_isEmpty_aae02 : ByteArray := prog_40_method_9_code
def yJx4a65c_isEmpty_aae02 : MethodName := ⟨RJx4a65c, "isEmpty", "()Z"⟩
abbrev cJx4a65c_elementData_915e3 : ByteArray := prog_40_method_18_code
def yJx4a65c_elementData_915e3 : MethodName := ⟨RJx4a65c, "elementData", "(I)Ljava/lang/Object;"⟩
abbrev cJx4a65c_get_915e3 : ByteArray := prog_40_method_20_code
def yJx4a65c_get_915e3 : MethodName := ⟨RJx4a65c, "get", "(I)Ljava/lang/Object;"⟩
abbrev cJx4a65c_add_72be8 : ByteArray := prog_40_method_24_code
def yJx4a65c_add_72be8 : MethodName := ⟨RJx4a65c, "add", "(Ljava/lang/Object;[Ljava/lang/Object;I)V"⟩
abbrev cJx4a65c_add_9ea2d : ByteArray := prog_40_method_25_code
def yJx4a65c_add_9ea2d : MethodName := ⟨RJx4a65c, "add", "(Ljava/lang/Object;)Z"⟩
abbrev cJx4a65c_clear_da8c8 : ByteArray := prog_40_method_40_code
def yJx4a65c_clear_da8c8 : MethodName := ⟨RJx4a65c, "clear", "()V"⟩
abbrev cJx4a65c_iterator_32c93 : ByteArray := prog_40_method_55_code
def yJx4a65c_iterator_32c93 : MethodName := ⟨RJx4a65c, "iterator", "()Ljava/util/Iterator;"⟩
def RJ7 : String := "java/util/Arrays"
def TJ7 : u_T := fun k => match k with
  | _ => ("", "", "", false)
def tyJ7 : Nat → FieldType := fun k => match k with
  | _ => .int
abbrev wsJ70 : List Cond := u_ws RJ7 TJ7 0
theorem nmJ7 : ∀ a, a < 0 → ∀ b, b < 0 → a ≠ b → (TJ7 a).2.1 ≠ (TJ7 b).2.1 := by decide +kernel
theorem tyJ7_ok : ∀ k, k < 0 → parseFieldDescriptor (TJ7 k).2.2.1 = some (tyJ7 k) := by decide +kernel
abbrev cJ7_fill_53178 : ByteArray := prog_42_method_103_code
def yJ7_fill_53178 : MethodName := ⟨RJ7, "fill", "([II)V"⟩
abbrev cJ7_copyOf_1904c : ByteArray := prog_42_method_119_code
def yJ7_copyOf_1904c : MethodName := ⟨RJ7, "copyOf", "([Ljava/lang/Object;I)[Ljava/lang/Object;"⟩
abbrev cJ7_copyOf_6403c : ByteArray := prog_42_method_120_code
def yJ7_copyOf_6403c : MethodName := ⟨RJ7, "copyOf", "([Ljava/lang/Object;ILjava/lang/Class;)[Ljava/lang/Object;"⟩
def RJx5ef63 : String := "java/util/Collection"
def TJx5ef63 : u_T := fun k => match k with
  | _ => ("", "", "", false)
def tyJx5ef63 : Nat → FieldType := fun k => match k with
  | _ => .int
abbrev wsJx5ef630 : List Cond := u_ws RJx5ef63 TJx5ef63 0
theorem nmJx5ef63 : ∀ a, a < 0 → ∀ b, b < 0 → a ≠ b → (TJx5ef63 a).2.1 ≠ (TJx5ef63 b).2.1 := by decide +kernel
theorem tyJx5ef63_ok : ∀ k, k < 0 → parseFieldDescriptor (TJx5ef63 k).2.2.1 = some (tyJx5ef63 k) := by decide +kernel
def RJx4d0d8 : String := "java/util/Iterator"
def TJx4d0d8 : u_T := fun k => match k with
  | _ => ("", "", "", false)
def tyJx4d0d8 : Nat → FieldType := fun k => match k with
  | _ => .int
abbrev wsJx4d0d80 : List Cond := u_ws RJx4d0d8 TJx4d0d8 0
theorem nmJx4d0d8 : ∀ a, a < 0 → ∀ b, b < 0 → a ≠ b → (TJx4d0d8 a).2.1 ≠ (TJx4d0d8 b).2.1 := by decide +kernel
theorem tyJx4d0d8_ok : ∀ k, k < 0 → parseFieldDescriptor (TJx4d0d8 k).2.2.1 = some (tyJx4d0d8 k) := by decide +kernel
def RJxbd725 : String := "java/util/List"
def TJxbd725 : u_T := fun k => match k with
  | _ => ("", "", "", false)
def tyJxbd725 : Nat → FieldType := fun k => match k with
  | _ => .int
abbrev wsJxbd7250 : List Cond := u_ws RJxbd725 TJxbd725 0
theorem nmJxbd725 : ∀ a, a < 0 → ∀ b, b < 0 → a ≠ b → (TJxbd725 a).2.1 ≠ (TJxbd725 b).2.1 := by decide +kernel
theorem tyJxbd725_ok : ∀ k, k < 0 → parseFieldDescriptor (TJxbd725 k).2.2.1 = some (tyJxbd725 k) := by decide +kernel
def RJ15 : String := "java/util/Objects"
def TJ15 : u_T := fun k => match k with
  | _ => ("", "", "", false)
def tyJ15 : Nat → FieldType := fun k => match k with
  | _ => .int
abbrev wsJ150 : List Cond := u_ws RJ15 TJ15 0
theorem nmJ15 : ∀ a, a < 0 → ∀ b, b < 0 → a ≠ b → (TJ15 a).2.1 ≠ (TJ15 b).2.1 := by decide +kernel
theorem tyJ15_ok : ∀ k, k < 0 → parseFieldDescriptor (TJ15 k).2.2.1 = some (tyJ15 k) := by decide +kernel
abbrev cJ15_checkIndex_7cf53 : ByteArray := prog_47_method_17_code
def yJ15_checkIndex_7cf53 : MethodName := ⟨RJ15, "checkIndex", "(II)I"⟩
def RJxf0a74 : String := "java/util/RandomAccess"
def TJxf0a74 : u_T := fun k => match k with
  | _ => ("", "", "", false)
def tyJxf0a74 : Nat → FieldType := fun k => match k with
  | _ => .int
abbrev wsJxf0a740 : List Cond := u_ws RJxf0a74 TJxf0a74 0
theorem nmJxf0a74 : ∀ a, a < 0 → ∀ b, b < 0 → a ≠ b → (TJxf0a74 a).2.1 ≠ (TJxf0a74 b).2.1 := by decide +kernel
theorem tyJxf0a74_ok : ∀ k, k < 0 → parseFieldDescriptor (TJxf0a74 k).2.2.1 = some (tyJxf0a74 k) := by decide +kernel
def RJxa66e6 : String := "java/util/SequencedCollection"
def TJxa66e6 : u_T := fun k => match k with
  | _ => ("", "", "", false)
def tyJxa66e6 : Nat → FieldType := fun k => match k with
  | _ => .int
abbrev wsJxa66e60 : List Cond := u_ws RJxa66e6 TJxa66e6 0
theorem nmJxa66e6 : ∀ a, a < 0 → ∀ b, b < 0 → a ≠ b → (TJxa66e6 a).2.1 ≠ (TJxa66e6 b).2.1 := by decide +kernel
theorem tyJxa66e6_ok : ∀ k, k < 0 → parseFieldDescriptor (TJxa66e6 k).2.2.1 = some (tyJxa66e6 k) := by decide +kernel
def RJ8 : String := "jdk/internal/util/ArraysSupport"
def TJ8 : u_T := fun k => match k with
  | _ => ("", "", "", false)
def tyJ8 : Nat → FieldType := fun k => match k with
  | _ => .int
abbrev wsJ80 : List Cond := u_ws RJ8 TJ8 0
theorem nmJ8 : ∀ a, a < 0 → ∀ b, b < 0 → a ≠ b → (TJ8 a).2.1 ≠ (TJ8 b).2.1 := by decide +kernel
theorem tyJ8_ok : ∀ k, k < 0 → parseFieldDescriptor (TJ8 k).2.2.1 = some (tyJ8 k) := by decide +kernel
abbrev cJ8_newLength_cabcc : ByteArray := prog_50_method_27_code
def yJ8_newLength_cabcc : MethodName := ⟨RJ8, "newLength", "(III)I"⟩
abbrev cJ8_hugeLength_7cf53 : ByteArray := prog_50_method_28_code
def yJ8_hugeLength_7cf53 : MethodName := ⟨RJ8, "hugeLength", "(II)I"⟩
def RJ3 : String := "jdk/internal/util/Preconditions"
def TJ3 : u_T := fun k => match k with
  | _ => ("", "", "", false)
def tyJ3 : Nat → FieldType := fun k => match k with
  | _ => .int
abbrev wsJ30 : List Cond := u_ws RJ3 TJ3 0
theorem nmJ3 : ∀ a, a < 0 → ∀ b, b < 0 → a ≠ b → (TJ3 a).2.1 ≠ (TJ3 b).2.1 := by decide +kernel
theorem tyJ3_ok : ∀ k, k < 0 → parseFieldDescriptor (TJ3 k).2.2.1 = some (tyJ3 k) := by decide +kernel
abbrev cJ3_checkIndex_8e157 : ByteArray := prog_51_method_11_code
def yJ3_checkIndex_8e157 : MethodName := ⟨RJ3, "checkIndex", "(IILjava/util/function/BiFunction;)I"⟩
abbrev cJ3_checkFromToIndex_8c36e : ByteArray := prog_51_method_12_code
def yJ3_checkFromToIndex_8c36e : MethodName := ⟨RJ3, "checkFromToIndex", "(IIILjava/util/function/BiFunction;)I"⟩
def RL : String := "SpotbeatLaw"
abbrev cL_panel : ByteArray := method_3_code
def yL_panel : MethodName := ⟨RL, "panel", "(LSpotbeat;I[J)I"⟩
abbrev cL_spot : ByteArray := method_4_code
def yL_spot : MethodName := ⟨RL, "spot", "(LSpotbeat;IIIIIZ[J)I"⟩
abbrev cL_spots : ByteArray := method_5_code
def yL_spots : MethodName := ⟨RL, "spots", "(LSpotbeat;I[J)I"⟩
abbrev cL_isHeld : ByteArray := method_6_code
def yL_isHeld : MethodName := ⟨RL, "isHeld", "(LSpotbeat;I[J)I"⟩
abbrev cL_station : ByteArray := method_7_code
def yL_station : MethodName := ⟨RL, "station", "(LSpotbeat;[J)I"⟩
abbrev cL_robot : ByteArray := method_8_code
def yL_robot : MethodName := ⟨RL, "robot", "(LSpotbeat;III[J)I"⟩
abbrev cL_reaches : ByteArray := method_9_code
def yL_reaches : MethodName := ⟨RL, "reaches", "(LSpotbeat;II[J)I"⟩
abbrev cL_swept : ByteArray := method_10_code
def yL_swept : MethodName := ⟨RL, "swept", "(LSpotbeat;II[J)I"⟩
abbrev cL_current : ByteArray := method_11_code
def yL_current : MethodName := ⟨RL, "current", "(LSpotbeat;II[J)I"⟩
abbrev cL_step : ByteArray := method_12_code
def yL_step : MethodName := ⟨RL, "step", "(LSpotbeat;IICI[J)I"⟩
abbrev cL_erase : ByteArray := method_13_code
def yL_erase : MethodName := ⟨RL, "erase", "(LSpotbeat;II[J)I"⟩
abbrev cL_steps : ByteArray := method_14_code
def yL_steps : MethodName := ⟨RL, "steps", "(LSpotbeat;II[J)I"⟩
abbrev cL_welds : ByteArray := method_15_code
def yL_welds : MethodName := ⟨RL, "welds", "(LSpotbeat;II[J)I"⟩
abbrev cL_proof : ByteArray := method_16_code
def yL_proof : MethodName := ⟨RL, "proof", "(LSpotbeat;II[J)I"⟩
abbrev cL_states : ByteArray := method_17_code
def yL_states : MethodName := ⟨RL, "states", "(LSpotbeat;II[J)I"⟩
abbrev cL_uncovered : ByteArray := method_18_code
def yL_uncovered : MethodName := ⟨RL, "uncovered", "(LSpotbeat;I[J)I"⟩
abbrev cL_deal : ByteArray := method_19_code
def yL_deal : MethodName := ⟨RL, "deal", "(LSpotbeat;I[J)I"⟩
abbrev cL_order : ByteArray := method_20_code
def yL_order : MethodName := ⟨RL, "order", "(LSpotbeat;I[J)I"⟩
abbrev cL_beat : ByteArray := method_21_code
def yL_beat : MethodName := ⟨RL, "beat", "(LSpotbeat;[J)I"⟩
abbrev cL_at : ByteArray := method_22_code
def yL_at : MethodName := ⟨RL, "at", "(LSpotbeat;I[J)I"⟩
abbrev cL_where : ByteArray := method_23_code
def yL_where : MethodName := ⟨RL, "where", "(LSpotbeat;I[J)I"⟩
abbrev cL_stand : ByteArray := method_24_code
def yL_stand : MethodName := ⟨RL, "stand", "(LSpotbeat;IZ[J)I"⟩
abbrev cL_letters : ByteArray := method_25_code
def yL_letters : MethodName := ⟨RL, "letters", "(LSpotbeat;IC[J)I"⟩
abbrev cL_die : ByteArray := method_26_code
def yL_die : MethodName := ⟨RL, "die", "(LSpotbeat;IZ[J)I"⟩
abbrev cL_standIn : ByteArray := method_27_code
def yL_standIn : MethodName := ⟨RL, "standIn", "(LSpotbeat;II[J)I"⟩
abbrev cL_wear : ByteArray := method_28_code
def yL_wear : MethodName := ⟨RL, "wear", "(LSpotbeat;I[J)I"⟩
abbrev cL_dress : ByteArray := method_29_code
def yL_dress : MethodName := ⟨RL, "dress", "(LSpotbeat;I[J)I"⟩
abbrev cL_change : ByteArray := method_30_code
def yL_change : MethodName := ⟨RL, "change", "(LSpotbeat;I[J)I"⟩
abbrev cL_made : ByteArray := method_31_code
def yL_made : MethodName := ⟨RL, "made", "(LSpotbeat;I[J)I"⟩
abbrev cL_lacks : ByteArray := method_32_code
def yL_lacks : MethodName := ⟨RL, "lacks", "(LSpotbeat;I[J)I"⟩
abbrev cL_isLacking : ByteArray := method_33_code
def yL_isLacking : MethodName := ⟨RL, "isLacking", "(LSpotbeat;II[J)I"⟩
abbrev cL_firstLacking : ByteArray := method_34_code
def yL_firstLacking : MethodName := ⟨RL, "firstLacking", "(LSpotbeat;I[J)I"⟩
abbrev cL_mend : ByteArray := method_35_code
def yL_mend : MethodName := ⟨RL, "mend", "(LSpotbeat;II[J)I"⟩
abbrev cL_maker : ByteArray := method_36_code
def yL_maker : MethodName := ⟨RL, "maker", "(LSpotbeat;II[J)I"⟩
abbrev cL_offset : ByteArray := method_37_code
def yL_offset : MethodName := ⟨RL, "offset", "(LSpotbeat;II[J)I"⟩
abbrev cL_measure : ByteArray := method_38_code
def yL_measure : MethodName := ⟨RL, "measure", "(LSpotbeat;I[J)I"⟩
abbrev cL_feedBack : ByteArray := method_39_code
def yL_feedBack : MethodName := ⟨RL, "feedBack", "(LSpotbeat;II[J)I"⟩
abbrev cL_wholeShare : ByteArray := method_40_code
def yL_wholeShare : MethodName := ⟨RL, "wholeShare", "(LSpotbeat;[D)I"⟩
abbrev cL_meanMeasure : ByteArray := method_41_code
def yL_meanMeasure : MethodName := ⟨RL, "meanMeasure", "(LSpotbeat;[D)I"⟩
abbrev cL_law : ByteArray := code
def yL_law : MethodName := ⟨RL, "law", "([I)Z"⟩
/-- the words of NoSuchElementException's throw: its constructor calls the one above by another place of its pool (13) than the kit's row says (7), so the printed list isn't true of the tables -/
def zxW (w : Cond) : Cond := if w = .code (Bundle.initS "java/util/NoSuchElementException") Bundle.six 2 none then .code (Bundle.initS "java/util/NoSuchElementException") prog_46_method_4_code 2 none else if w = .methodLink "java/util/NoSuchElementException" 7 (Bundle.initS "java/lang/RuntimeException") then .methodLink "java/util/NoSuchElementException" 13 (Bundle.initS "java/lang/RuntimeException") else w
def zx_nsee : List Cond := (vx_atS RX7 306 "java/util/NoSuchElementException" ["java/lang/RuntimeException", "java/lang/Exception"]).map zxW
abbrev vwCl : List vw_C := [(RJ6, TJ6, 1), (RJx35411, TJx35411, 4), (RJx4a65c, TJx4a65c, 3), (RX0, TX0, 5), (RX1, TX1, 6), (RX2, TX2, 4), (RX3, TX3, 11), (RX4, TX4, 6), (RX5, TX5, 12), (RX6, TX6, 6), (RX7, TX7, 12), (RX8, TX8, 4), (RX9, TX9, 10), (RX10, TX10, 6), (RX11, TX11, 6), (RX12, TX12, 8)]
/-! ===== END printed: names ===== -/
end
section
theorem dX0_init_0 : decode cX0_init 0 = .ok (.aload_n 0, 1) := by decide +kernel
theorem dX0_init_1 : decode cX0_init 1 = .ok (.invokespecial 3, 3) := by decide +kernel
theorem dX0_init_4 : decode cX0_init 4 = .ok (.aload_n 0, 1) := by decide +kernel
theorem dX0_init_5 : decode cX0_init 5 = .ok (.iload_n 1, 1) := by decide +kernel
theorem dX0_init_6 : decode cX0_init 6 = .ok (.putfield 9, 3) := by decide +kernel
theorem dX0_init_9 : decode cX0_init 9 = .ok (.aload_n 0, 1) := by decide +kernel
theorem dX0_init_10 : decode cX0_init 10 = .ok (.iload_n 2, 1) := by decide +kernel
theorem dX0_init_11 : decode cX0_init 11 = .ok (.putfield 15, 3) := by decide +kernel
theorem dX0_init_14 : decode cX0_init 14 = .ok (.aload_n 0, 1) := by decide +kernel
theorem dX0_init_15 : decode cX0_init 15 = .ok (.iconst (-1), 1) := by decide +kernel
theorem dX0_init_16 : decode cX0_init 16 = .ok (.putfield 18, 3) := by decide +kernel
theorem dX0_init_19 : decode cX0_init 19 = .ok (.aload_n 0, 1) := by decide +kernel
theorem dX0_init_20 : decode cX0_init 20 = .ok (.bipush 24, 2) := by decide +kernel
theorem dX0_init_22 : decode cX0_init 22 = .ok (.newarray .int, 2) := by decide +kernel
theorem dX0_init_24 : decode cX0_init 24 = .ok (.putfield 21, 3) := by decide +kernel
theorem dX0_init_27 : decode cX0_init 27 = .ok (.iconst 0, 1) := by decide +kernel
theorem dX0_init_28 : decode cX0_init 28 = .ok (.istore_n 3, 1) := by decide +kernel
theorem dX0_init_29 : decode cX0_init 29 = .ok (.iload_n 3, 1) := by decide +kernel
theorem dX0_init_30 : decode cX0_init 30 = .ok (.aload_n 0, 1) := by decide +kernel
theorem dX0_init_31 : decode cX0_init 31 = .ok (.getfield 21, 3) := by decide +kernel
theorem dX0_init_34 : decode cX0_init 34 = .ok (.arraylength, 1) := by decide +kernel
theorem dX0_init_35 : decode cX0_init 35 = .ok (.if_icmp .ge 17, 3) := by decide +kernel
theorem dX0_init_38 : decode cX0_init 38 = .ok (.aload_n 0, 1) := by decide +kernel
theorem dX0_init_39 : decode cX0_init 39 = .ok (.getfield 21, 3) := by decide +kernel
theorem dX0_init_42 : decode cX0_init 42 = .ok (.iload_n 3, 1) := by decide +kernel
theorem dX0_init_43 : decode cX0_init 43 = .ok (.bipush (-2), 2) := by decide +kernel
theorem dX0_init_45 : decode cX0_init 45 = .ok (.iastore, 1) := by decide +kernel
theorem dX0_init_46 : decode cX0_init 46 = .ok (.iinc 3 1, 3) := by decide +kernel
theorem dX0_init_49 : decode cX0_init 49 = .ok (.goto (-20), 3) := by decide +kernel
theorem dX0_init_52 : decode cX0_init 52 = .ok (.return_, 1) := by decide +kernel
theorem dX1_init_0 : decode cX1_init 0 = .ok (.aload_n 0, 1) := by decide +kernel
theorem dX1_init_1 : decode cX1_init 1 = .ok (.invokespecial 3, 3) := by decide +kernel
theorem dX1_init_4 : decode cX1_init 4 = .ok (.aload_n 0, 1) := by decide +kernel
theorem dX1_init_5 : decode cX1_init 5 = .ok (.iconst 3, 1) := by decide +kernel
theorem dX1_init_6 : decode cX1_init 6 = .ok (.anewarray 9, 3) := by decide +kernel
theorem dX1_init_9 : decode cX1_init 9 = .ok (.putfield 11, 3) := by decide +kernel
theorem dX1_init_12 : decode cX1_init 12 = .ok (.iconst 0, 1) := by decide +kernel
theorem dX1_init_13 : decode cX1_init 13 = .ok (.istore_n 1, 1) := by decide +kernel
theorem dX1_init_14 : decode cX1_init 14 = .ok (.iload_n 1, 1) := by decide +kernel
theorem dX1_init_15 : decode cX1_init 15 = .ok (.aload_n 0, 1) := by decide +kernel
theorem dX1_init_16 : decode cX1_init 16 = .ok (.getfield 11, 3) := by decide +kernel
theorem dX1_init_19 : decode cX1_init 19 = .ok (.arraylength, 1) := by decide +kernel
theorem dX1_init_20 : decode cX1_init 20 = .ok (.if_icmp .ge 22, 3) := by decide +kernel
theorem dX1_init_23 : decode cX1_init 23 = .ok (.aload_n 0, 1) := by decide +kernel
theorem dX1_init_24 : decode cX1_init 24 = .ok (.getfield 11, 3) := by decide +kernel
theorem dX1_init_27 : decode cX1_init 27 = .ok (.iload_n 1, 1) := by decide +kernel
theorem dX1_init_28 : decode cX1_init 28 = .ok (.new 9, 3) := by decide +kernel
theorem dX1_init_31 : decode cX1_init 31 = .ok (.dup, 1) := by decide +kernel
theorem dX1_init_32 : decode cX1_init 32 = .ok (.invokespecial 17, 3) := by decide +kernel
theorem dX1_init_35 : decode cX1_init 35 = .ok (.aastore, 1) := by decide +kernel
theorem dX1_init_36 : decode cX1_init 36 = .ok (.iinc 1 1, 3) := by decide +kernel
theorem dX1_init_39 : decode cX1_init 39 = .ok (.goto (-25), 3) := by decide +kernel
theorem dX1_init_42 : decode cX1_init 42 = .ok (.aload_n 0, 1) := by decide +kernel
theorem dX1_init_43 : decode cX1_init 43 = .ok (.sipush 2197, 3) := by decide +kernel
theorem dX1_init_46 : decode cX1_init 46 = .ok (.newarray .boolean, 2) := by decide +kernel
theorem dX1_init_48 : decode cX1_init 48 = .ok (.putfield 18, 3) := by decide +kernel
theorem dX1_init_51 : decode cX1_init 51 = .ok (.return_, 1) := by decide +kernel
theorem dX5_init_0 : decode cX5_init 0 = .ok (.aload_n 0, 1) := by decide +kernel
theorem dX5_init_1 : decode cX5_init 1 = .ok (.invokespecial 3, 3) := by decide +kernel
theorem dX5_init_4 : decode cX5_init 4 = .ok (.aload_n 0, 1) := by decide +kernel
theorem dX5_init_5 : decode cX5_init 5 = .ok (.iload_n 1, 1) := by decide +kernel
theorem dX5_init_6 : decode cX5_init 6 = .ok (.putfield 9, 3) := by decide +kernel
theorem dX5_init_9 : decode cX5_init 9 = .ok (.aload_n 0, 1) := by decide +kernel
theorem dX5_init_10 : decode cX5_init 10 = .ok (.iload_n 2, 1) := by decide +kernel
theorem dX5_init_11 : decode cX5_init 11 = .ok (.putfield 15, 3) := by decide +kernel
theorem dX5_init_14 : decode cX5_init 14 = .ok (.aload_n 0, 1) := by decide +kernel
theorem dX5_init_15 : decode cX5_init 15 = .ok (.iconst 3, 1) := by decide +kernel
theorem dX5_init_16 : decode cX5_init 16 = .ok (.anewarray 18, 3) := by decide +kernel
theorem dX5_init_19 : decode cX5_init 19 = .ok (.putfield 20, 3) := by decide +kernel
theorem dX5_init_22 : decode cX5_init 22 = .ok (.return_, 1) := by decide +kernel
theorem dX6_init_0 : decode cX6_init 0 = .ok (.aload_n 0, 1) := by decide +kernel
theorem dX6_init_1 : decode cX6_init 1 = .ok (.invokespecial 3, 3) := by decide +kernel
theorem dX6_init_4 : decode cX6_init 4 = .ok (.aload_n 0, 1) := by decide +kernel
theorem dX6_init_5 : decode cX6_init 5 = .ok (.bipush 13, 2) := by decide +kernel
theorem dX6_init_7 : decode cX6_init 7 = .ok (.newarray .int, 2) := by decide +kernel
theorem dX6_init_9 : decode cX6_init 9 = .ok (.putfield 9, 3) := by decide +kernel
theorem dX6_init_12 : decode cX6_init 12 = .ok (.aload_n 0, 1) := by decide +kernel
theorem dX6_init_13 : decode cX6_init 13 = .ok (.bipush 13, 2) := by decide +kernel
theorem dX6_init_15 : decode cX6_init 15 = .ok (.newarray .int, 2) := by decide +kernel
theorem dX6_init_17 : decode cX6_init 17 = .ok (.putfield 15, 3) := by decide +kernel
theorem dX6_init_20 : decode cX6_init 20 = .ok (.aload_n 0, 1) := by decide +kernel
theorem dX6_init_21 : decode cX6_init 21 = .ok (.bipush 13, 2) := by decide +kernel
theorem dX6_init_23 : decode cX6_init 23 = .ok (.newarray .long, 2) := by decide +kernel
theorem dX6_init_25 : decode cX6_init 25 = .ok (.putfield 18, 3) := by decide +kernel
theorem dX6_init_28 : decode cX6_init 28 = .ok (.aload_n 0, 1) := by decide +kernel
theorem dX6_init_29 : decode cX6_init 29 = .ok (.bipush 13, 2) := by decide +kernel
theorem dX6_init_31 : decode cX6_init 31 = .ok (.newarray .long, 2) := by decide +kernel
theorem dX6_init_33 : decode cX6_init 33 = .ok (.putfield 22, 3) := by decide +kernel
theorem dX6_init_36 : decode cX6_init 36 = .ok (.return_, 1) := by decide +kernel
theorem dX7_init_0 : decode cX7_init 0 = .ok (.aload_n 0, 1) := by decide +kernel
theorem dX7_init_1 : decode cX7_init 1 = .ok (.invokespecial 3, 3) := by decide +kernel
theorem dX7_init_4 : decode cX7_init 4 = .ok (.aload_n 0, 1) := by decide +kernel
theorem dX7_init_5 : decode cX7_init 5 = .ok (.bipush 8, 2) := by decide +kernel
theorem dX7_init_7 : decode cX7_init 7 = .ok (.newarray .int, 2) := by decide +kernel
theorem dX7_init_9 : decode cX7_init 9 = .ok (.putfield 9, 3) := by decide +kernel
theorem dX7_init_12 : decode cX7_init 12 = .ok (.aload_n 0, 1) := by decide +kernel
theorem dX7_init_13 : decode cX7_init 13 = .ok (.bipush 24, 2) := by decide +kernel
theorem dX7_init_15 : decode cX7_init 15 = .ok (.anewarray 13, 3) := by decide +kernel
theorem dX7_init_18 : decode cX7_init 18 = .ok (.putfield 15, 3) := by decide +kernel
theorem dX7_init_21 : decode cX7_init 21 = .ok (.aload_n 0, 1) := by decide +kernel
theorem dX7_init_22 : decode cX7_init 22 = .ok (.iconst 4, 1) := by decide +kernel
theorem dX7_init_23 : decode cX7_init 23 = .ok (.anewarray 19, 3) := by decide +kernel
theorem dX7_init_26 : decode cX7_init 26 = .ok (.putfield 21, 3) := by decide +kernel
theorem dX7_init_29 : decode cX7_init 29 = .ok (.aload_n 0, 1) := by decide +kernel
theorem dX7_init_30 : decode cX7_init 30 = .ok (.bipush 12, 2) := by decide +kernel
theorem dX7_init_32 : decode cX7_init 32 = .ok (.anewarray 25, 3) := by decide +kernel
theorem dX7_init_35 : decode cX7_init 35 = .ok (.putfield 27, 3) := by decide +kernel
theorem dX7_init_38 : decode cX7_init 38 = .ok (.aload_n 0, 1) := by decide +kernel
theorem dX7_init_39 : decode cX7_init 39 = .ok (.bipush 40, 2) := by decide +kernel
theorem dX7_init_41 : decode cX7_init 41 = .ok (.anewarray 31, 3) := by decide +kernel
theorem dX7_init_44 : decode cX7_init 44 = .ok (.putfield 33, 3) := by decide +kernel
theorem dX7_init_47 : decode cX7_init 47 = .ok (.aload_n 0, 1) := by decide +kernel
theorem dX7_init_48 : decode cX7_init 48 = .ok (.new 37, 3) := by decide +kernel
theorem dX7_init_51 : decode cX7_init 51 = .ok (.dup, 1) := by decide +kernel
theorem dX7_init_52 : decode cX7_init 52 = .ok (.invokespecial 39, 3) := by decide +kernel
theorem dX7_init_55 : decode cX7_init 55 = .ok (.putfield 40, 3) := by decide +kernel
theorem dX7_init_58 : decode cX7_init 58 = .ok (.return_, 1) := by decide +kernel
theorem dX7_panel_0 : decode cX7_panel 0 = .ok (.aload_n 0, 1) := by decide +kernel
theorem dX7_panel_1 : decode cX7_panel 1 = .ok (.getfield 44, 3) := by decide +kernel
theorem dX7_panel_4 : decode cX7_panel 4 = .ok (.ifCond .le 21, 3) := by decide +kernel
theorem dX7_panel_25 : decode cX7_panel 25 = .ok (.aload_n 0, 1) := by decide +kernel
theorem dX7_panel_26 : decode cX7_panel 26 = .ok (.getfield 44, 3) := by decide +kernel
theorem dX7_panel_29 : decode cX7_panel 29 = .ok (.istore_n 2, 1) := by decide +kernel
theorem dX7_panel_30 : decode cX7_panel 30 = .ok (.iload_n 2, 1) := by decide +kernel
theorem dX7_panel_31 : decode cX7_panel 31 = .ok (.ifCond .lt 12, 3) := by decide +kernel
theorem dX7_panel_34 : decode cX7_panel 34 = .ok (.iload_n 2, 1) := by decide +kernel
theorem dX7_panel_35 : decode cX7_panel 35 = .ok (.aload_n 0, 1) := by decide +kernel
theorem dX7_panel_36 : decode cX7_panel 36 = .ok (.getfield 9, 3) := by decide +kernel
theorem dX7_panel_39 : decode cX7_panel 39 = .ok (.arraylength, 1) := by decide +kernel
theorem dX7_panel_40 : decode cX7_panel 40 = .ok (.if_icmp .lt 13, 3) := by decide +kernel
theorem dX7_panel_53 : decode cX7_panel 53 = .ok (.aload_n 0, 1) := by decide +kernel
theorem dX7_panel_54 : decode cX7_panel 54 = .ok (.getfield 9, 3) := by decide +kernel
theorem dX7_panel_57 : decode cX7_panel 57 = .ok (.iload_n 2, 1) := by decide +kernel
theorem dX7_panel_58 : decode cX7_panel 58 = .ok (.iload_n 2, 1) := by decide +kernel
theorem dX7_panel_59 : decode cX7_panel 59 = .ok (.ifCond .ne 7, 3) := by decide +kernel
theorem dX7_panel_62 : decode cX7_panel 62 = .ok (.iconst (-1), 1) := by decide +kernel
theorem dX7_panel_63 : decode cX7_panel 63 = .ok (.goto 4, 3) := by decide +kernel
theorem dX7_panel_67 : decode cX7_panel 67 = .ok (.iastore, 1) := by decide +kernel
theorem dX7_panel_68 : decode cX7_panel 68 = .ok (.aload_n 0, 1) := by decide +kernel
theorem dX7_panel_69 : decode cX7_panel 69 = .ok (.iload_n 2, 1) := by decide +kernel
theorem dX7_panel_70 : decode cX7_panel 70 = .ok (.iconst 1, 1) := by decide +kernel
theorem dX7_panel_71 : decode cX7_panel 71 = .ok (.iadd, 1) := by decide +kernel
theorem dX7_panel_72 : decode cX7_panel 72 = .ok (.putfield 44, 3) := by decide +kernel
theorem dX7_panel_75 : decode cX7_panel 75 = .ok (.iload_n 2, 1) := by decide +kernel
theorem dX7_panel_76 : decode cX7_panel 76 = .ok (.ireturn, 1) := by decide +kernel
theorem dX7_spot_0 : decode cX7_spot 0 = .ok (.aload_n 0, 1) := by decide +kernel
theorem dX7_spot_1 : decode cX7_spot 1 = .ok (.iload_n 1, 1) := by decide +kernel
theorem dX7_spot_2 : decode cX7_spot 2 = .ok (.invokevirtual 48, 3) := by decide +kernel
theorem dX7_spot_5 : decode cX7_spot 5 = .ok (.ifCond .eq 11, 3) := by decide +kernel
theorem dX7_spot_16 : decode cX7_spot 16 = .ok (.new 52, 3) := by decide +kernel
theorem dX7_spot_19 : decode cX7_spot 19 = .ok (.dup, 1) := by decide +kernel
theorem dX7_spot_20 : decode cX7_spot 20 = .ok (.ldc 54, 2) := by decide +kernel
theorem dX7_spot_22 : decode cX7_spot 22 = .ok (.invokespecial 56, 3) := by decide +kernel
theorem dX7_spot_25 : decode cX7_spot 25 = .ok (.athrow, 1) := by decide +kernel
theorem dX7_spots_0 : decode cX7_spots 0 = .ok (.iload_n 1, 1) := by decide +kernel
theorem dX7_spots_1 : decode cX7_spots 1 = .ok (.invokestatic 89, 3) := by decide +kernel
theorem dX7_spots_4 : decode cX7_spots 4 = .ok (.iconst 0, 1) := by decide +kernel
theorem dX7_spots_5 : decode cX7_spots 5 = .ok (.istore_n 2, 1) := by decide +kernel
theorem dX7_spots_6 : decode cX7_spots 6 = .ok (.aload_n 0, 1) := by decide +kernel
theorem dX7_spots_7 : decode cX7_spots 7 = .ok (.getfield 15, 3) := by decide +kernel
theorem dX7_spots_10 : decode cX7_spots 10 = .ok (.astore_n 3, 1) := by decide +kernel
theorem dX7_spots_11 : decode cX7_spots 11 = .ok (.aload_n 3, 1) := by decide +kernel
theorem dX7_spots_12 : decode cX7_spots 12 = .ok (.arraylength, 1) := by decide +kernel
theorem dX7_spots_13 : decode cX7_spots 13 = .ok (.istore 4, 2) := by decide +kernel
theorem dX7_spots_15 : decode cX7_spots 15 = .ok (.iconst 0, 1) := by decide +kernel
theorem dX7_spots_16 : decode cX7_spots 16 = .ok (.istore 5, 2) := by decide +kernel
theorem dX7_spots_18 : decode cX7_spots 18 = .ok (.iload 5, 2) := by decide +kernel
theorem dX7_spots_20 : decode cX7_spots 20 = .ok (.iload 4, 2) := by decide +kernel
theorem dX7_spots_22 : decode cX7_spots 22 = .ok (.if_icmp .ge 32, 3) := by decide +kernel
theorem dX7_spots_25 : decode cX7_spots 25 = .ok (.aload_n 3, 1) := by decide +kernel
theorem dX7_spots_26 : decode cX7_spots 26 = .ok (.iload 5, 2) := by decide +kernel
theorem dX7_spots_28 : decode cX7_spots 28 = .ok (.aaload, 1) := by decide +kernel
theorem dX7_spots_29 : decode cX7_spots 29 = .ok (.astore 6, 2) := by decide +kernel
theorem dX7_spots_31 : decode cX7_spots 31 = .ok (.aload 6, 2) := by decide +kernel
theorem dX7_spots_33 : decode cX7_spots 33 = .ok (.ifnull 15, 3) := by decide +kernel
theorem dX7_spots_48 : decode cX7_spots 48 = .ok (.iinc 5 1, 3) := by decide +kernel
theorem dX7_spots_51 : decode cX7_spots 51 = .ok (.goto (-33), 3) := by decide +kernel
theorem dX7_spots_54 : decode cX7_spots 54 = .ok (.iload_n 2, 1) := by decide +kernel
theorem dX7_spots_55 : decode cX7_spots 55 = .ok (.ireturn, 1) := by decide +kernel
theorem dX7_isHeld_0 : decode cX7_isHeld 0 = .ok (.iload_n 1, 1) := by decide +kernel
theorem dX7_isHeld_1 : decode cX7_isHeld 1 = .ok (.invokestatic 89, 3) := by decide +kernel
theorem dX7_isHeld_4 : decode cX7_isHeld 4 = .ok (.iconst 1, 1) := by decide +kernel
theorem dX7_isHeld_5 : decode cX7_isHeld 5 = .ok (.istore_n 2, 1) := by decide +kernel
theorem dX7_isHeld_6 : decode cX7_isHeld 6 = .ok (.iload_n 2, 1) := by decide +kernel
theorem dX7_isHeld_7 : decode cX7_isHeld 7 = .ok (.aload_n 0, 1) := by decide +kernel
theorem dX7_isHeld_8 : decode cX7_isHeld 8 = .ok (.getfield 44, 3) := by decide +kernel
theorem dX7_isHeld_11 : decode cX7_isHeld 11 = .ok (.if_icmp .ge 20, 3) := by decide +kernel
theorem dX7_isHeld_31 : decode cX7_isHeld 31 = .ok (.iconst 1, 1) := by decide +kernel
theorem dX7_isHeld_32 : decode cX7_isHeld 32 = .ok (.ireturn, 1) := by decide +kernel
theorem dX7_isPanel_0 : decode cX7_isPanel 0 = .ok (.iload_n 1, 1) := by decide +kernel
theorem dX7_isPanel_1 : decode cX7_isPanel 1 = .ok (.ifCond .lt 24, 3) := by decide +kernel
theorem dX7_isPanel_4 : decode cX7_isPanel 4 = .ok (.iload_n 1, 1) := by decide +kernel
theorem dX7_isPanel_5 : decode cX7_isPanel 5 = .ok (.aload_n 0, 1) := by decide +kernel
theorem dX7_isPanel_6 : decode cX7_isPanel 6 = .ok (.getfield 44, 3) := by decide +kernel
theorem dX7_isPanel_9 : decode cX7_isPanel 9 = .ok (.if_icmp .ge 16, 3) := by decide +kernel
theorem dX7_isPanel_25 : decode cX7_isPanel 25 = .ok (.iconst 0, 1) := by decide +kernel
theorem dX7_isPanel_26 : decode cX7_isPanel 26 = .ok (.ireturn, 1) := by decide +kernel
theorem dX7_station_0 : decode cX7_station 0 = .ok (.aload_n 0, 1) := by decide +kernel
theorem dX7_station_1 : decode cX7_station 1 = .ok (.getfield 107, 3) := by decide +kernel
theorem dX7_station_4 : decode cX7_station 4 = .ok (.istore_n 1, 1) := by decide +kernel
theorem dX7_station_5 : decode cX7_station 5 = .ok (.iload_n 1, 1) := by decide +kernel
theorem dX7_station_6 : decode cX7_station 6 = .ok (.ifCond .lt 12, 3) := by decide +kernel
theorem dX7_station_9 : decode cX7_station 9 = .ok (.iload_n 1, 1) := by decide +kernel
theorem dX7_station_10 : decode cX7_station 10 = .ok (.aload_n 0, 1) := by decide +kernel
theorem dX7_station_11 : decode cX7_station 11 = .ok (.getfield 21, 3) := by decide +kernel
theorem dX7_station_14 : decode cX7_station 14 = .ok (.arraylength, 1) := by decide +kernel
theorem dX7_station_15 : decode cX7_station 15 = .ok (.if_icmp .lt 13, 3) := by decide +kernel
theorem dX7_station_28 : decode cX7_station 28 = .ok (.aload_n 0, 1) := by decide +kernel
theorem dX7_station_29 : decode cX7_station 29 = .ok (.getfield 21, 3) := by decide +kernel
theorem dX7_station_32 : decode cX7_station 32 = .ok (.iload_n 1, 1) := by decide +kernel
theorem dX7_station_33 : decode cX7_station 33 = .ok (.new 19, 3) := by decide +kernel
theorem dX7_station_36 : decode cX7_station 36 = .ok (.dup, 1) := by decide +kernel
theorem dX7_station_37 : decode cX7_station 37 = .ok (.iload_n 1, 1) := by decide +kernel
theorem dX7_station_38 : decode cX7_station 38 = .ok (.aload_n 0, 1) := by decide +kernel
theorem dX7_station_39 : decode cX7_station 39 = .ok (.getfield 112, 3) := by decide +kernel
theorem dX7_station_42 : decode cX7_station 42 = .ok (.invokespecial 115, 3) := by decide +kernel
theorem dX7_station_45 : decode cX7_station 45 = .ok (.aastore, 1) := by decide +kernel
theorem dX7_station_46 : decode cX7_station 46 = .ok (.aload_n 0, 1) := by decide +kernel
theorem dX7_station_47 : decode cX7_station 47 = .ok (.iload_n 1, 1) := by decide +kernel
theorem dX7_station_48 : decode cX7_station 48 = .ok (.iconst 1, 1) := by decide +kernel
theorem dX7_station_49 : decode cX7_station 49 = .ok (.iadd, 1) := by decide +kernel
theorem dX7_station_50 : decode cX7_station 50 = .ok (.putfield 107, 3) := by decide +kernel
theorem dX7_station_53 : decode cX7_station 53 = .ok (.iload_n 1, 1) := by decide +kernel
theorem dX7_station_54 : decode cX7_station 54 = .ok (.ireturn, 1) := by decide +kernel
theorem dX7_robot_0 : decode cX7_robot 0 = .ok (.aload_n 0, 1) := by decide +kernel
theorem dX7_robot_1 : decode cX7_robot 1 = .ok (.iload_n 1, 1) := by decide +kernel
theorem dX7_robot_2 : decode cX7_robot 2 = .ok (.invokevirtual 118, 3) := by decide +kernel
theorem dX7_reaches_0 : decode cX7_reaches 0 = .ok (.aload_n 0, 1) := by decide +kernel
theorem dX7_reaches_1 : decode cX7_reaches 1 = .ok (.iload_n 1, 1) := by decide +kernel
theorem dX7_reaches_2 : decode cX7_reaches 2 = .ok (.invokevirtual 143, 3) := by decide +kernel
theorem dX7_swept_0 : decode cX7_swept 0 = .ok (.iload_n 1, 1) := by decide +kernel
theorem dX7_swept_1 : decode cX7_swept 1 = .ok (.invokestatic 147, 3) := by decide +kernel
theorem dX7_swept_4 : decode cX7_swept 4 = .ok (.iload_n 2, 1) := by decide +kernel
theorem dX7_swept_5 : decode cX7_swept 5 = .ok (.invokestatic 147, 3) := by decide +kernel
theorem dX7_swept_8 : decode cX7_swept 8 = .ok (.iload_n 1, 1) := by decide +kernel
theorem dX7_swept_9 : decode cX7_swept 9 = .ok (.invokestatic 153, 3) := by decide +kernel
theorem dX7_swept_12 : decode cX7_swept 12 = .ok (.iload_n 2, 1) := by decide +kernel
theorem dX7_swept_13 : decode cX7_swept 13 = .ok (.invokestatic 153, 3) := by decide +kernel
theorem dX7_swept_16 : decode cX7_swept 16 = .ok (.invokestatic 157, 3) := by decide +kernel
theorem dX7_swept_19 : decode cX7_swept 19 = .ok (.iload_n 1, 1) := by decide +kernel
theorem dX7_swept_20 : decode cX7_swept 20 = .ok (.invokestatic 160, 3) := by decide +kernel
theorem dX7_swept_23 : decode cX7_swept 23 = .ok (.iload_n 2, 1) := by decide +kernel
theorem dX7_swept_24 : decode cX7_swept 24 = .ok (.invokestatic 160, 3) := by decide +kernel
theorem dX7_swept_27 : decode cX7_swept 27 = .ok (.invokestatic 157, 3) := by decide +kernel
theorem dX7_swept_30 : decode cX7_swept 30 = .ok (.iadd, 1) := by decide +kernel
theorem dX7_swept_31 : decode cX7_swept 31 = .ok (.iconst 1, 1) := by decide +kernel
theorem dX7_swept_32 : decode cX7_swept 32 = .ok (.iadd, 1) := by decide +kernel
theorem dX7_swept_33 : decode cX7_swept 33 = .ok (.ireturn, 1) := by decide +kernel
theorem dX7_current_0 : decode cX7_current 0 = .ok (.aload_n 0, 1) := by decide +kernel
theorem dX7_current_1 : decode cX7_current 1 = .ok (.iload_n 1, 1) := by decide +kernel
theorem dX7_current_2 : decode cX7_current 2 = .ok (.invokevirtual 143, 3) := by decide +kernel
theorem dX7_isPlace_0 : decode cX7_isPlace 0 = .ok (.iload_n 0, 1) := by decide +kernel
theorem dX7_isPlace_1 : decode cX7_isPlace 1 = .ok (.ifCond .lt 25, 3) := by decide +kernel
theorem dX7_isPlace_4 : decode cX7_isPlace 4 = .ok (.iload_n 0, 1) := by decide +kernel
theorem dX7_isPlace_5 : decode cX7_isPlace 5 = .ok (.invokestatic 153, 3) := by decide +kernel
theorem dX7_isPlace_8 : decode cX7_isPlace 8 = .ok (.bipush 12, 2) := by decide +kernel
theorem dX7_isPlace_10 : decode cX7_isPlace 10 = .ok (.if_icmp .ge 16, 3) := by decide +kernel
theorem dX7_isPlace_13 : decode cX7_isPlace 13 = .ok (.iload_n 0, 1) := by decide +kernel
theorem dX7_isPlace_14 : decode cX7_isPlace 14 = .ok (.invokestatic 160, 3) := by decide +kernel
theorem dX7_isPlace_17 : decode cX7_isPlace 17 = .ok (.bipush 8, 2) := by decide +kernel
theorem dX7_isPlace_19 : decode cX7_isPlace 19 = .ok (.if_icmp .ge 7, 3) := by decide +kernel
theorem dX7_isPlace_22 : decode cX7_isPlace 22 = .ok (.iconst 1, 1) := by decide +kernel
theorem dX7_isPlace_23 : decode cX7_isPlace 23 = .ok (.goto 4, 3) := by decide +kernel
theorem dX7_isPlace_26 : decode cX7_isPlace 26 = .ok (.iconst 0, 1) := by decide +kernel
theorem dX7_isPlace_27 : decode cX7_isPlace 27 = .ok (.ireturn, 1) := by decide +kernel
theorem dX7_requirePlace_0 : decode cX7_requirePlace 0 = .ok (.iload_n 0, 1) := by decide +kernel
theorem dX7_requirePlace_1 : decode cX7_requirePlace 1 = .ok (.invokestatic 64, 3) := by decide +kernel
theorem dX7_requirePlace_4 : decode cX7_requirePlace 4 = .ok (.ifCond .ne 13, 3) := by decide +kernel
theorem dX7_requirePlace_7 : decode cX7_requirePlace 7 = .ok (.new 67, 3) := by decide +kernel
theorem dX7_requirePlace_10 : decode cX7_requirePlace 10 = .ok (.dup, 1) := by decide +kernel
theorem dX7_requirePlace_11 : decode cX7_requirePlace 11 = .ok (.ldc 168, 2) := by decide +kernel
theorem dX7_requirePlace_13 : decode cX7_requirePlace 13 = .ok (.invokespecial 71, 3) := by decide +kernel
theorem dX7_requirePlace_16 : decode cX7_requirePlace 16 = .ok (.athrow, 1) := by decide +kernel
theorem dX7_requirePlace_17 : decode cX7_requirePlace 17 = .ok (.return_, 1) := by decide +kernel
theorem dX7_xOf_0 : decode cX7_xOf 0 = .ok (.iload_n 0, 1) := by decide +kernel
theorem dX7_xOf_1 : decode cX7_xOf 1 = .ok (.bipush 10, 2) := by decide +kernel
theorem dX7_xOf_3 : decode cX7_xOf 3 = .ok (.idiv, 1) := by decide +kernel
theorem dX7_xOf_4 : decode cX7_xOf 4 = .ok (.ireturn, 1) := by decide +kernel
theorem dX7_yOf_0 : decode cX7_yOf 0 = .ok (.iload_n 0, 1) := by decide +kernel
theorem dX7_yOf_1 : decode cX7_yOf 1 = .ok (.bipush 10, 2) := by decide +kernel
theorem dX7_yOf_3 : decode cX7_yOf 3 = .ok (.irem, 1) := by decide +kernel
theorem dX7_yOf_4 : decode cX7_yOf 4 = .ok (.ireturn, 1) := by decide +kernel
theorem dX7_distance_0 : decode cX7_distance 0 = .ok (.iload_n 0, 1) := by decide +kernel
theorem dX7_distance_1 : decode cX7_distance 1 = .ok (.iload_n 1, 1) := by decide +kernel
theorem dX7_distance_2 : decode cX7_distance 2 = .ok (.if_icmp .ge 9, 3) := by decide +kernel
theorem dX7_distance_5 : decode cX7_distance 5 = .ok (.iload_n 1, 1) := by decide +kernel
theorem dX7_distance_6 : decode cX7_distance 6 = .ok (.iload_n 0, 1) := by decide +kernel
theorem dX7_distance_7 : decode cX7_distance 7 = .ok (.isub, 1) := by decide +kernel
theorem dX7_distance_8 : decode cX7_distance 8 = .ok (.goto 6, 3) := by decide +kernel
theorem dX7_distance_11 : decode cX7_distance 11 = .ok (.iload_n 0, 1) := by decide +kernel
theorem dX7_distance_12 : decode cX7_distance 12 = .ok (.iload_n 1, 1) := by decide +kernel
theorem dX7_distance_13 : decode cX7_distance 13 = .ok (.isub, 1) := by decide +kernel
theorem dX7_distance_14 : decode cX7_distance 14 = .ok (.ireturn, 1) := by decide +kernel
theorem dX7_requireVariant_0 : decode cX7_requireVariant 0 = .ok (.iload_n 0, 1) := by decide +kernel
theorem dX7_requireVariant_1 : decode cX7_requireVariant 1 = .ok (.ifCond .lt 8, 3) := by decide +kernel
theorem dX7_requireVariant_4 : decode cX7_requireVariant 4 = .ok (.iload_n 0, 1) := by decide +kernel
theorem dX7_requireVariant_5 : decode cX7_requireVariant 5 = .ok (.iconst 4, 1) := by decide +kernel
theorem dX7_requireVariant_6 : decode cX7_requireVariant 6 = .ok (.if_icmp .lt 13, 3) := by decide +kernel
theorem dX7_requireVariant_9 : decode cX7_requireVariant 9 = .ok (.new 52, 3) := by decide +kernel
theorem dX7_requireVariant_12 : decode cX7_requireVariant 12 = .ok (.dup, 1) := by decide +kernel
theorem dX7_requireVariant_13 : decode cX7_requireVariant 13 = .ok (.ldc 170, 2) := by decide +kernel
theorem dX7_requireVariant_15 : decode cX7_requireVariant 15 = .ok (.invokespecial 56, 3) := by decide +kernel
theorem dX7_requireVariant_18 : decode cX7_requireVariant 18 = .ok (.athrow, 1) := by decide +kernel
theorem dX7_requireVariant_19 : decode cX7_requireVariant 19 = .ok (.return_, 1) := by decide +kernel
theorem dX7_robotAt_0 : decode cX7_robotAt 0 = .ok (.iload_n 1, 1) := by decide +kernel
theorem dX7_robotAt_1 : decode cX7_robotAt 1 = .ok (.ifCond .lt 21, 3) := by decide +kernel
theorem dX7_robotAt_4 : decode cX7_robotAt 4 = .ok (.iload_n 1, 1) := by decide +kernel
theorem dX7_robotAt_5 : decode cX7_robotAt 5 = .ok (.aload_n 0, 1) := by decide +kernel
theorem dX7_robotAt_6 : decode cX7_robotAt 6 = .ok (.getfield 27, 3) := by decide +kernel
theorem dX7_robotAt_9 : decode cX7_robotAt 9 = .ok (.arraylength, 1) := by decide +kernel
theorem dX7_robotAt_10 : decode cX7_robotAt 10 = .ok (.if_icmp .ge 12, 3) := by decide +kernel
theorem dX7_robotAt_13 : decode cX7_robotAt 13 = .ok (.aload_n 0, 1) := by decide +kernel
theorem dX7_robotAt_14 : decode cX7_robotAt 14 = .ok (.getfield 27, 3) := by decide +kernel
theorem dX7_robotAt_17 : decode cX7_robotAt 17 = .ok (.iload_n 1, 1) := by decide +kernel
theorem dX7_robotAt_18 : decode cX7_robotAt 18 = .ok (.aaload, 1) := by decide +kernel
theorem dX7_robotAt_19 : decode cX7_robotAt 19 = .ok (.goto 4, 3) := by decide +kernel
theorem dX7_robotAt_22 : decode cX7_robotAt 22 = .ok (.aconst_null, 1) := by decide +kernel
theorem dX7_robotAt_23 : decode cX7_robotAt 23 = .ok (.areturn, 1) := by decide +kernel
theorem dX7_stationAt_0 : decode cX7_stationAt 0 = .ok (.iload_n 1, 1) := by decide +kernel
theorem dX7_stationAt_1 : decode cX7_stationAt 1 = .ok (.ifCond .lt 21, 3) := by decide +kernel
theorem dX7_stationAt_4 : decode cX7_stationAt 4 = .ok (.iload_n 1, 1) := by decide +kernel
theorem dX7_stationAt_5 : decode cX7_stationAt 5 = .ok (.aload_n 0, 1) := by decide +kernel
theorem dX7_stationAt_6 : decode cX7_stationAt 6 = .ok (.getfield 21, 3) := by decide +kernel
theorem dX7_stationAt_9 : decode cX7_stationAt 9 = .ok (.arraylength, 1) := by decide +kernel
theorem dX7_stationAt_10 : decode cX7_stationAt 10 = .ok (.if_icmp .ge 12, 3) := by decide +kernel
theorem dX7_stationAt_13 : decode cX7_stationAt 13 = .ok (.aload_n 0, 1) := by decide +kernel
theorem dX7_stationAt_14 : decode cX7_stationAt 14 = .ok (.getfield 21, 3) := by decide +kernel
theorem dX7_stationAt_17 : decode cX7_stationAt 17 = .ok (.iload_n 1, 1) := by decide +kernel
theorem dX7_stationAt_18 : decode cX7_stationAt 18 = .ok (.aaload, 1) := by decide +kernel
theorem dX7_stationAt_19 : decode cX7_stationAt 19 = .ok (.goto 4, 3) := by decide +kernel
theorem dX7_stationAt_22 : decode cX7_stationAt 22 = .ok (.aconst_null, 1) := by decide +kernel
theorem dX7_stationAt_23 : decode cX7_stationAt 23 = .ok (.areturn, 1) := by decide +kernel
theorem dX7_bodyAt_0 : decode cX7_bodyAt 0 = .ok (.iload_n 1, 1) := by decide +kernel
theorem dX7_bodyAt_1 : decode cX7_bodyAt 1 = .ok (.ifCond .lt 21, 3) := by decide +kernel
theorem dX7_bodyAt_4 : decode cX7_bodyAt 4 = .ok (.iload_n 1, 1) := by decide +kernel
theorem dX7_bodyAt_5 : decode cX7_bodyAt 5 = .ok (.aload_n 0, 1) := by decide +kernel
theorem dX7_bodyAt_6 : decode cX7_bodyAt 6 = .ok (.getfield 33, 3) := by decide +kernel
theorem dX7_bodyAt_9 : decode cX7_bodyAt 9 = .ok (.arraylength, 1) := by decide +kernel
theorem dX7_bodyAt_10 : decode cX7_bodyAt 10 = .ok (.if_icmp .ge 12, 3) := by decide +kernel
theorem dX7_bodyAt_13 : decode cX7_bodyAt 13 = .ok (.aload_n 0, 1) := by decide +kernel
theorem dX7_bodyAt_14 : decode cX7_bodyAt 14 = .ok (.getfield 33, 3) := by decide +kernel
theorem dX7_bodyAt_17 : decode cX7_bodyAt 17 = .ok (.iload_n 1, 1) := by decide +kernel
theorem dX7_bodyAt_18 : decode cX7_bodyAt 18 = .ok (.aaload, 1) := by decide +kernel
theorem dX7_bodyAt_19 : decode cX7_bodyAt 19 = .ok (.goto 4, 3) := by decide +kernel
theorem dX7_bodyAt_22 : decode cX7_bodyAt 22 = .ok (.aconst_null, 1) := by decide +kernel
theorem dX7_bodyAt_23 : decode cX7_bodyAt 23 = .ok (.areturn, 1) := by decide +kernel
theorem dX7_requireRobot_0 : decode cX7_requireRobot 0 = .ok (.aload_n 0, 1) := by decide +kernel
theorem dX7_requireRobot_1 : decode cX7_requireRobot 1 = .ok (.iload_n 1, 1) := by decide +kernel
theorem dX7_requireRobot_2 : decode cX7_requireRobot 2 = .ok (.invokevirtual 178, 3) := by decide +kernel
theorem dX7_requireRobot_5 : decode cX7_requireRobot 5 = .ok (.astore_n 2, 1) := by decide +kernel
theorem dX7_requireRobot_6 : decode cX7_requireRobot 6 = .ok (.aload_n 2, 1) := by decide +kernel
theorem dX7_requireRobot_7 : decode cX7_requireRobot 7 = .ok (.ifnonnull 13, 3) := by decide +kernel
theorem dX7_requireRobot_10 : decode cX7_requireRobot 10 = .ok (.new 52, 3) := by decide +kernel
theorem dX7_requireRobot_13 : decode cX7_requireRobot 13 = .ok (.dup, 1) := by decide +kernel
theorem dX7_requireRobot_14 : decode cX7_requireRobot 14 = .ok (.ldc 181, 2) := by decide +kernel
theorem dX7_requireRobot_16 : decode cX7_requireRobot 16 = .ok (.invokespecial 56, 3) := by decide +kernel
theorem dX7_requireRobot_19 : decode cX7_requireRobot 19 = .ok (.athrow, 1) := by decide +kernel
theorem dX7_requireStation_0 : decode cX7_requireStation 0 = .ok (.aload_n 0, 1) := by decide +kernel
theorem dX7_requireStation_1 : decode cX7_requireStation 1 = .ok (.iload_n 1, 1) := by decide +kernel
theorem dX7_requireStation_2 : decode cX7_requireStation 2 = .ok (.invokevirtual 183, 3) := by decide +kernel
theorem dX7_requireStation_5 : decode cX7_requireStation 5 = .ok (.astore_n 2, 1) := by decide +kernel
theorem dX7_requireStation_6 : decode cX7_requireStation 6 = .ok (.aload_n 2, 1) := by decide +kernel
theorem dX7_requireStation_7 : decode cX7_requireStation 7 = .ok (.ifnonnull 13, 3) := by decide +kernel
theorem dX7_requireStation_10 : decode cX7_requireStation 10 = .ok (.new 52, 3) := by decide +kernel
theorem dX7_requireStation_13 : decode cX7_requireStation 13 = .ok (.dup, 1) := by decide +kernel
theorem dX7_requireStation_14 : decode cX7_requireStation 14 = .ok (.ldc 186, 2) := by decide +kernel
theorem dX7_requireStation_16 : decode cX7_requireStation 16 = .ok (.invokespecial 56, 3) := by decide +kernel
theorem dX7_requireStation_19 : decode cX7_requireStation 19 = .ok (.athrow, 1) := by decide +kernel
theorem dX7_requireBody_0 : decode cX7_requireBody 0 = .ok (.aload_n 0, 1) := by decide +kernel
theorem dX7_requireBody_1 : decode cX7_requireBody 1 = .ok (.iload_n 1, 1) := by decide +kernel
theorem dX7_requireBody_2 : decode cX7_requireBody 2 = .ok (.invokevirtual 188, 3) := by decide +kernel
theorem dX7_requireBody_5 : decode cX7_requireBody 5 = .ok (.astore_n 2, 1) := by decide +kernel
theorem dX7_requireBody_6 : decode cX7_requireBody 6 = .ok (.aload_n 2, 1) := by decide +kernel
theorem dX7_requireBody_7 : decode cX7_requireBody 7 = .ok (.ifnonnull 13, 3) := by decide +kernel
theorem dX7_requireBody_10 : decode cX7_requireBody 10 = .ok (.new 52, 3) := by decide +kernel
theorem dX7_requireBody_13 : decode cX7_requireBody 13 = .ok (.dup, 1) := by decide +kernel
theorem dX7_requireBody_14 : decode cX7_requireBody 14 = .ok (.ldc 192, 2) := by decide +kernel
theorem dX7_requireBody_16 : decode cX7_requireBody 16 = .ok (.invokespecial 56, 3) := by decide +kernel
theorem dX7_requireBody_19 : decode cX7_requireBody 19 = .ok (.athrow, 1) := by decide +kernel
theorem dX7_step_0 : decode cX7_step 0 = .ok (.aload_n 0, 1) := by decide +kernel
theorem dX7_step_1 : decode cX7_step 1 = .ok (.iload_n 1, 1) := by decide +kernel
theorem dX7_step_2 : decode cX7_step 2 = .ok (.iload_n 2, 1) := by decide +kernel
theorem dX7_step_3 : decode cX7_step 3 = .ok (.invokevirtual 194, 3) := by decide +kernel
theorem dX7_erase_0 : decode cX7_erase 0 = .ok (.aload_n 0, 1) := by decide +kernel
theorem dX7_erase_1 : decode cX7_erase 1 = .ok (.iload_n 1, 1) := by decide +kernel
theorem dX7_erase_2 : decode cX7_erase 2 = .ok (.iload_n 2, 1) := by decide +kernel
theorem dX7_erase_3 : decode cX7_erase 3 = .ok (.invokevirtual 194, 3) := by decide +kernel
theorem dX7_steps_0 : decode cX7_steps 0 = .ok (.aload_n 0, 1) := by decide +kernel
theorem dX7_steps_1 : decode cX7_steps 1 = .ok (.iload_n 1, 1) := by decide +kernel
theorem dX7_steps_2 : decode cX7_steps 2 = .ok (.iload_n 2, 1) := by decide +kernel
theorem dX7_steps_3 : decode cX7_steps 3 = .ok (.invokevirtual 194, 3) := by decide +kernel
theorem dX7_welds_0 : decode cX7_welds 0 = .ok (.aload_n 0, 1) := by decide +kernel
theorem dX7_welds_1 : decode cX7_welds 1 = .ok (.iload_n 1, 1) := by decide +kernel
theorem dX7_welds_2 : decode cX7_welds 2 = .ok (.iload_n 2, 1) := by decide +kernel
theorem dX7_welds_3 : decode cX7_welds 3 = .ok (.invokevirtual 194, 3) := by decide +kernel
theorem dX7_proof_0 : decode cX7_proof 0 = .ok (.aload_n 0, 1) := by decide +kernel
theorem dX7_proof_1 : decode cX7_proof 1 = .ok (.iload_n 1, 1) := by decide +kernel
theorem dX7_proof_2 : decode cX7_proof 2 = .ok (.iload_n 2, 1) := by decide +kernel
theorem dX7_proof_3 : decode cX7_proof 3 = .ok (.invokevirtual 224, 3) := by decide +kernel
theorem dX7_states_0 : decode cX7_states 0 = .ok (.aload_n 0, 1) := by decide +kernel
theorem dX7_states_1 : decode cX7_states 1 = .ok (.iload_n 1, 1) := by decide +kernel
theorem dX7_states_2 : decode cX7_states 2 = .ok (.iload_n 2, 1) := by decide +kernel
theorem dX7_states_3 : decode cX7_states 3 = .ok (.invokevirtual 224, 3) := by decide +kernel
theorem dX7_uncovered_0 : decode cX7_uncovered 0 = .ok (.iload_n 1, 1) := by decide +kernel
theorem dX7_uncovered_1 : decode cX7_uncovered 1 = .ok (.invokestatic 89, 3) := by decide +kernel
theorem dX7_uncovered_4 : decode cX7_uncovered 4 = .ok (.iconst 0, 1) := by decide +kernel
theorem dX7_uncovered_5 : decode cX7_uncovered 5 = .ok (.istore_n 2, 1) := by decide +kernel
theorem dX7_uncovered_6 : decode cX7_uncovered 6 = .ok (.aload_n 0, 1) := by decide +kernel
theorem dX7_uncovered_7 : decode cX7_uncovered 7 = .ok (.getfield 15, 3) := by decide +kernel
theorem dX7_uncovered_10 : decode cX7_uncovered 10 = .ok (.astore_n 3, 1) := by decide +kernel
theorem dX7_uncovered_11 : decode cX7_uncovered 11 = .ok (.aload_n 3, 1) := by decide +kernel
theorem dX7_uncovered_12 : decode cX7_uncovered 12 = .ok (.arraylength, 1) := by decide +kernel
theorem dX7_uncovered_13 : decode cX7_uncovered 13 = .ok (.istore 4, 2) := by decide +kernel
theorem dX7_uncovered_15 : decode cX7_uncovered 15 = .ok (.iconst 0, 1) := by decide +kernel
theorem dX7_uncovered_16 : decode cX7_uncovered 16 = .ok (.istore 5, 2) := by decide +kernel
theorem dX7_uncovered_18 : decode cX7_uncovered 18 = .ok (.iload 5, 2) := by decide +kernel
theorem dX7_uncovered_20 : decode cX7_uncovered 20 = .ok (.iload 4, 2) := by decide +kernel
theorem dX7_uncovered_22 : decode cX7_uncovered 22 = .ok (.if_icmp .ge 28, 3) := by decide +kernel
theorem dX7_uncovered_25 : decode cX7_uncovered 25 = .ok (.aload_n 3, 1) := by decide +kernel
theorem dX7_uncovered_26 : decode cX7_uncovered 26 = .ok (.iload 5, 2) := by decide +kernel
theorem dX7_uncovered_28 : decode cX7_uncovered 28 = .ok (.aaload, 1) := by decide +kernel
theorem dX7_uncovered_29 : decode cX7_uncovered 29 = .ok (.astore 6, 2) := by decide +kernel
theorem dX7_uncovered_31 : decode cX7_uncovered 31 = .ok (.aload_n 0, 1) := by decide +kernel
theorem dX7_uncovered_32 : decode cX7_uncovered 32 = .ok (.aload 6, 2) := by decide +kernel
theorem dX7_uncovered_34 : decode cX7_uncovered 34 = .ok (.iload_n 1, 1) := by decide +kernel
theorem dX7_uncovered_35 : decode cX7_uncovered 35 = .ok (.invokevirtual 239, 3) := by decide +kernel
theorem dX7_uncovered_38 : decode cX7_uncovered 38 = .ok (.ifCond .eq 6, 3) := by decide +kernel
theorem dX7_uncovered_44 : decode cX7_uncovered 44 = .ok (.iinc 5 1, 3) := by decide +kernel
theorem dX7_uncovered_47 : decode cX7_uncovered 47 = .ok (.goto (-29), 3) := by decide +kernel
theorem dX7_uncovered_50 : decode cX7_uncovered 50 = .ok (.iload_n 2, 1) := by decide +kernel
theorem dX7_uncovered_51 : decode cX7_uncovered 51 = .ok (.ireturn, 1) := by decide +kernel
theorem dX7_deal_0 : decode cX7_deal 0 = .ok (.iload_n 1, 1) := by decide +kernel
theorem dX7_deal_1 : decode cX7_deal 1 = .ok (.invokestatic 89, 3) := by decide +kernel
theorem dX7_deal_4 : decode cX7_deal 4 = .ok (.iconst 0, 1) := by decide +kernel
theorem dX7_deal_5 : decode cX7_deal 5 = .ok (.istore_n 2, 1) := by decide +kernel
theorem dX7_deal_6 : decode cX7_deal 6 = .ok (.aload_n 0, 1) := by decide +kernel
theorem dX7_deal_7 : decode cX7_deal 7 = .ok (.getfield 15, 3) := by decide +kernel
theorem dX7_deal_10 : decode cX7_deal 10 = .ok (.astore_n 3, 1) := by decide +kernel
theorem dX7_deal_11 : decode cX7_deal 11 = .ok (.aload_n 3, 1) := by decide +kernel
theorem dX7_deal_12 : decode cX7_deal 12 = .ok (.arraylength, 1) := by decide +kernel
theorem dX7_deal_13 : decode cX7_deal 13 = .ok (.istore 4, 2) := by decide +kernel
theorem dX7_deal_15 : decode cX7_deal 15 = .ok (.iconst 0, 1) := by decide +kernel
theorem dX7_deal_16 : decode cX7_deal 16 = .ok (.istore 5, 2) := by decide +kernel
theorem dX7_deal_18 : decode cX7_deal 18 = .ok (.iload 5, 2) := by decide +kernel
theorem dX7_deal_20 : decode cX7_deal 20 = .ok (.iload 4, 2) := by decide +kernel
theorem dX7_deal_22 : decode cX7_deal 22 = .ok (.if_icmp .ge 38, 3) := by decide +kernel
theorem dX7_deal_25 : decode cX7_deal 25 = .ok (.aload_n 3, 1) := by decide +kernel
theorem dX7_deal_26 : decode cX7_deal 26 = .ok (.iload 5, 2) := by decide +kernel
theorem dX7_deal_28 : decode cX7_deal 28 = .ok (.aaload, 1) := by decide +kernel
theorem dX7_deal_29 : decode cX7_deal 29 = .ok (.astore 6, 2) := by decide +kernel
theorem dX7_deal_31 : decode cX7_deal 31 = .ok (.aload_n 0, 1) := by decide +kernel
theorem dX7_deal_32 : decode cX7_deal 32 = .ok (.aload 6, 2) := by decide +kernel
theorem dX7_deal_34 : decode cX7_deal 34 = .ok (.iload_n 1, 1) := by decide +kernel
theorem dX7_deal_35 : decode cX7_deal 35 = .ok (.invokevirtual 239, 3) := by decide +kernel
theorem dX7_deal_38 : decode cX7_deal 38 = .ok (.ifCond .eq 16, 3) := by decide +kernel
theorem dX7_deal_54 : decode cX7_deal 54 = .ok (.iinc 5 1, 3) := by decide +kernel
theorem dX7_deal_57 : decode cX7_deal 57 = .ok (.goto (-39), 3) := by decide +kernel
theorem dX7_deal_60 : decode cX7_deal 60 = .ok (.iload_n 2, 1) := by decide +kernel
theorem dX7_deal_61 : decode cX7_deal 61 = .ok (.ireturn, 1) := by decide +kernel
theorem dX7_requireProgram_0 : decode cX7_requireProgram 0 = .ok (.aload_n 0, 1) := by decide +kernel
theorem dX7_requireProgram_1 : decode cX7_requireProgram 1 = .ok (.iload_n 1, 1) := by decide +kernel
theorem dX7_requireProgram_2 : decode cX7_requireProgram 2 = .ok (.invokevirtual 143, 3) := by decide +kernel
theorem dX7_explore_0 : decode cX7_explore 0 = .ok (.aload_n 0, 1) := by decide +kernel
theorem dX7_explore_1 : decode cX7_explore 1 = .ok (.iload_n 1, 1) := by decide +kernel
theorem dX7_explore_2 : decode cX7_explore 2 = .ok (.invokevirtual 118, 3) := by decide +kernel
theorem dX7_isUncovered_0 : decode cX7_isUncovered 0 = .ok (.aload_n 1, 1) := by decide +kernel
theorem dX7_isUncovered_1 : decode cX7_isUncovered 1 = .ok (.ifnull 11, 3) := by decide +kernel
theorem dX7_isUncovered_12 : decode cX7_isUncovered 12 = .ok (.iconst 0, 1) := by decide +kernel
theorem dX7_isUncovered_13 : decode cX7_isUncovered 13 = .ok (.ireturn, 1) := by decide +kernel
theorem dX7_order_0 : decode cX7_order 0 = .ok (.iload_n 1, 1) := by decide +kernel
theorem dX7_order_1 : decode cX7_order 1 = .ok (.invokestatic 89, 3) := by decide +kernel
theorem dX7_order_4 : decode cX7_order 4 = .ok (.aload_n 0, 1) := by decide +kernel
theorem dX7_order_5 : decode cX7_order 5 = .ok (.getfield 283, 3) := by decide +kernel
theorem dX7_order_8 : decode cX7_order 8 = .ok (.istore_n 2, 1) := by decide +kernel
theorem dX7_order_9 : decode cX7_order 9 = .ok (.iload_n 2, 1) := by decide +kernel
theorem dX7_order_10 : decode cX7_order 10 = .ok (.ifCond .lt 12, 3) := by decide +kernel
theorem dX7_order_13 : decode cX7_order 13 = .ok (.iload_n 2, 1) := by decide +kernel
theorem dX7_order_14 : decode cX7_order 14 = .ok (.aload_n 0, 1) := by decide +kernel
theorem dX7_order_15 : decode cX7_order 15 = .ok (.getfield 33, 3) := by decide +kernel
theorem dX7_order_18 : decode cX7_order 18 = .ok (.arraylength, 1) := by decide +kernel
theorem dX7_order_19 : decode cX7_order 19 = .ok (.if_icmp .lt 14, 3) := by decide +kernel
theorem dX7_order_33 : decode cX7_order 33 = .ok (.aload_n 0, 1) := by decide +kernel
theorem dX7_order_34 : decode cX7_order 34 = .ok (.getfield 33, 3) := by decide +kernel
theorem dX7_order_37 : decode cX7_order 37 = .ok (.iload_n 2, 1) := by decide +kernel
theorem dX7_order_38 : decode cX7_order 38 = .ok (.new 31, 3) := by decide +kernel
theorem dX7_order_41 : decode cX7_order 41 = .ok (.dup, 1) := by decide +kernel
theorem dX7_order_42 : decode cX7_order 42 = .ok (.iload_n 2, 1) := by decide +kernel
theorem dX7_order_43 : decode cX7_order 43 = .ok (.iload_n 1, 1) := by decide +kernel
theorem dX7_order_44 : decode cX7_order 44 = .ok (.invokespecial 288, 3) := by decide +kernel
theorem dX7_order_47 : decode cX7_order 47 = .ok (.aastore, 1) := by decide +kernel
theorem dX7_order_48 : decode cX7_order 48 = .ok (.aload_n 0, 1) := by decide +kernel
theorem dX7_order_49 : decode cX7_order 49 = .ok (.iload_n 2, 1) := by decide +kernel
theorem dX7_order_50 : decode cX7_order 50 = .ok (.iconst 1, 1) := by decide +kernel
theorem dX7_order_51 : decode cX7_order 51 = .ok (.iadd, 1) := by decide +kernel
theorem dX7_order_52 : decode cX7_order 52 = .ok (.putfield 283, 3) := by decide +kernel
theorem dX7_order_55 : decode cX7_order 55 = .ok (.iload_n 2, 1) := by decide +kernel
theorem dX7_order_56 : decode cX7_order 56 = .ok (.ireturn, 1) := by decide +kernel
theorem dX7_beat_0 : decode cX7_beat 0 = .ok (.aload_n 0, 1) := by decide +kernel
theorem dX7_beat_1 : decode cX7_beat 1 = .ok (.getfield 107, 3) := by decide +kernel
theorem dX7_beat_4 : decode cX7_beat 4 = .ok (.ifCond .ne 14, 3) := by decide +kernel
theorem dX7_beat_7 : decode cX7_beat 7 = .ok (.new 76, 3) := by decide +kernel
theorem dX7_beat_10 : decode cX7_beat 10 = .ok (.dup, 1) := by decide +kernel
theorem dX7_beat_11 : decode cX7_beat 11 = .ok (.ldc_w 289, 3) := by decide +kernel
theorem dX7_beat_14 : decode cX7_beat 14 = .ok (.invokespecial 80, 3) := by decide +kernel
theorem dX7_beat_17 : decode cX7_beat 17 = .ok (.athrow, 1) := by decide +kernel
theorem dX7_beats_0 : decode cX7_beats 0 = .ok (.aload_n 0, 1) := by decide +kernel
theorem dX7_beats_1 : decode cX7_beats 1 = .ok (.getfield 112, 3) := by decide +kernel
theorem dX7_beats_4 : decode cX7_beats 4 = .ok (.ireturn, 1) := by decide +kernel
theorem dX7_at_0 : decode cX7_at 0 = .ok (.aload_n 0, 1) := by decide +kernel
theorem dX7_at_1 : decode cX7_at 1 = .ok (.iload_n 1, 1) := by decide +kernel
theorem dX7_at_2 : decode cX7_at 2 = .ok (.invokevirtual 118, 3) := by decide +kernel
theorem dX7_where_0 : decode cX7_where 0 = .ok (.aload_n 0, 1) := by decide +kernel
theorem dX7_where_1 : decode cX7_where 1 = .ok (.iload_n 1, 1) := by decide +kernel
theorem dX7_where_2 : decode cX7_where 2 = .ok (.invokevirtual 308, 3) := by decide +kernel
theorem dX7_waiting_0 : decode cX7_waiting 0 = .ok (.aload_n 0, 1) := by decide +kernel
theorem dX7_waiting_1 : decode cX7_waiting 1 = .ok (.iconst (-1), 1) := by decide +kernel
theorem dX7_waiting_2 : decode cX7_waiting 2 = .ok (.invokevirtual 314, 3) := by decide +kernel
theorem dX7_waiting_5 : decode cX7_waiting 5 = .ok (.ireturn, 1) := by decide +kernel
theorem dX7_stand_0 : decode cX7_stand 0 = .ok (.aload_n 0, 1) := by decide +kernel
theorem dX7_stand_1 : decode cX7_stand 1 = .ok (.iload_n 1, 1) := by decide +kernel
theorem dX7_stand_2 : decode cX7_stand 2 = .ok (.invokevirtual 118, 3) := by decide +kernel
theorem dX7_letters_0 : decode cX7_letters 0 = .ok (.aload_n 0, 1) := by decide +kernel
theorem dX7_letters_1 : decode cX7_letters 1 = .ok (.iload_n 1, 1) := by decide +kernel
theorem dX7_letters_2 : decode cX7_letters 2 = .ok (.invokevirtual 118, 3) := by decide +kernel
theorem dX7_countAt_0 : decode cX7_countAt 0 = .ok (.iconst 0, 1) := by decide +kernel
theorem dX7_countAt_1 : decode cX7_countAt 1 = .ok (.istore_n 2, 1) := by decide +kernel
theorem dX7_countAt_2 : decode cX7_countAt 2 = .ok (.aload_n 0, 1) := by decide +kernel
theorem dX7_countAt_3 : decode cX7_countAt 3 = .ok (.getfield 33, 3) := by decide +kernel
theorem dX7_countAt_6 : decode cX7_countAt 6 = .ok (.astore_n 3, 1) := by decide +kernel
theorem dX7_countAt_7 : decode cX7_countAt 7 = .ok (.aload_n 3, 1) := by decide +kernel
theorem dX7_countAt_8 : decode cX7_countAt 8 = .ok (.arraylength, 1) := by decide +kernel
theorem dX7_countAt_9 : decode cX7_countAt 9 = .ok (.istore 4, 2) := by decide +kernel
theorem dX7_countAt_11 : decode cX7_countAt 11 = .ok (.iconst 0, 1) := by decide +kernel
theorem dX7_countAt_12 : decode cX7_countAt 12 = .ok (.istore 5, 2) := by decide +kernel
theorem dX7_countAt_14 : decode cX7_countAt 14 = .ok (.iload 5, 2) := by decide +kernel
theorem dX7_countAt_16 : decode cX7_countAt 16 = .ok (.iload 4, 2) := by decide +kernel
theorem dX7_countAt_18 : decode cX7_countAt 18 = .ok (.if_icmp .ge 32, 3) := by decide +kernel
theorem dX7_countAt_21 : decode cX7_countAt 21 = .ok (.aload_n 3, 1) := by decide +kernel
theorem dX7_countAt_22 : decode cX7_countAt 22 = .ok (.iload 5, 2) := by decide +kernel
theorem dX7_countAt_24 : decode cX7_countAt 24 = .ok (.aaload, 1) := by decide +kernel
theorem dX7_countAt_25 : decode cX7_countAt 25 = .ok (.astore 6, 2) := by decide +kernel
theorem dX7_countAt_27 : decode cX7_countAt 27 = .ok (.aload 6, 2) := by decide +kernel
theorem dX7_countAt_29 : decode cX7_countAt 29 = .ok (.ifnull 15, 3) := by decide +kernel
theorem dX7_countAt_44 : decode cX7_countAt 44 = .ok (.iinc 5 1, 3) := by decide +kernel
theorem dX7_countAt_47 : decode cX7_countAt 47 = .ok (.goto (-33), 3) := by decide +kernel
theorem dX7_countAt_50 : decode cX7_countAt 50 = .ok (.iload_n 2, 1) := by decide +kernel
theorem dX7_countAt_51 : decode cX7_countAt 51 = .ok (.ireturn, 1) := by decide +kernel
theorem dX7_die_0 : decode cX7_die 0 = .ok (.aload_n 0, 1) := by decide +kernel
theorem dX7_die_1 : decode cX7_die 1 = .ok (.iload_n 1, 1) := by decide +kernel
theorem dX7_die_2 : decode cX7_die 2 = .ok (.invokevirtual 143, 3) := by decide +kernel
theorem dX7_standIn_0 : decode cX7_standIn 0 = .ok (.aload_n 0, 1) := by decide +kernel
theorem dX7_standIn_1 : decode cX7_standIn 1 = .ok (.iload_n 1, 1) := by decide +kernel
theorem dX7_standIn_2 : decode cX7_standIn 2 = .ok (.invokevirtual 143, 3) := by decide +kernel
theorem dX7_wear_0 : decode cX7_wear 0 = .ok (.aload_n 0, 1) := by decide +kernel
theorem dX7_wear_1 : decode cX7_wear 1 = .ok (.iload_n 1, 1) := by decide +kernel
theorem dX7_wear_2 : decode cX7_wear 2 = .ok (.invokevirtual 143, 3) := by decide +kernel
theorem dX7_dress_0 : decode cX7_dress 0 = .ok (.aload_n 0, 1) := by decide +kernel
theorem dX7_dress_1 : decode cX7_dress 1 = .ok (.iload_n 1, 1) := by decide +kernel
theorem dX7_dress_2 : decode cX7_dress 2 = .ok (.invokevirtual 143, 3) := by decide +kernel
theorem dX7_change_0 : decode cX7_change 0 = .ok (.aload_n 0, 1) := by decide +kernel
theorem dX7_change_1 : decode cX7_change 1 = .ok (.iload_n 1, 1) := by decide +kernel
theorem dX7_change_2 : decode cX7_change 2 = .ok (.invokevirtual 143, 3) := by decide +kernel
theorem dX7_made_0 : decode cX7_made 0 = .ok (.aload_n 0, 1) := by decide +kernel
theorem dX7_made_1 : decode cX7_made 1 = .ok (.iload_n 1, 1) := by decide +kernel
theorem dX7_made_2 : decode cX7_made 2 = .ok (.invokevirtual 143, 3) := by decide +kernel
theorem dX7_lacks_0 : decode cX7_lacks 0 = .ok (.aload_n 0, 1) := by decide +kernel
theorem dX7_lacks_1 : decode cX7_lacks 1 = .ok (.aload_n 0, 1) := by decide +kernel
theorem dX7_lacks_2 : decode cX7_lacks 2 = .ok (.iload_n 1, 1) := by decide +kernel
theorem dX7_lacks_3 : decode cX7_lacks 3 = .ok (.invokevirtual 308, 3) := by decide +kernel
theorem dX7_isLacking_0 : decode cX7_isLacking 0 = .ok (.aload_n 0, 1) := by decide +kernel
theorem dX7_isLacking_1 : decode cX7_isLacking 1 = .ok (.iload_n 1, 1) := by decide +kernel
theorem dX7_isLacking_2 : decode cX7_isLacking 2 = .ok (.invokevirtual 308, 3) := by decide +kernel
theorem dX7_firstLacking_0 : decode cX7_firstLacking 0 = .ok (.aload_n 0, 1) := by decide +kernel
theorem dX7_firstLacking_1 : decode cX7_firstLacking 1 = .ok (.iload_n 1, 1) := by decide +kernel
theorem dX7_firstLacking_2 : decode cX7_firstLacking 2 = .ok (.invokevirtual 308, 3) := by decide +kernel
theorem dX7_mend_0 : decode cX7_mend 0 = .ok (.aload_n 0, 1) := by decide +kernel
theorem dX7_mend_1 : decode cX7_mend 1 = .ok (.iload_n 1, 1) := by decide +kernel
theorem dX7_mend_2 : decode cX7_mend 2 = .ok (.invokevirtual 308, 3) := by decide +kernel
theorem dX7_maker_0 : decode cX7_maker 0 = .ok (.aload_n 0, 1) := by decide +kernel
theorem dX7_maker_1 : decode cX7_maker 1 = .ok (.iload_n 1, 1) := by decide +kernel
theorem dX7_maker_2 : decode cX7_maker 2 = .ok (.invokevirtual 308, 3) := by decide +kernel
theorem dX7_whole_0 : decode cX7_whole 0 = .ok (.iconst 0, 1) := by decide +kernel
theorem dX7_whole_1 : decode cX7_whole 1 = .ok (.istore_n 1, 1) := by decide +kernel
theorem dX7_whole_2 : decode cX7_whole 2 = .ok (.aload_n 0, 1) := by decide +kernel
theorem dX7_whole_3 : decode cX7_whole 3 = .ok (.getfield 33, 3) := by decide +kernel
theorem dX7_whole_6 : decode cX7_whole 6 = .ok (.astore_n 2, 1) := by decide +kernel
theorem dX7_whole_7 : decode cX7_whole 7 = .ok (.aload_n 2, 1) := by decide +kernel
theorem dX7_whole_8 : decode cX7_whole 8 = .ok (.arraylength, 1) := by decide +kernel
theorem dX7_whole_9 : decode cX7_whole 9 = .ok (.istore_n 3, 1) := by decide +kernel
theorem dX7_whole_10 : decode cX7_whole 10 = .ok (.iconst 0, 1) := by decide +kernel
theorem dX7_whole_11 : decode cX7_whole 11 = .ok (.istore 4, 2) := by decide +kernel
theorem dX7_whole_13 : decode cX7_whole 13 = .ok (.iload 4, 2) := by decide +kernel
theorem dX7_whole_15 : decode cX7_whole 15 = .ok (.iload_n 3, 1) := by decide +kernel
theorem dX7_whole_16 : decode cX7_whole 16 = .ok (.if_icmp .ge 42, 3) := by decide +kernel
theorem dX7_whole_19 : decode cX7_whole 19 = .ok (.aload_n 2, 1) := by decide +kernel
theorem dX7_whole_20 : decode cX7_whole 20 = .ok (.iload 4, 2) := by decide +kernel
theorem dX7_whole_22 : decode cX7_whole 22 = .ok (.aaload, 1) := by decide +kernel
theorem dX7_whole_23 : decode cX7_whole 23 = .ok (.astore 5, 2) := by decide +kernel
theorem dX7_whole_25 : decode cX7_whole 25 = .ok (.aload 5, 2) := by decide +kernel
theorem dX7_whole_27 : decode cX7_whole 27 = .ok (.ifnull 25, 3) := by decide +kernel
theorem dX7_whole_52 : decode cX7_whole 52 = .ok (.iinc 4 1, 3) := by decide +kernel
theorem dX7_whole_55 : decode cX7_whole 55 = .ok (.goto (-42), 3) := by decide +kernel
theorem dX7_whole_58 : decode cX7_whole 58 = .ok (.iload_n 1, 1) := by decide +kernel
theorem dX7_whole_59 : decode cX7_whole 59 = .ok (.ireturn, 1) := by decide +kernel
theorem dX7_offset_0 : decode cX7_offset 0 = .ok (.aload_n 0, 1) := by decide +kernel
theorem dX7_offset_1 : decode cX7_offset 1 = .ok (.iload_n 1, 1) := by decide +kernel
theorem dX7_offset_2 : decode cX7_offset 2 = .ok (.invokevirtual 118, 3) := by decide +kernel
theorem dX7_measure_0 : decode cX7_measure 0 = .ok (.aload_n 0, 1) := by decide +kernel
theorem dX7_measure_1 : decode cX7_measure 1 = .ok (.iload_n 1, 1) := by decide +kernel
theorem dX7_measure_2 : decode cX7_measure 2 = .ok (.invokevirtual 308, 3) := by decide +kernel
theorem dX7_feedBack_0 : decode cX7_feedBack 0 = .ok (.aload_n 0, 1) := by decide +kernel
theorem dX7_feedBack_1 : decode cX7_feedBack 1 = .ok (.iload_n 1, 1) := by decide +kernel
theorem dX7_feedBack_2 : decode cX7_feedBack 2 = .ok (.invokevirtual 118, 3) := by decide +kernel
theorem dX7_checksum_0 : decode cX7_checksum 0 = .ok (.ldc2_w 443, 3) := by decide +kernel
theorem dX7_checksum_3 : decode cX7_checksum 3 = .ok (.lstore_n 1, 1) := by decide +kernel
theorem dX7_checksum_4 : decode cX7_checksum 4 = .ok (.aload_n 0, 1) := by decide +kernel
theorem dX7_checksum_5 : decode cX7_checksum 5 = .ok (.getfield 33, 3) := by decide +kernel
theorem dX7_checksum_8 : decode cX7_checksum 8 = .ok (.astore_n 3, 1) := by decide +kernel
theorem dX7_checksum_9 : decode cX7_checksum 9 = .ok (.aload_n 3, 1) := by decide +kernel
theorem dX7_checksum_10 : decode cX7_checksum 10 = .ok (.arraylength, 1) := by decide +kernel
theorem dX7_checksum_11 : decode cX7_checksum 11 = .ok (.istore 4, 2) := by decide +kernel
theorem dX7_checksum_13 : decode cX7_checksum 13 = .ok (.iconst 0, 1) := by decide +kernel
theorem dX7_checksum_14 : decode cX7_checksum 14 = .ok (.istore 5, 2) := by decide +kernel
theorem dX7_checksum_16 : decode cX7_checksum 16 = .ok (.iload 5, 2) := by decide +kernel
theorem dX7_checksum_18 : decode cX7_checksum 18 = .ok (.iload 4, 2) := by decide +kernel
theorem dX7_checksum_20 : decode cX7_checksum 20 = .ok (.if_icmp .ge 48, 3) := by decide +kernel
theorem dX7_checksum_23 : decode cX7_checksum 23 = .ok (.aload_n 3, 1) := by decide +kernel
theorem dX7_checksum_24 : decode cX7_checksum 24 = .ok (.iload 5, 2) := by decide +kernel
theorem dX7_checksum_26 : decode cX7_checksum 26 = .ok (.aaload, 1) := by decide +kernel
theorem dX7_checksum_27 : decode cX7_checksum 27 = .ok (.astore 6, 2) := by decide +kernel
theorem dX7_checksum_29 : decode cX7_checksum 29 = .ok (.aload 6, 2) := by decide +kernel
theorem dX7_checksum_31 : decode cX7_checksum 31 = .ok (.ifnull 31, 3) := by decide +kernel
theorem dX7_checksum_62 : decode cX7_checksum 62 = .ok (.iinc 5 1, 3) := by decide +kernel
theorem dX7_checksum_65 : decode cX7_checksum 65 = .ok (.goto (-49), 3) := by decide +kernel
theorem dX7_checksum_68 : decode cX7_checksum 68 = .ok (.lload_n 1, 1) := by decide +kernel
theorem dX7_checksum_69 : decode cX7_checksum 69 = .ok (.lreturn, 1) := by decide +kernel
theorem dX7_wholeShare_0 : decode cX7_wholeShare 0 = .ok (.aload_n 0, 1) := by decide +kernel
theorem dX7_wholeShare_1 : decode cX7_wholeShare 1 = .ok (.bipush (-2), 2) := by decide +kernel
theorem dX7_wholeShare_3 : decode cX7_wholeShare 3 = .ok (.invokevirtual 314, 3) := by decide +kernel
theorem dX7_wholeShare_6 : decode cX7_wholeShare 6 = .ok (.istore_n 1, 1) := by decide +kernel
theorem dX7_wholeShare_7 : decode cX7_wholeShare 7 = .ok (.iload_n 1, 1) := by decide +kernel
theorem dX7_wholeShare_8 : decode cX7_wholeShare 8 = .ok (.ifCond .ne 14, 3) := by decide +kernel
theorem dX7_meanMeasure_0 : decode cX7_meanMeasure 0 = .ok (.aload_n 0, 1) := by decide +kernel
theorem dX7_meanMeasure_1 : decode cX7_meanMeasure 1 = .ok (.bipush (-2), 2) := by decide +kernel
theorem dX7_meanMeasure_3 : decode cX7_meanMeasure 3 = .ok (.invokevirtual 314, 3) := by decide +kernel
theorem dX7_meanMeasure_6 : decode cX7_meanMeasure 6 = .ok (.istore_n 1, 1) := by decide +kernel
theorem dX7_meanMeasure_7 : decode cX7_meanMeasure 7 = .ok (.iload_n 1, 1) := by decide +kernel
theorem dX7_meanMeasure_8 : decode cX7_meanMeasure 8 = .ok (.ifCond .ne 14, 3) := by decide +kernel
theorem dX7_isSound_0 : decode cX7_isSound 0 = .ok (.aload_n 0, 1) := by decide +kernel
theorem dX7_isSound_1 : decode cX7_isSound 1 = .ok (.invokevirtual 450, 3) := by decide +kernel
theorem dX7_isSound_4 : decode cX7_isSound 4 = .ok (.ifCond .eq 21, 3) := by decide +kernel
theorem dX7_isSound_7 : decode cX7_isSound 7 = .ok (.aload_n 0, 1) := by decide +kernel
theorem dX7_isSound_8 : decode cX7_isSound 8 = .ok (.invokevirtual 453, 3) := by decide +kernel
theorem dX7_isSound_11 : decode cX7_isSound 11 = .ok (.ifCond .eq 14, 3) := by decide +kernel
theorem dX7_isSound_14 : decode cX7_isSound 14 = .ok (.aload_n 0, 1) := by decide +kernel
theorem dX7_isSound_15 : decode cX7_isSound 15 = .ok (.invokevirtual 456, 3) := by decide +kernel
theorem dX7_isSound_18 : decode cX7_isSound 18 = .ok (.ifCond .eq 7, 3) := by decide +kernel
theorem dX7_isSound_21 : decode cX7_isSound 21 = .ok (.iconst 1, 1) := by decide +kernel
theorem dX7_isSound_22 : decode cX7_isSound 22 = .ok (.goto 4, 3) := by decide +kernel
theorem dX7_isSound_26 : decode cX7_isSound 26 = .ok (.ireturn, 1) := by decide +kernel
theorem dX7_stationsAreSound_0 : decode cX7_stationsAreSound 0 = .ok (.aload_n 0, 1) := by decide +kernel
theorem dX7_stationsAreSound_1 : decode cX7_stationsAreSound 1 = .ok (.getfield 21, 3) := by decide +kernel
theorem dX7_stationsAreSound_4 : decode cX7_stationsAreSound 4 = .ok (.astore_n 1, 1) := by decide +kernel
theorem dX7_stationsAreSound_5 : decode cX7_stationsAreSound 5 = .ok (.aload_n 1, 1) := by decide +kernel
theorem dX7_stationsAreSound_6 : decode cX7_stationsAreSound 6 = .ok (.arraylength, 1) := by decide +kernel
theorem dX7_stationsAreSound_7 : decode cX7_stationsAreSound 7 = .ok (.istore_n 2, 1) := by decide +kernel
theorem dX7_stationsAreSound_8 : decode cX7_stationsAreSound 8 = .ok (.iconst 0, 1) := by decide +kernel
theorem dX7_stationsAreSound_9 : decode cX7_stationsAreSound 9 = .ok (.istore_n 3, 1) := by decide +kernel
theorem dX7_stationsAreSound_10 : decode cX7_stationsAreSound 10 = .ok (.iload_n 3, 1) := by decide +kernel
theorem dX7_stationsAreSound_11 : decode cX7_stationsAreSound 11 = .ok (.iload_n 2, 1) := by decide +kernel
theorem dX7_stationsAreSound_12 : decode cX7_stationsAreSound 12 = .ok (.if_icmp .ge 68, 3) := by decide +kernel
theorem dX7_stationsAreSound_15 : decode cX7_stationsAreSound 15 = .ok (.aload_n 1, 1) := by decide +kernel
theorem dX7_stationsAreSound_16 : decode cX7_stationsAreSound 16 = .ok (.iload_n 3, 1) := by decide +kernel
theorem dX7_stationsAreSound_17 : decode cX7_stationsAreSound 17 = .ok (.aaload, 1) := by decide +kernel
theorem dX7_stationsAreSound_18 : decode cX7_stationsAreSound 18 = .ok (.astore 4, 2) := by decide +kernel
theorem dX7_stationsAreSound_20 : decode cX7_stationsAreSound 20 = .ok (.aload 4, 2) := by decide +kernel
theorem dX7_stationsAreSound_22 : decode cX7_stationsAreSound 22 = .ok (.ifnonnull 6, 3) := by decide +kernel
theorem dX7_stationsAreSound_25 : decode cX7_stationsAreSound 25 = .ok (.goto 49, 3) := by decide +kernel
theorem dX7_stationsAreSound_74 : decode cX7_stationsAreSound 74 = .ok (.iinc 3 1, 3) := by decide +kernel
theorem dX7_stationsAreSound_77 : decode cX7_stationsAreSound 77 = .ok (.goto (-67), 3) := by decide +kernel
theorem dX7_stationsAreSound_80 : decode cX7_stationsAreSound 80 = .ok (.iconst 1, 1) := by decide +kernel
theorem dX7_stationsAreSound_81 : decode cX7_stationsAreSound 81 = .ok (.ireturn, 1) := by decide +kernel
theorem dX7_orderIsSound_0 : decode cX7_orderIsSound 0 = .ok (.aconst_null, 1) := by decide +kernel
theorem dX7_orderIsSound_1 : decode cX7_orderIsSound 1 = .ok (.astore_n 1, 1) := by decide +kernel
theorem dX7_orderIsSound_2 : decode cX7_orderIsSound 2 = .ok (.aload_n 0, 1) := by decide +kernel
theorem dX7_orderIsSound_3 : decode cX7_orderIsSound 3 = .ok (.getfield 33, 3) := by decide +kernel
theorem dX7_orderIsSound_6 : decode cX7_orderIsSound 6 = .ok (.astore_n 2, 1) := by decide +kernel
theorem dX7_orderIsSound_7 : decode cX7_orderIsSound 7 = .ok (.aload_n 2, 1) := by decide +kernel
theorem dX7_orderIsSound_8 : decode cX7_orderIsSound 8 = .ok (.arraylength, 1) := by decide +kernel
theorem dX7_orderIsSound_9 : decode cX7_orderIsSound 9 = .ok (.istore_n 3, 1) := by decide +kernel
theorem dX7_orderIsSound_10 : decode cX7_orderIsSound 10 = .ok (.iconst 0, 1) := by decide +kernel
theorem dX7_orderIsSound_11 : decode cX7_orderIsSound 11 = .ok (.istore 4, 2) := by decide +kernel
theorem dX7_orderIsSound_13 : decode cX7_orderIsSound 13 = .ok (.iload 4, 2) := by decide +kernel
theorem dX7_orderIsSound_15 : decode cX7_orderIsSound 15 = .ok (.iload_n 3, 1) := by decide +kernel
theorem dX7_orderIsSound_16 : decode cX7_orderIsSound 16 = .ok (.if_icmp .ge 50, 3) := by decide +kernel
theorem dX7_orderIsSound_19 : decode cX7_orderIsSound 19 = .ok (.aload_n 2, 1) := by decide +kernel
theorem dX7_orderIsSound_20 : decode cX7_orderIsSound 20 = .ok (.iload 4, 2) := by decide +kernel
theorem dX7_orderIsSound_22 : decode cX7_orderIsSound 22 = .ok (.aaload, 1) := by decide +kernel
theorem dX7_orderIsSound_23 : decode cX7_orderIsSound 23 = .ok (.astore 5, 2) := by decide +kernel
theorem dX7_orderIsSound_25 : decode cX7_orderIsSound 25 = .ok (.aload 5, 2) := by decide +kernel
theorem dX7_orderIsSound_27 : decode cX7_orderIsSound 27 = .ok (.ifnonnull 6, 3) := by decide +kernel
theorem dX7_orderIsSound_30 : decode cX7_orderIsSound 30 = .ok (.goto 30, 3) := by decide +kernel
theorem dX7_orderIsSound_60 : decode cX7_orderIsSound 60 = .ok (.iinc 4 1, 3) := by decide +kernel
theorem dX7_orderIsSound_63 : decode cX7_orderIsSound 63 = .ok (.goto (-50), 3) := by decide +kernel
theorem dX7_orderIsSound_66 : decode cX7_orderIsSound 66 = .ok (.iconst 1, 1) := by decide +kernel
theorem dX7_orderIsSound_67 : decode cX7_orderIsSound 67 = .ok (.ireturn, 1) := by decide +kernel
theorem dX7_makersAreSound_0 : decode cX7_makersAreSound 0 = .ok (.aload_n 0, 1) := by decide +kernel
theorem dX7_makersAreSound_1 : decode cX7_makersAreSound 1 = .ok (.getfield 33, 3) := by decide +kernel
theorem dX7_makersAreSound_4 : decode cX7_makersAreSound 4 = .ok (.astore_n 1, 1) := by decide +kernel
theorem dX7_makersAreSound_5 : decode cX7_makersAreSound 5 = .ok (.aload_n 1, 1) := by decide +kernel
theorem dX7_makersAreSound_6 : decode cX7_makersAreSound 6 = .ok (.arraylength, 1) := by decide +kernel
theorem dX7_makersAreSound_7 : decode cX7_makersAreSound 7 = .ok (.istore_n 2, 1) := by decide +kernel
theorem dX7_makersAreSound_8 : decode cX7_makersAreSound 8 = .ok (.iconst 0, 1) := by decide +kernel
theorem dX7_makersAreSound_9 : decode cX7_makersAreSound 9 = .ok (.istore_n 3, 1) := by decide +kernel
theorem dX7_makersAreSound_10 : decode cX7_makersAreSound 10 = .ok (.iload_n 3, 1) := by decide +kernel
theorem dX7_makersAreSound_11 : decode cX7_makersAreSound 11 = .ok (.iload_n 2, 1) := by decide +kernel
theorem dX7_makersAreSound_12 : decode cX7_makersAreSound 12 = .ok (.if_icmp .ge 76, 3) := by decide +kernel
theorem dX7_makersAreSound_15 : decode cX7_makersAreSound 15 = .ok (.aload_n 1, 1) := by decide +kernel
theorem dX7_makersAreSound_16 : decode cX7_makersAreSound 16 = .ok (.iload_n 3, 1) := by decide +kernel
theorem dX7_makersAreSound_17 : decode cX7_makersAreSound 17 = .ok (.aaload, 1) := by decide +kernel
theorem dX7_makersAreSound_18 : decode cX7_makersAreSound 18 = .ok (.astore 4, 2) := by decide +kernel
theorem dX7_makersAreSound_20 : decode cX7_makersAreSound 20 = .ok (.aload_n 0, 1) := by decide +kernel
theorem dX7_makersAreSound_21 : decode cX7_makersAreSound 21 = .ok (.getfield 15, 3) := by decide +kernel
theorem dX7_makersAreSound_24 : decode cX7_makersAreSound 24 = .ok (.astore 5, 2) := by decide +kernel
theorem dX7_makersAreSound_26 : decode cX7_makersAreSound 26 = .ok (.aload 5, 2) := by decide +kernel
theorem dX7_makersAreSound_28 : decode cX7_makersAreSound 28 = .ok (.arraylength, 1) := by decide +kernel
theorem dX7_makersAreSound_29 : decode cX7_makersAreSound 29 = .ok (.istore 6, 2) := by decide +kernel
theorem dX7_makersAreSound_31 : decode cX7_makersAreSound 31 = .ok (.iconst 0, 1) := by decide +kernel
theorem dX7_makersAreSound_32 : decode cX7_makersAreSound 32 = .ok (.istore 7, 2) := by decide +kernel
theorem dX7_makersAreSound_34 : decode cX7_makersAreSound 34 = .ok (.iload 7, 2) := by decide +kernel
theorem dX7_makersAreSound_36 : decode cX7_makersAreSound 36 = .ok (.iload 6, 2) := by decide +kernel
theorem dX7_makersAreSound_38 : decode cX7_makersAreSound 38 = .ok (.if_icmp .ge 44, 3) := by decide +kernel
theorem dX7_makersAreSound_41 : decode cX7_makersAreSound 41 = .ok (.aload 5, 2) := by decide +kernel
theorem dX7_makersAreSound_43 : decode cX7_makersAreSound 43 = .ok (.iload 7, 2) := by decide +kernel
theorem dX7_makersAreSound_45 : decode cX7_makersAreSound 45 = .ok (.aaload, 1) := by decide +kernel
theorem dX7_makersAreSound_46 : decode cX7_makersAreSound 46 = .ok (.astore 8, 2) := by decide +kernel
theorem dX7_makersAreSound_48 : decode cX7_makersAreSound 48 = .ok (.aload 4, 2) := by decide +kernel
theorem dX7_makersAreSound_50 : decode cX7_makersAreSound 50 = .ok (.ifnull 26, 3) := by decide +kernel
theorem dX7_makersAreSound_76 : decode cX7_makersAreSound 76 = .ok (.iinc 7 1, 3) := by decide +kernel
theorem dX7_makersAreSound_79 : decode cX7_makersAreSound 79 = .ok (.goto (-45), 3) := by decide +kernel
theorem dX7_makersAreSound_82 : decode cX7_makersAreSound 82 = .ok (.iinc 3 1, 3) := by decide +kernel
theorem dX7_makersAreSound_85 : decode cX7_makersAreSound 85 = .ok (.goto (-75), 3) := by decide +kernel
theorem dX7_makersAreSound_88 : decode cX7_makersAreSound 88 = .ok (.iconst 1, 1) := by decide +kernel
theorem dX7_makersAreSound_89 : decode cX7_makersAreSound 89 = .ok (.ireturn, 1) := by decide +kernel
theorem dJ6_valueOf_2dffe_0 : decode cJ6_valueOf_2dffe 0 = .ok (.iload_n 0, 1) := by decide +kernel
theorem dJ6_valueOf_2dffe_1 : decode cJ6_valueOf_2dffe 1 = .ok (.bipush (-128), 2) := by decide +kernel
theorem dJ6_valueOf_2dffe_3 : decode cJ6_valueOf_2dffe 3 = .ok (.if_icmp .lt 20, 3) := by decide +kernel
theorem dJ6_valueOf_2dffe_6 : decode cJ6_valueOf_2dffe 6 = .ok (.iload_n 0, 1) := by decide +kernel
theorem dJ6_valueOf_2dffe_7 : decode cJ6_valueOf_2dffe 7 = .ok (.getstatic 191, 3) := by decide +kernel
theorem dJ6_valueOf_2dffe_10 : decode cJ6_valueOf_2dffe 10 = .ok (.if_icmp .gt 13, 3) := by decide +kernel
theorem dJ6_valueOf_2dffe_13 : decode cJ6_valueOf_2dffe 13 = .ok (.getstatic 195, 3) := by decide +kernel
theorem dJ6_valueOf_2dffe_16 : decode cJ6_valueOf_2dffe 16 = .ok (.iload_n 0, 1) := by decide +kernel
theorem dJ6_valueOf_2dffe_17 : decode cJ6_valueOf_2dffe 17 = .ok (.sipush 128, 3) := by decide +kernel
theorem dJ6_valueOf_2dffe_20 : decode cJ6_valueOf_2dffe 20 = .ok (.iadd, 1) := by decide +kernel
theorem dJ6_valueOf_2dffe_21 : decode cJ6_valueOf_2dffe 21 = .ok (.aaload, 1) := by decide +kernel
theorem dJ6_valueOf_2dffe_22 : decode cJ6_valueOf_2dffe 22 = .ok (.areturn, 1) := by decide +kernel
theorem dJ6_valueOf_2dffe_23 : decode cJ6_valueOf_2dffe 23 = .ok (.new 1, 3) := by decide +kernel
theorem dJ6_valueOf_2dffe_26 : decode cJ6_valueOf_2dffe 26 = .ok (.dup, 1) := by decide +kernel
theorem dJ6_valueOf_2dffe_27 : decode cJ6_valueOf_2dffe 27 = .ok (.iload_n 0, 1) := by decide +kernel
theorem dJ6_valueOf_2dffe_28 : decode cJ6_valueOf_2dffe 28 = .ok (.invokespecial 199, 3) := by decide +kernel
theorem dJ6_valueOf_2dffe_31 : decode cJ6_valueOf_2dffe 31 = .ok (.areturn, 1) := by decide +kernel
theorem dJ0_length_8abf5_0 : decode cJ0_length_8abf5 0 = .ok (.aload_n 0, 1) := by decide +kernel
theorem dJ0_length_8abf5_1 : decode cJ0_length_8abf5 1 = .ok (.getfield 9, 3) := by decide +kernel
theorem dJ0_length_8abf5_4 : decode cJ0_length_8abf5 4 = .ok (.arraylength, 1) := by decide +kernel
theorem dJ0_length_8abf5_5 : decode cJ0_length_8abf5 5 = .ok (.aload_n 0, 1) := by decide +kernel
theorem dJ0_length_8abf5_6 : decode cJ0_length_8abf5 6 = .ok (.invokevirtual 335, 3) := by decide +kernel
theorem dJ0_length_8abf5_9 : decode cJ0_length_8abf5 9 = .ok (.ishr, 1) := by decide +kernel
theorem dJ0_length_8abf5_10 : decode cJ0_length_8abf5 10 = .ok (.ireturn, 1) := by decide +kernel
theorem dJ0_coder_7d493_0 : decode cJ0_coder_7d493 0 = .ok (.getstatic 38, 3) := by decide +kernel
theorem dJ0_coder_7d493_3 : decode cJ0_coder_7d493 3 = .ok (.ifCond .eq 10, 3) := by decide +kernel
theorem dJ0_coder_7d493_6 : decode cJ0_coder_7d493 6 = .ok (.aload_n 0, 1) := by decide +kernel
theorem dJ0_coder_7d493_7 : decode cJ0_coder_7d493 7 = .ok (.getfield 15, 3) := by decide +kernel
theorem dJ0_coder_7d493_10 : decode cJ0_coder_7d493 10 = .ok (.goto 4, 3) := by decide +kernel
theorem dJ0_coder_7d493_13 : decode cJ0_coder_7d493 13 = .ok (.iconst 1, 1) := by decide +kernel
theorem dJ0_coder_7d493_14 : decode cJ0_coder_7d493 14 = .ok (.ireturn, 1) := by decide +kernel
theorem dJxa1e45_init_da8c8_0 : decode cJxa1e45_init_da8c8 0 = .ok (.aload_n 0, 1) := by decide +kernel
theorem dJxa1e45_init_da8c8_1 : decode cJxa1e45_init_da8c8 1 = .ok (.invokespecial 1, 3) := by decide +kernel
theorem dJxa1e45_init_da8c8_4 : decode cJxa1e45_init_da8c8 4 = .ok (.return_, 1) := by decide +kernel
theorem dJxc12de_init_da8c8_0 : decode cJxc12de_init_da8c8 0 = .ok (.aload_n 0, 1) := by decide +kernel
theorem dJxc12de_init_da8c8_1 : decode cJxc12de_init_da8c8 1 = .ok (.invokespecial 1, 3) := by decide +kernel
theorem dJxc12de_init_da8c8_4 : decode cJxc12de_init_da8c8 4 = .ok (.aload_n 0, 1) := by decide +kernel
theorem dJxc12de_init_da8c8_5 : decode cJxc12de_init_da8c8 5 = .ok (.iconst 0, 1) := by decide +kernel
theorem dJxc12de_init_da8c8_6 : decode cJxc12de_init_da8c8 6 = .ok (.putfield 7, 3) := by decide +kernel
theorem dJxc12de_init_da8c8_9 : decode cJxc12de_init_da8c8 9 = .ok (.return_, 1) := by decide +kernel
theorem dJx35411_init_45d68_0 : decode cJx35411_init_45d68 0 = .ok (.aload_n 0, 1) := by decide +kernel
theorem dJx35411_init_45d68_1 : decode cJx35411_init_45d68 1 = .ok (.aload_n 1, 1) := by decide +kernel
theorem dJx35411_init_45d68_2 : decode cJx35411_init_45d68 2 = .ok (.putfield 1, 3) := by decide +kernel
theorem dJx35411_init_45d68_5 : decode cJx35411_init_45d68 5 = .ok (.aload_n 0, 1) := by decide +kernel
theorem dJx35411_init_45d68_6 : decode cJx35411_init_45d68 6 = .ok (.invokespecial 7, 3) := by decide +kernel
theorem dJx35411_init_45d68_9 : decode cJx35411_init_45d68 9 = .ok (.aload_n 0, 1) := by decide +kernel
theorem dJx35411_init_45d68_10 : decode cJx35411_init_45d68 10 = .ok (.iconst (-1), 1) := by decide +kernel
theorem dJx35411_init_45d68_11 : decode cJx35411_init_45d68 11 = .ok (.putfield 13, 3) := by decide +kernel
theorem dJx35411_init_45d68_14 : decode cJx35411_init_45d68 14 = .ok (.aload_n 0, 1) := by decide +kernel
theorem dJx35411_init_45d68_15 : decode cJx35411_init_45d68 15 = .ok (.aload_n 0, 1) := by decide +kernel
theorem dJx35411_init_45d68_16 : decode cJx35411_init_45d68 16 = .ok (.getfield 1, 3) := by decide +kernel
theorem dJx35411_init_45d68_19 : decode cJx35411_init_45d68 19 = .ok (.getfield 17, 3) := by decide +kernel
theorem dJx35411_init_45d68_22 : decode cJx35411_init_45d68 22 = .ok (.putfield 22, 3) := by decide +kernel
theorem dJx35411_init_45d68_25 : decode cJx35411_init_45d68 25 = .ok (.return_, 1) := by decide +kernel
theorem dJx35411_hasNext_aae02_0 : decode cJx35411_hasNext_aae02 0 = .ok (.aload_n 0, 1) := by decide +kernel
theorem dJx35411_hasNext_aae02_1 : decode cJx35411_hasNext_aae02 1 = .ok (.getfield 25, 3) := by decide +kernel
theorem dJx35411_hasNext_aae02_4 : decode cJx35411_hasNext_aae02 4 = .ok (.aload_n 0, 1) := by decide +kernel
theorem dJx35411_hasNext_aae02_5 : decode cJx35411_hasNext_aae02 5 = .ok (.getfield 1, 3) := by decide +kernel
theorem dJx35411_hasNext_aae02_8 : decode cJx35411_hasNext_aae02 8 = .ok (.getfield 28, 3) := by decide +kernel
theorem dJx35411_hasNext_aae02_11 : decode cJx35411_hasNext_aae02 11 = .ok (.if_icmp .eq 7, 3) := by decide +kernel
theorem dJx35411_hasNext_aae02_18 : decode cJx35411_hasNext_aae02 18 = .ok (.iconst 0, 1) := by decide +kernel
theorem dJx35411_hasNext_aae02_19 : decode cJx35411_hasNext_aae02 19 = .ok (.ireturn, 1) := by decide +kernel
theorem dJx4a65c_init_da8c8_0 : decode cJx4a65c_init_da8c8 0 = .ok (.aload_n 0, 1) := by decide +kernel
theorem dJx4a65c_init_da8c8_1 : decode cJx4a65c_init_da8c8 1 = .ok (.invokespecial 1, 3) := by decide +kernel
theorem dJx4a65c_init_da8c8_4 : decode cJx4a65c_init_da8c8 4 = .ok (.aload_n 0, 1) := by decide +kernel
theorem dJx4a65c_init_da8c8_5 : decode cJx4a65c_init_da8c8 5 = .ok (.getstatic 39, 3) := by decide +kernel
theorem dJx4a65c_init_da8c8_8 : decode cJx4a65c_init_da8c8 8 = .ok (.putfield 9, 3) := by decide +kernel
theorem dJx4a65c_init_da8c8_11 : decode cJx4a65c_init_da8c8 11 = .ok (.return_, 1) := by decide +kernel
theorem dJx4a65c_grow_92f84_0 : decode cJx4a65c_grow_92f84 0 = .ok (.aload_n 0, 1) := by decide +kernel
theorem dJx4a65c_grow_92f84_1 : decode cJx4a65c_grow_92f84 1 = .ok (.getfield 9, 3) := by decide +kernel
theorem dJx4a65c_grow_92f84_4 : decode cJx4a65c_grow_92f84 4 = .ok (.arraylength, 1) := by decide +kernel
theorem dJx4a65c_grow_92f84_5 : decode cJx4a65c_grow_92f84 5 = .ok (.istore_n 2, 1) := by decide +kernel
theorem dJx4a65c_grow_92f84_6 : decode cJx4a65c_grow_92f84 6 = .ok (.iload_n 2, 1) := by decide +kernel
theorem dJx4a65c_grow_92f84_7 : decode cJx4a65c_grow_92f84 7 = .ok (.ifCond .gt 13, 3) := by decide +kernel
theorem dJx4a65c_grow_92f84_10 : decode cJx4a65c_grow_92f84 10 = .ok (.aload_n 0, 1) := by decide +kernel
theorem dJx4a65c_grow_92f84_11 : decode cJx4a65c_grow_92f84 11 = .ok (.getfield 9, 3) := by decide +kernel
theorem dJx4a65c_grow_92f84_14 : decode cJx4a65c_grow_92f84 14 = .ok (.getstatic 39, 3) := by decide +kernel
theorem dJx4a65c_grow_92f84_17 : decode cJx4a65c_grow_92f84 17 = .ok (.if_acmp .eq 28, 3) := by decide +kernel
theorem dJx4a65c_grow_92f84_20 : decode cJx4a65c_grow_92f84 20 = .ok (.iload_n 2, 1) := by decide +kernel
theorem dJx4a65c_grow_92f84_21 : decode cJx4a65c_grow_92f84 21 = .ok (.iload_n 1, 1) := by decide +kernel
theorem dJx4a65c_grow_92f84_22 : decode cJx4a65c_grow_92f84 22 = .ok (.iload_n 2, 1) := by decide +kernel
theorem dJx4a65c_grow_92f84_23 : decode cJx4a65c_grow_92f84 23 = .ok (.isub, 1) := by decide +kernel
theorem dJx4a65c_grow_92f84_24 : decode cJx4a65c_grow_92f84 24 = .ok (.iload_n 2, 1) := by decide +kernel
theorem dJx4a65c_grow_92f84_25 : decode cJx4a65c_grow_92f84 25 = .ok (.iconst 1, 1) := by decide +kernel
theorem dJx4a65c_grow_92f84_26 : decode cJx4a65c_grow_92f84 26 = .ok (.ishr, 1) := by decide +kernel
theorem dJx4a65c_grow_92f84_27 : decode cJx4a65c_grow_92f84 27 = .ok (.invokestatic 73, 3) := by decide +kernel
theorem dJx4a65c_grow_92f84_30 : decode cJx4a65c_grow_92f84 30 = .ok (.istore_n 3, 1) := by decide +kernel
theorem dJx4a65c_grow_92f84_31 : decode cJx4a65c_grow_92f84 31 = .ok (.aload_n 0, 1) := by decide +kernel
theorem dJx4a65c_grow_92f84_32 : decode cJx4a65c_grow_92f84 32 = .ok (.aload_n 0, 1) := by decide +kernel
theorem dJx4a65c_grow_92f84_33 : decode cJx4a65c_grow_92f84 33 = .ok (.getfield 9, 3) := by decide +kernel
theorem dJx4a65c_grow_92f84_36 : decode cJx4a65c_grow_92f84 36 = .ok (.iload_n 3, 1) := by decide +kernel
theorem dJx4a65c_grow_92f84_37 : decode cJx4a65c_grow_92f84 37 = .ok (.invokestatic 66, 3) := by decide +kernel
theorem dJx4a65c_grow_92f84_40 : decode cJx4a65c_grow_92f84 40 = .ok (.dup_x1, 1) := by decide +kernel
theorem dJx4a65c_grow_92f84_41 : decode cJx4a65c_grow_92f84 41 = .ok (.putfield 9, 3) := by decide +kernel
theorem dJx4a65c_grow_92f84_44 : decode cJx4a65c_grow_92f84 44 = .ok (.areturn, 1) := by decide +kernel
theorem dJx4a65c_grow_92f84_45 : decode cJx4a65c_grow_92f84 45 = .ok (.aload_n 0, 1) := by decide +kernel
theorem dJx4a65c_grow_92f84_46 : decode cJx4a65c_grow_92f84 46 = .ok (.bipush 10, 2) := by decide +kernel
theorem dJx4a65c_grow_92f84_48 : decode cJx4a65c_grow_92f84 48 = .ok (.iload_n 1, 1) := by decide +kernel
theorem dJx4a65c_grow_92f84_49 : decode cJx4a65c_grow_92f84 49 = .ok (.invokestatic 79, 3) := by decide +kernel
theorem dJx4a65c_grow_92f84_52 : decode cJx4a65c_grow_92f84 52 = .ok (.anewarray 7, 3) := by decide +kernel
theorem dJx4a65c_grow_92f84_55 : decode cJx4a65c_grow_92f84 55 = .ok (.dup_x1, 1) := by decide +kernel
theorem dJx4a65c_grow_92f84_56 : decode cJx4a65c_grow_92f84 56 = .ok (.putfield 9, 3) := by decide +kernel
theorem dJx4a65c_grow_92f84_59 : decode cJx4a65c_grow_92f84 59 = .ok (.areturn, 1) := by decide +kernel
theorem dJx4a65c_grow_d5877_0 : decode cJx4a65c_grow_d5877 0 = .ok (.aload_n 0, 1) := by decide +kernel
theorem dJx4a65c_grow_d5877_1 : decode cJx4a65c_grow_d5877 1 = .ok (.aload_n 0, 1) := by decide +kernel
theorem dJx4a65c_grow_d5877_2 : decode cJx4a65c_grow_d5877 2 = .ok (.getfield 48, 3) := by decide +kernel
theorem dJx4a65c_grow_d5877_5 : decode cJx4a65c_grow_d5877 5 = .ok (.iconst 1, 1) := by decide +kernel
theorem dJx4a65c_grow_d5877_6 : decode cJx4a65c_grow_d5877 6 = .ok (.iadd, 1) := by decide +kernel
theorem dJx4a65c_grow_d5877_7 : decode cJx4a65c_grow_d5877 7 = .ok (.invokevirtual 69, 3) := by decide +kernel
theorem dJx4a65c_grow_d5877_10 : decode cJx4a65c_grow_d5877 10 = .ok (.areturn, 1) := by decide +kernel
theorem dJx4a65c_size_8abf5_0 : decode cJx4a65c_size_8abf5 0 = .ok (.aload_n 0, 1) := by decide +kernel
theorem dJx4a65c_size_8abf5_1 : decode cJx4a65c_size_8abf5 1 = .ok (.getfield 48, 3) := by decide +kernel
theorem dJx4a65c_size_8abf5_4 : decode cJx4a65c_size_8abf5 4 = .ok (.ireturn, 1) := by decide +kernel
theorem dJx4a65c_isEmpty_aae02_0 : decode cJx4a65c_isEmpty_aae02 0 = .ok (.aload_n 0, 1) := by decide +kernel
theorem dJx4a65c_isEmpty_aae02_1 : decode cJx4a65c_isEmpty_aae02 1 = .ok (.getfield 48, 3) := by decide +kernel
theorem dJx4a65c_isEmpty_aae02_4 : decode cJx4a65c_isEmpty_aae02 4 = .ok (.ifCond .ne 7, 3) := by decide +kernel
theorem dJx4a65c_isEmpty_aae02_7 : decode cJx4a65c_isEmpty_aae02 7 = .ok (.iconst 1, 1) := by decide +kernel
theorem dJx4a65c_isEmpty_aae02_8 : decode cJx4a65c_isEmpty_aae02 8 = .ok (.goto 4, 3) := by decide +kernel
theorem dJx4a65c_isEmpty_aae02_12 : decode cJx4a65c_isEmpty_aae02 12 = .ok (.ireturn, 1) := by decide +kernel
theorem dJx4a65c_add_72be8_0 : decode cJx4a65c_add_72be8 0 = .ok (.iload_n 3, 1) := by decide +kernel
theorem dJx4a65c_add_72be8_1 : decode cJx4a65c_add_72be8 1 = .ok (.aload_n 2, 1) := by decide +kernel
theorem dJx4a65c_add_72be8_2 : decode cJx4a65c_add_72be8 2 = .ok (.arraylength, 1) := by decide +kernel
theorem dJx4a65c_add_72be8_3 : decode cJx4a65c_add_72be8 3 = .ok (.if_icmp .ne 8, 3) := by decide +kernel
theorem dJx4a65c_add_72be8_6 : decode cJx4a65c_add_72be8 6 = .ok (.aload_n 0, 1) := by decide +kernel
theorem dJx4a65c_add_72be8_7 : decode cJx4a65c_add_72be8 7 = .ok (.invokevirtual 129, 3) := by decide +kernel
theorem dJx4a65c_add_72be8_10 : decode cJx4a65c_add_72be8 10 = .ok (.astore_n 2, 1) := by decide +kernel
theorem dJx4a65c_add_72be8_11 : decode cJx4a65c_add_72be8 11 = .ok (.aload_n 2, 1) := by decide +kernel
theorem dJx4a65c_add_72be8_12 : decode cJx4a65c_add_72be8 12 = .ok (.iload_n 3, 1) := by decide +kernel
theorem dJx4a65c_add_72be8_13 : decode cJx4a65c_add_72be8 13 = .ok (.aload_n 1, 1) := by decide +kernel
theorem dJx4a65c_add_72be8_14 : decode cJx4a65c_add_72be8 14 = .ok (.aastore, 1) := by decide +kernel
theorem dJx4a65c_add_72be8_15 : decode cJx4a65c_add_72be8 15 = .ok (.aload_n 0, 1) := by decide +kernel
theorem dJx4a65c_add_72be8_16 : decode cJx4a65c_add_72be8 16 = .ok (.iload_n 3, 1) := by decide +kernel
theorem dJx4a65c_add_72be8_17 : decode cJx4a65c_add_72be8 17 = .ok (.iconst 1, 1) := by decide +kernel
theorem dJx4a65c_add_72be8_18 : decode cJx4a65c_add_72be8 18 = .ok (.iadd, 1) := by decide +kernel
theorem dJx4a65c_add_72be8_19 : decode cJx4a65c_add_72be8 19 = .ok (.putfield 48, 3) := by decide +kernel
theorem dJx4a65c_add_72be8_22 : decode cJx4a65c_add_72be8 22 = .ok (.return_, 1) := by decide +kernel
theorem dJx4a65c_add_9ea2d_0 : decode cJx4a65c_add_9ea2d 0 = .ok (.aload_n 0, 1) := by decide +kernel
theorem dJx4a65c_add_9ea2d_1 : decode cJx4a65c_add_9ea2d 1 = .ok (.dup, 1) := by decide +kernel
theorem dJx4a65c_add_9ea2d_2 : decode cJx4a65c_add_9ea2d 2 = .ok (.getfield 63, 3) := by decide +kernel
theorem dJx4a65c_add_9ea2d_5 : decode cJx4a65c_add_9ea2d 5 = .ok (.iconst 1, 1) := by decide +kernel
theorem dJx4a65c_add_9ea2d_6 : decode cJx4a65c_add_9ea2d 6 = .ok (.iadd, 1) := by decide +kernel
theorem dJx4a65c_add_9ea2d_7 : decode cJx4a65c_add_9ea2d 7 = .ok (.putfield 63, 3) := by decide +kernel
theorem dJx4a65c_add_9ea2d_10 : decode cJx4a65c_add_9ea2d 10 = .ok (.aload_n 0, 1) := by decide +kernel
theorem dJx4a65c_add_9ea2d_11 : decode cJx4a65c_add_9ea2d 11 = .ok (.aload_n 1, 1) := by decide +kernel
theorem dJx4a65c_add_9ea2d_12 : decode cJx4a65c_add_9ea2d 12 = .ok (.aload_n 0, 1) := by decide +kernel
theorem dJx4a65c_add_9ea2d_13 : decode cJx4a65c_add_9ea2d 13 = .ok (.getfield 9, 3) := by decide +kernel
theorem dJx4a65c_add_9ea2d_16 : decode cJx4a65c_add_9ea2d 16 = .ok (.aload_n 0, 1) := by decide +kernel
theorem dJx4a65c_add_9ea2d_17 : decode cJx4a65c_add_9ea2d 17 = .ok (.getfield 48, 3) := by decide +kernel
theorem dJx4a65c_add_9ea2d_20 : decode cJx4a65c_add_9ea2d 20 = .ok (.invokevirtual 131, 3) := by decide +kernel
theorem dJx4a65c_add_9ea2d_23 : decode cJx4a65c_add_9ea2d 23 = .ok (.iconst 1, 1) := by decide +kernel
theorem dJx4a65c_add_9ea2d_24 : decode cJx4a65c_add_9ea2d 24 = .ok (.ireturn, 1) := by decide +kernel
theorem dJx4a65c_iterator_32c93_0 : decode cJx4a65c_iterator_32c93 0 = .ok (.new 267, 3) := by decide +kernel
theorem dJx4a65c_iterator_32c93_3 : decode cJx4a65c_iterator_32c93 3 = .ok (.dup, 1) := by decide +kernel
theorem dJx4a65c_iterator_32c93_4 : decode cJx4a65c_iterator_32c93 4 = .ok (.aload_n 0, 1) := by decide +kernel
theorem dJx4a65c_iterator_32c93_5 : decode cJx4a65c_iterator_32c93 5 = .ok (.invokespecial 269, 3) := by decide +kernel
theorem dJx4a65c_iterator_32c93_8 : decode cJx4a65c_iterator_32c93 8 = .ok (.areturn, 1) := by decide +kernel
theorem dJ7_fill_53178_0 : decode cJ7_fill_53178 0 = .ok (.iconst 0, 1) := by decide +kernel
theorem dJ7_fill_53178_1 : decode cJ7_fill_53178 1 = .ok (.istore_n 2, 1) := by decide +kernel
theorem dJ7_fill_53178_2 : decode cJ7_fill_53178 2 = .ok (.aload_n 0, 1) := by decide +kernel
theorem dJ7_fill_53178_3 : decode cJ7_fill_53178 3 = .ok (.arraylength, 1) := by decide +kernel
theorem dJ7_fill_53178_4 : decode cJ7_fill_53178 4 = .ok (.istore_n 3, 1) := by decide +kernel
theorem dJ7_fill_53178_5 : decode cJ7_fill_53178 5 = .ok (.iload_n 2, 1) := by decide +kernel
theorem dJ7_fill_53178_6 : decode cJ7_fill_53178 6 = .ok (.iload_n 3, 1) := by decide +kernel
theorem dJ7_fill_53178_7 : decode cJ7_fill_53178 7 = .ok (.if_icmp .ge 13, 3) := by decide +kernel
theorem dJ7_fill_53178_10 : decode cJ7_fill_53178 10 = .ok (.aload_n 0, 1) := by decide +kernel
theorem dJ7_fill_53178_11 : decode cJ7_fill_53178 11 = .ok (.iload_n 2, 1) := by decide +kernel
theorem dJ7_fill_53178_12 : decode cJ7_fill_53178 12 = .ok (.iload_n 1, 1) := by decide +kernel
theorem dJ7_fill_53178_13 : decode cJ7_fill_53178 13 = .ok (.iastore, 1) := by decide +kernel
theorem dJ7_fill_53178_14 : decode cJ7_fill_53178 14 = .ok (.iinc 2 1, 3) := by decide +kernel
theorem dJ7_fill_53178_17 : decode cJ7_fill_53178 17 = .ok (.goto (-12), 3) := by decide +kernel
theorem dJ7_fill_53178_20 : decode cJ7_fill_53178 20 = .ok (.return_, 1) := by decide +kernel
theorem dL_panel_0 : decode cL_panel 0 = .ok (.aload_n 2, 1) := by decide +kernel
theorem dL_panel_1 : decode cL_panel 1 = .ok (.iconst 0, 1) := by decide +kernel
theorem dL_panel_2 : decode cL_panel 2 = .ok (.aload_n 0, 1) := by decide +kernel
theorem dL_panel_3 : decode cL_panel 3 = .ok (.iload_n 1, 1) := by decide +kernel
theorem dL_panel_4 : decode cL_panel 4 = .ok (.invokevirtual 7, 3) := by decide +kernel
theorem dL_panel_7 : decode cL_panel 7 = .ok (.i2l, 1) := by decide +kernel
theorem dL_panel_8 : decode cL_panel 8 = .ok (.lastore, 1) := by decide +kernel
theorem dL_panel_9 : decode cL_panel 9 = .ok (.goto 9, 3) := by decide +kernel
theorem dL_panel_18 : decode cL_panel 18 = .ok (.iconst 0, 1) := by decide +kernel
theorem dL_panel_19 : decode cL_panel 19 = .ok (.ireturn, 1) := by decide +kernel
theorem dL_spot_0 : decode cL_spot 0 = .ok (.aload 7, 2) := by decide +kernel
theorem dL_spot_2 : decode cL_spot 2 = .ok (.iconst 0, 1) := by decide +kernel
theorem dL_spot_3 : decode cL_spot 3 = .ok (.aload_n 0, 1) := by decide +kernel
theorem dL_spot_4 : decode cL_spot 4 = .ok (.iload_n 1, 1) := by decide +kernel
theorem dL_spot_5 : decode cL_spot 5 = .ok (.iload_n 2, 1) := by decide +kernel
theorem dL_spot_6 : decode cL_spot 6 = .ok (.iload_n 3, 1) := by decide +kernel
theorem dL_spot_7 : decode cL_spot 7 = .ok (.iload 4, 2) := by decide +kernel
theorem dL_spot_9 : decode cL_spot 9 = .ok (.iload 5, 2) := by decide +kernel
theorem dL_spot_11 : decode cL_spot 11 = .ok (.iload 6, 2) := by decide +kernel
theorem dL_spot_13 : decode cL_spot 13 = .ok (.invokevirtual 17, 3) := by decide +kernel
theorem dL_spot_21 : decode cL_spot 21 = .ok (.astore 8, 2) := by decide +kernel
theorem dL_spot_23 : decode cL_spot 23 = .ok (.iconst 1, 1) := by decide +kernel
theorem dL_spot_24 : decode cL_spot 24 = .ok (.ireturn, 1) := by decide +kernel
theorem dL_spots_0 : decode cL_spots 0 = .ok (.aload_n 2, 1) := by decide +kernel
theorem dL_spots_1 : decode cL_spots 1 = .ok (.iconst 0, 1) := by decide +kernel
theorem dL_spots_2 : decode cL_spots 2 = .ok (.aload_n 0, 1) := by decide +kernel
theorem dL_spots_3 : decode cL_spots 3 = .ok (.iload_n 1, 1) := by decide +kernel
theorem dL_spots_4 : decode cL_spots 4 = .ok (.invokevirtual 25, 3) := by decide +kernel
theorem dL_spots_7 : decode cL_spots 7 = .ok (.i2l, 1) := by decide +kernel
theorem dL_spots_8 : decode cL_spots 8 = .ok (.lastore, 1) := by decide +kernel
theorem dL_spots_9 : decode cL_spots 9 = .ok (.goto 6, 3) := by decide +kernel
theorem dL_spots_12 : decode cL_spots 12 = .ok (.astore_n 3, 1) := by decide +kernel
theorem dL_spots_13 : decode cL_spots 13 = .ok (.iconst 1, 1) := by decide +kernel
theorem dL_spots_14 : decode cL_spots 14 = .ok (.ireturn, 1) := by decide +kernel
theorem dL_spots_15 : decode cL_spots 15 = .ok (.iconst 0, 1) := by decide +kernel
theorem dL_spots_16 : decode cL_spots 16 = .ok (.ireturn, 1) := by decide +kernel
theorem dL_isHeld_0 : decode cL_isHeld 0 = .ok (.aload_n 2, 1) := by decide +kernel
theorem dL_isHeld_1 : decode cL_isHeld 1 = .ok (.iconst 0, 1) := by decide +kernel
theorem dL_isHeld_2 : decode cL_isHeld 2 = .ok (.aload_n 0, 1) := by decide +kernel
theorem dL_isHeld_3 : decode cL_isHeld 3 = .ok (.iload_n 1, 1) := by decide +kernel
theorem dL_isHeld_4 : decode cL_isHeld 4 = .ok (.invokevirtual 28, 3) := by decide +kernel
theorem dL_isHeld_7 : decode cL_isHeld 7 = .ok (.ifCond .eq 7, 3) := by decide +kernel
theorem dL_isHeld_10 : decode cL_isHeld 10 = .ok (.lconst 1, 1) := by decide +kernel
theorem dL_isHeld_11 : decode cL_isHeld 11 = .ok (.goto 4, 3) := by decide +kernel
theorem dL_isHeld_15 : decode cL_isHeld 15 = .ok (.lastore, 1) := by decide +kernel
theorem dL_isHeld_16 : decode cL_isHeld 16 = .ok (.goto 6, 3) := by decide +kernel
theorem dL_isHeld_19 : decode cL_isHeld 19 = .ok (.astore_n 3, 1) := by decide +kernel
theorem dL_isHeld_20 : decode cL_isHeld 20 = .ok (.iconst 1, 1) := by decide +kernel
theorem dL_isHeld_21 : decode cL_isHeld 21 = .ok (.ireturn, 1) := by decide +kernel
theorem dL_isHeld_22 : decode cL_isHeld 22 = .ok (.iconst 0, 1) := by decide +kernel
theorem dL_isHeld_23 : decode cL_isHeld 23 = .ok (.ireturn, 1) := by decide +kernel
theorem dL_station_0 : decode cL_station 0 = .ok (.aload_n 1, 1) := by decide +kernel
theorem dL_station_1 : decode cL_station 1 = .ok (.iconst 0, 1) := by decide +kernel
theorem dL_station_2 : decode cL_station 2 = .ok (.aload_n 0, 1) := by decide +kernel
theorem dL_station_3 : decode cL_station 3 = .ok (.invokevirtual 32, 3) := by decide +kernel
theorem dL_station_6 : decode cL_station 6 = .ok (.i2l, 1) := by decide +kernel
theorem dL_station_7 : decode cL_station 7 = .ok (.lastore, 1) := by decide +kernel
theorem dL_station_8 : decode cL_station 8 = .ok (.goto 6, 3) := by decide +kernel
theorem dL_station_14 : decode cL_station 14 = .ok (.iconst 0, 1) := by decide +kernel
theorem dL_station_15 : decode cL_station 15 = .ok (.ireturn, 1) := by decide +kernel
theorem dL_robot_0 : decode cL_robot 0 = .ok (.aload 4, 2) := by decide +kernel
theorem dL_robot_2 : decode cL_robot 2 = .ok (.iconst 0, 1) := by decide +kernel
theorem dL_robot_3 : decode cL_robot 3 = .ok (.aload_n 0, 1) := by decide +kernel
theorem dL_robot_4 : decode cL_robot 4 = .ok (.iload_n 1, 1) := by decide +kernel
theorem dL_robot_5 : decode cL_robot 5 = .ok (.iload_n 2, 1) := by decide +kernel
theorem dL_robot_6 : decode cL_robot 6 = .ok (.iload_n 3, 1) := by decide +kernel
theorem dL_robot_7 : decode cL_robot 7 = .ok (.invokevirtual 36, 3) := by decide +kernel
theorem dL_robot_15 : decode cL_robot 15 = .ok (.astore 5, 2) := by decide +kernel
theorem dL_robot_17 : decode cL_robot 17 = .ok (.iconst 1, 1) := by decide +kernel
theorem dL_robot_18 : decode cL_robot 18 = .ok (.ireturn, 1) := by decide +kernel
theorem dL_reaches_0 : decode cL_reaches 0 = .ok (.aload_n 3, 1) := by decide +kernel
theorem dL_reaches_1 : decode cL_reaches 1 = .ok (.iconst 0, 1) := by decide +kernel
theorem dL_reaches_2 : decode cL_reaches 2 = .ok (.aload_n 0, 1) := by decide +kernel
theorem dL_reaches_3 : decode cL_reaches 3 = .ok (.iload_n 1, 1) := by decide +kernel
theorem dL_reaches_4 : decode cL_reaches 4 = .ok (.iload_n 2, 1) := by decide +kernel
theorem dL_reaches_5 : decode cL_reaches 5 = .ok (.invokevirtual 40, 3) := by decide +kernel
theorem dL_reaches_20 : decode cL_reaches 20 = .ok (.astore 4, 2) := by decide +kernel
theorem dL_reaches_22 : decode cL_reaches 22 = .ok (.iconst 1, 1) := by decide +kernel
theorem dL_reaches_23 : decode cL_reaches 23 = .ok (.ireturn, 1) := by decide +kernel
theorem dL_swept_0 : decode cL_swept 0 = .ok (.aload_n 3, 1) := by decide +kernel
theorem dL_swept_1 : decode cL_swept 1 = .ok (.iconst 0, 1) := by decide +kernel
theorem dL_swept_2 : decode cL_swept 2 = .ok (.aload_n 0, 1) := by decide +kernel
theorem dL_swept_3 : decode cL_swept 3 = .ok (.iload_n 1, 1) := by decide +kernel
theorem dL_swept_4 : decode cL_swept 4 = .ok (.iload_n 2, 1) := by decide +kernel
theorem dL_swept_5 : decode cL_swept 5 = .ok (.invokevirtual 44, 3) := by decide +kernel
theorem dL_swept_8 : decode cL_swept 8 = .ok (.i2l, 1) := by decide +kernel
theorem dL_swept_9 : decode cL_swept 9 = .ok (.lastore, 1) := by decide +kernel
theorem dL_swept_10 : decode cL_swept 10 = .ok (.goto 7, 3) := by decide +kernel
theorem dL_swept_13 : decode cL_swept 13 = .ok (.astore 4, 2) := by decide +kernel
theorem dL_swept_15 : decode cL_swept 15 = .ok (.iconst 1, 1) := by decide +kernel
theorem dL_swept_16 : decode cL_swept 16 = .ok (.ireturn, 1) := by decide +kernel
theorem dL_swept_17 : decode cL_swept 17 = .ok (.iconst 0, 1) := by decide +kernel
theorem dL_swept_18 : decode cL_swept 18 = .ok (.ireturn, 1) := by decide +kernel
theorem dL_current_0 : decode cL_current 0 = .ok (.aload_n 3, 1) := by decide +kernel
theorem dL_current_1 : decode cL_current 1 = .ok (.iconst 0, 1) := by decide +kernel
theorem dL_current_2 : decode cL_current 2 = .ok (.aload_n 0, 1) := by decide +kernel
theorem dL_current_3 : decode cL_current 3 = .ok (.iload_n 1, 1) := by decide +kernel
theorem dL_current_4 : decode cL_current 4 = .ok (.iload_n 2, 1) := by decide +kernel
theorem dL_current_5 : decode cL_current 5 = .ok (.invokevirtual 48, 3) := by decide +kernel
theorem dL_current_13 : decode cL_current 13 = .ok (.astore 4, 2) := by decide +kernel
theorem dL_current_15 : decode cL_current 15 = .ok (.iconst 1, 1) := by decide +kernel
theorem dL_current_16 : decode cL_current 16 = .ok (.ireturn, 1) := by decide +kernel
theorem dL_step_0 : decode cL_step 0 = .ok (.aload 5, 2) := by decide +kernel
theorem dL_step_2 : decode cL_step 2 = .ok (.iconst 0, 1) := by decide +kernel
theorem dL_step_3 : decode cL_step 3 = .ok (.aload_n 0, 1) := by decide +kernel
theorem dL_step_4 : decode cL_step 4 = .ok (.iload_n 1, 1) := by decide +kernel
theorem dL_step_5 : decode cL_step 5 = .ok (.iload_n 2, 1) := by decide +kernel
theorem dL_step_6 : decode cL_step 6 = .ok (.iload_n 3, 1) := by decide +kernel
theorem dL_step_7 : decode cL_step 7 = .ok (.iload 4, 2) := by decide +kernel
theorem dL_step_9 : decode cL_step 9 = .ok (.invokevirtual 51, 3) := by decide +kernel
theorem dL_step_17 : decode cL_step 17 = .ok (.astore 6, 2) := by decide +kernel
theorem dL_step_19 : decode cL_step 19 = .ok (.iconst 1, 1) := by decide +kernel
theorem dL_step_20 : decode cL_step 20 = .ok (.ireturn, 1) := by decide +kernel
theorem dL_erase_0 : decode cL_erase 0 = .ok (.aload_n 3, 1) := by decide +kernel
theorem dL_erase_1 : decode cL_erase 1 = .ok (.iconst 0, 1) := by decide +kernel
theorem dL_erase_2 : decode cL_erase 2 = .ok (.aload_n 0, 1) := by decide +kernel
theorem dL_erase_3 : decode cL_erase 3 = .ok (.iload_n 1, 1) := by decide +kernel
theorem dL_erase_4 : decode cL_erase 4 = .ok (.iload_n 2, 1) := by decide +kernel
theorem dL_erase_5 : decode cL_erase 5 = .ok (.invokevirtual 55, 3) := by decide +kernel
theorem dL_erase_13 : decode cL_erase 13 = .ok (.astore 4, 2) := by decide +kernel
theorem dL_erase_15 : decode cL_erase 15 = .ok (.iconst 1, 1) := by decide +kernel
theorem dL_erase_16 : decode cL_erase 16 = .ok (.ireturn, 1) := by decide +kernel
theorem dL_steps_0 : decode cL_steps 0 = .ok (.aload_n 3, 1) := by decide +kernel
theorem dL_steps_1 : decode cL_steps 1 = .ok (.iconst 0, 1) := by decide +kernel
theorem dL_steps_2 : decode cL_steps 2 = .ok (.aload_n 0, 1) := by decide +kernel
theorem dL_steps_3 : decode cL_steps 3 = .ok (.iload_n 1, 1) := by decide +kernel
theorem dL_steps_4 : decode cL_steps 4 = .ok (.iload_n 2, 1) := by decide +kernel
theorem dL_steps_5 : decode cL_steps 5 = .ok (.invokevirtual 58, 3) := by decide +kernel
theorem dL_steps_13 : decode cL_steps 13 = .ok (.astore 4, 2) := by decide +kernel
theorem dL_steps_15 : decode cL_steps 15 = .ok (.iconst 1, 1) := by decide +kernel
theorem dL_steps_16 : decode cL_steps 16 = .ok (.ireturn, 1) := by decide +kernel
theorem dL_welds_0 : decode cL_welds 0 = .ok (.aload_n 3, 1) := by decide +kernel
theorem dL_welds_1 : decode cL_welds 1 = .ok (.iconst 0, 1) := by decide +kernel
theorem dL_welds_2 : decode cL_welds 2 = .ok (.aload_n 0, 1) := by decide +kernel
theorem dL_welds_3 : decode cL_welds 3 = .ok (.iload_n 1, 1) := by decide +kernel
theorem dL_welds_4 : decode cL_welds 4 = .ok (.iload_n 2, 1) := by decide +kernel
theorem dL_welds_5 : decode cL_welds 5 = .ok (.invokevirtual 61, 3) := by decide +kernel
theorem dL_welds_13 : decode cL_welds 13 = .ok (.astore 4, 2) := by decide +kernel
theorem dL_welds_15 : decode cL_welds 15 = .ok (.iconst 1, 1) := by decide +kernel
theorem dL_welds_16 : decode cL_welds 16 = .ok (.ireturn, 1) := by decide +kernel
theorem dL_proof_0 : decode cL_proof 0 = .ok (.aload_n 3, 1) := by decide +kernel
theorem dL_proof_1 : decode cL_proof 1 = .ok (.iconst 0, 1) := by decide +kernel
theorem dL_proof_2 : decode cL_proof 2 = .ok (.aload_n 0, 1) := by decide +kernel
theorem dL_proof_3 : decode cL_proof 3 = .ok (.iload_n 1, 1) := by decide +kernel
theorem dL_proof_4 : decode cL_proof 4 = .ok (.iload_n 2, 1) := by decide +kernel
theorem dL_proof_5 : decode cL_proof 5 = .ok (.invokevirtual 64, 3) := by decide +kernel
theorem dL_proof_13 : decode cL_proof 13 = .ok (.astore 4, 2) := by decide +kernel
theorem dL_proof_15 : decode cL_proof 15 = .ok (.iconst 1, 1) := by decide +kernel
theorem dL_proof_16 : decode cL_proof 16 = .ok (.ireturn, 1) := by decide +kernel
theorem dL_states_0 : decode cL_states 0 = .ok (.aload_n 3, 1) := by decide +kernel
theorem dL_states_1 : decode cL_states 1 = .ok (.iconst 0, 1) := by decide +kernel
theorem dL_states_2 : decode cL_states 2 = .ok (.aload_n 0, 1) := by decide +kernel
theorem dL_states_3 : decode cL_states 3 = .ok (.iload_n 1, 1) := by decide +kernel
theorem dL_states_4 : decode cL_states 4 = .ok (.iload_n 2, 1) := by decide +kernel
theorem dL_states_5 : decode cL_states 5 = .ok (.invokevirtual 68, 3) := by decide +kernel
theorem dL_states_13 : decode cL_states 13 = .ok (.astore 4, 2) := by decide +kernel
theorem dL_states_15 : decode cL_states 15 = .ok (.iconst 1, 1) := by decide +kernel
theorem dL_states_16 : decode cL_states 16 = .ok (.ireturn, 1) := by decide +kernel
theorem dL_uncovered_0 : decode cL_uncovered 0 = .ok (.aload_n 2, 1) := by decide +kernel
theorem dL_uncovered_1 : decode cL_uncovered 1 = .ok (.iconst 0, 1) := by decide +kernel
theorem dL_uncovered_2 : decode cL_uncovered 2 = .ok (.aload_n 0, 1) := by decide +kernel
theorem dL_uncovered_3 : decode cL_uncovered 3 = .ok (.iload_n 1, 1) := by decide +kernel
theorem dL_uncovered_4 : decode cL_uncovered 4 = .ok (.invokevirtual 71, 3) := by decide +kernel
theorem dL_uncovered_7 : decode cL_uncovered 7 = .ok (.i2l, 1) := by decide +kernel
theorem dL_uncovered_8 : decode cL_uncovered 8 = .ok (.lastore, 1) := by decide +kernel
theorem dL_uncovered_9 : decode cL_uncovered 9 = .ok (.goto 6, 3) := by decide +kernel
theorem dL_uncovered_12 : decode cL_uncovered 12 = .ok (.astore_n 3, 1) := by decide +kernel
theorem dL_uncovered_13 : decode cL_uncovered 13 = .ok (.iconst 1, 1) := by decide +kernel
theorem dL_uncovered_14 : decode cL_uncovered 14 = .ok (.ireturn, 1) := by decide +kernel
theorem dL_uncovered_15 : decode cL_uncovered 15 = .ok (.iconst 0, 1) := by decide +kernel
theorem dL_uncovered_16 : decode cL_uncovered 16 = .ok (.ireturn, 1) := by decide +kernel
theorem dL_deal_0 : decode cL_deal 0 = .ok (.aload_n 2, 1) := by decide +kernel
theorem dL_deal_1 : decode cL_deal 1 = .ok (.iconst 0, 1) := by decide +kernel
theorem dL_deal_2 : decode cL_deal 2 = .ok (.aload_n 0, 1) := by decide +kernel
theorem dL_deal_3 : decode cL_deal 3 = .ok (.iload_n 1, 1) := by decide +kernel
theorem dL_deal_4 : decode cL_deal 4 = .ok (.invokevirtual 74, 3) := by decide +kernel
theorem dL_deal_7 : decode cL_deal 7 = .ok (.i2l, 1) := by decide +kernel
theorem dL_deal_8 : decode cL_deal 8 = .ok (.lastore, 1) := by decide +kernel
theorem dL_deal_9 : decode cL_deal 9 = .ok (.goto 6, 3) := by decide +kernel
theorem dL_deal_12 : decode cL_deal 12 = .ok (.astore_n 3, 1) := by decide +kernel
theorem dL_deal_13 : decode cL_deal 13 = .ok (.iconst 1, 1) := by decide +kernel
theorem dL_deal_14 : decode cL_deal 14 = .ok (.ireturn, 1) := by decide +kernel
theorem dL_deal_15 : decode cL_deal 15 = .ok (.iconst 0, 1) := by decide +kernel
theorem dL_deal_16 : decode cL_deal 16 = .ok (.ireturn, 1) := by decide +kernel
theorem dL_order_0 : decode cL_order 0 = .ok (.aload_n 2, 1) := by decide +kernel
theorem dL_order_1 : decode cL_order 1 = .ok (.iconst 0, 1) := by decide +kernel
theorem dL_order_2 : decode cL_order 2 = .ok (.aload_n 0, 1) := by decide +kernel
theorem dL_order_3 : decode cL_order 3 = .ok (.iload_n 1, 1) := by decide +kernel
theorem dL_order_4 : decode cL_order 4 = .ok (.invokevirtual 77, 3) := by decide +kernel
theorem dL_order_7 : decode cL_order 7 = .ok (.i2l, 1) := by decide +kernel
theorem dL_order_8 : decode cL_order 8 = .ok (.lastore, 1) := by decide +kernel
theorem dL_order_9 : decode cL_order 9 = .ok (.goto 9, 3) := by decide +kernel
theorem dL_order_12 : decode cL_order 12 = .ok (.astore_n 3, 1) := by decide +kernel
theorem dL_order_13 : decode cL_order 13 = .ok (.iconst 1, 1) := by decide +kernel
theorem dL_order_14 : decode cL_order 14 = .ok (.ireturn, 1) := by decide +kernel
theorem dL_order_18 : decode cL_order 18 = .ok (.iconst 0, 1) := by decide +kernel
theorem dL_order_19 : decode cL_order 19 = .ok (.ireturn, 1) := by decide +kernel
theorem dL_beat_0 : decode cL_beat 0 = .ok (.aload_n 1, 1) := by decide +kernel
theorem dL_beat_1 : decode cL_beat 1 = .ok (.iconst 0, 1) := by decide +kernel
theorem dL_beat_2 : decode cL_beat 2 = .ok (.aload_n 0, 1) := by decide +kernel
theorem dL_beat_3 : decode cL_beat 3 = .ok (.invokevirtual 80, 3) := by decide +kernel
theorem dL_beat_11 : decode cL_beat 11 = .ok (.astore_n 2, 1) := by decide +kernel
theorem dL_beat_12 : decode cL_beat 12 = .ok (.iconst 1, 1) := by decide +kernel
theorem dL_beat_13 : decode cL_beat 13 = .ok (.ireturn, 1) := by decide +kernel
theorem dL_at_0 : decode cL_at 0 = .ok (.aload_n 2, 1) := by decide +kernel
theorem dL_at_1 : decode cL_at 1 = .ok (.iconst 0, 1) := by decide +kernel
theorem dL_at_2 : decode cL_at 2 = .ok (.aload_n 0, 1) := by decide +kernel
theorem dL_at_3 : decode cL_at 3 = .ok (.iload_n 1, 1) := by decide +kernel
theorem dL_at_4 : decode cL_at 4 = .ok (.invokevirtual 83, 3) := by decide +kernel
theorem dL_at_12 : decode cL_at 12 = .ok (.astore_n 3, 1) := by decide +kernel
theorem dL_at_13 : decode cL_at 13 = .ok (.iconst 1, 1) := by decide +kernel
theorem dL_at_14 : decode cL_at 14 = .ok (.ireturn, 1) := by decide +kernel
theorem dL_where_0 : decode cL_where 0 = .ok (.aload_n 2, 1) := by decide +kernel
theorem dL_where_1 : decode cL_where 1 = .ok (.iconst 0, 1) := by decide +kernel
theorem dL_where_2 : decode cL_where 2 = .ok (.aload_n 0, 1) := by decide +kernel
theorem dL_where_3 : decode cL_where 3 = .ok (.iload_n 1, 1) := by decide +kernel
theorem dL_where_4 : decode cL_where 4 = .ok (.invokevirtual 88, 3) := by decide +kernel
theorem dL_where_12 : decode cL_where 12 = .ok (.astore_n 3, 1) := by decide +kernel
theorem dL_where_13 : decode cL_where 13 = .ok (.iconst 1, 1) := by decide +kernel
theorem dL_where_14 : decode cL_where 14 = .ok (.ireturn, 1) := by decide +kernel
theorem dL_stand_0 : decode cL_stand 0 = .ok (.aload_n 3, 1) := by decide +kernel
theorem dL_stand_1 : decode cL_stand 1 = .ok (.iconst 0, 1) := by decide +kernel
theorem dL_stand_2 : decode cL_stand 2 = .ok (.aload_n 0, 1) := by decide +kernel
theorem dL_stand_3 : decode cL_stand 3 = .ok (.iload_n 1, 1) := by decide +kernel
theorem dL_stand_4 : decode cL_stand 4 = .ok (.iload_n 2, 1) := by decide +kernel
theorem dL_stand_5 : decode cL_stand 5 = .ok (.invokevirtual 91, 3) := by decide +kernel
theorem dL_stand_20 : decode cL_stand 20 = .ok (.astore 4, 2) := by decide +kernel
theorem dL_stand_22 : decode cL_stand 22 = .ok (.iconst 1, 1) := by decide +kernel
theorem dL_stand_23 : decode cL_stand 23 = .ok (.ireturn, 1) := by decide +kernel
theorem dL_letters_0 : decode cL_letters 0 = .ok (.aload_n 3, 1) := by decide +kernel
theorem dL_letters_1 : decode cL_letters 1 = .ok (.iconst 0, 1) := by decide +kernel
theorem dL_letters_2 : decode cL_letters 2 = .ok (.aload_n 0, 1) := by decide +kernel
theorem dL_letters_3 : decode cL_letters 3 = .ok (.iload_n 1, 1) := by decide +kernel
theorem dL_letters_4 : decode cL_letters 4 = .ok (.iload_n 2, 1) := by decide +kernel
theorem dL_letters_5 : decode cL_letters 5 = .ok (.invokevirtual 95, 3) := by decide +kernel
theorem dL_letters_13 : decode cL_letters 13 = .ok (.astore 4, 2) := by decide +kernel
theorem dL_letters_15 : decode cL_letters 15 = .ok (.iconst 1, 1) := by decide +kernel
theorem dL_letters_16 : decode cL_letters 16 = .ok (.ireturn, 1) := by decide +kernel
theorem dL_die_0 : decode cL_die 0 = .ok (.aload_n 3, 1) := by decide +kernel
theorem dL_die_1 : decode cL_die 1 = .ok (.iconst 0, 1) := by decide +kernel
theorem dL_die_2 : decode cL_die 2 = .ok (.aload_n 0, 1) := by decide +kernel
theorem dL_die_3 : decode cL_die 3 = .ok (.iload_n 1, 1) := by decide +kernel
theorem dL_die_4 : decode cL_die 4 = .ok (.iload_n 2, 1) := by decide +kernel
theorem dL_die_5 : decode cL_die 5 = .ok (.invokevirtual 99, 3) := by decide +kernel
theorem dL_die_20 : decode cL_die 20 = .ok (.astore 4, 2) := by decide +kernel
theorem dL_die_22 : decode cL_die 22 = .ok (.iconst 1, 1) := by decide +kernel
theorem dL_die_23 : decode cL_die 23 = .ok (.ireturn, 1) := by decide +kernel
theorem dL_standIn_0 : decode cL_standIn 0 = .ok (.aload_n 3, 1) := by decide +kernel
theorem dL_standIn_1 : decode cL_standIn 1 = .ok (.iconst 0, 1) := by decide +kernel
theorem dL_standIn_2 : decode cL_standIn 2 = .ok (.aload_n 0, 1) := by decide +kernel
theorem dL_standIn_3 : decode cL_standIn 3 = .ok (.iload_n 1, 1) := by decide +kernel
theorem dL_standIn_4 : decode cL_standIn 4 = .ok (.iload_n 2, 1) := by decide +kernel
theorem dL_standIn_5 : decode cL_standIn 5 = .ok (.invokevirtual 102, 3) := by decide +kernel
theorem dL_standIn_13 : decode cL_standIn 13 = .ok (.astore 4, 2) := by decide +kernel
theorem dL_standIn_15 : decode cL_standIn 15 = .ok (.iconst 1, 1) := by decide +kernel
theorem dL_standIn_16 : decode cL_standIn 16 = .ok (.ireturn, 1) := by decide +kernel
theorem dL_wear_0 : decode cL_wear 0 = .ok (.aload_n 2, 1) := by decide +kernel
theorem dL_wear_1 : decode cL_wear 1 = .ok (.iconst 0, 1) := by decide +kernel
theorem dL_wear_2 : decode cL_wear 2 = .ok (.aload_n 0, 1) := by decide +kernel
theorem dL_wear_3 : decode cL_wear 3 = .ok (.iload_n 1, 1) := by decide +kernel
theorem dL_wear_4 : decode cL_wear 4 = .ok (.invokevirtual 105, 3) := by decide +kernel
theorem dL_wear_12 : decode cL_wear 12 = .ok (.astore_n 3, 1) := by decide +kernel
theorem dL_wear_13 : decode cL_wear 13 = .ok (.iconst 1, 1) := by decide +kernel
theorem dL_wear_14 : decode cL_wear 14 = .ok (.ireturn, 1) := by decide +kernel
theorem dL_dress_0 : decode cL_dress 0 = .ok (.aload_n 2, 1) := by decide +kernel
theorem dL_dress_1 : decode cL_dress 1 = .ok (.iconst 0, 1) := by decide +kernel
theorem dL_dress_2 : decode cL_dress 2 = .ok (.aload_n 0, 1) := by decide +kernel
theorem dL_dress_3 : decode cL_dress 3 = .ok (.iload_n 1, 1) := by decide +kernel
theorem dL_dress_4 : decode cL_dress 4 = .ok (.invokevirtual 108, 3) := by decide +kernel
theorem dL_dress_12 : decode cL_dress 12 = .ok (.astore_n 3, 1) := by decide +kernel
theorem dL_dress_13 : decode cL_dress 13 = .ok (.iconst 1, 1) := by decide +kernel
theorem dL_dress_14 : decode cL_dress 14 = .ok (.ireturn, 1) := by decide +kernel
theorem dL_change_0 : decode cL_change 0 = .ok (.aload_n 2, 1) := by decide +kernel
theorem dL_change_1 : decode cL_change 1 = .ok (.iconst 0, 1) := by decide +kernel
theorem dL_change_2 : decode cL_change 2 = .ok (.aload_n 0, 1) := by decide +kernel
theorem dL_change_3 : decode cL_change 3 = .ok (.iload_n 1, 1) := by decide +kernel
theorem dL_change_4 : decode cL_change 4 = .ok (.invokevirtual 111, 3) := by decide +kernel
theorem dL_change_12 : decode cL_change 12 = .ok (.astore_n 3, 1) := by decide +kernel
theorem dL_change_13 : decode cL_change 13 = .ok (.iconst 1, 1) := by decide +kernel
theorem dL_change_14 : decode cL_change 14 = .ok (.ireturn, 1) := by decide +kernel
theorem dL_made_0 : decode cL_made 0 = .ok (.aload_n 2, 1) := by decide +kernel
theorem dL_made_1 : decode cL_made 1 = .ok (.iconst 0, 1) := by decide +kernel
theorem dL_made_2 : decode cL_made 2 = .ok (.aload_n 0, 1) := by decide +kernel
theorem dL_made_3 : decode cL_made 3 = .ok (.iload_n 1, 1) := by decide +kernel
theorem dL_made_4 : decode cL_made 4 = .ok (.invokevirtual 114, 3) := by decide +kernel
theorem dL_made_12 : decode cL_made 12 = .ok (.astore_n 3, 1) := by decide +kernel
theorem dL_made_13 : decode cL_made 13 = .ok (.iconst 1, 1) := by decide +kernel
theorem dL_made_14 : decode cL_made 14 = .ok (.ireturn, 1) := by decide +kernel
theorem dL_lacks_0 : decode cL_lacks 0 = .ok (.aload_n 2, 1) := by decide +kernel
theorem dL_lacks_1 : decode cL_lacks 1 = .ok (.iconst 0, 1) := by decide +kernel
theorem dL_lacks_2 : decode cL_lacks 2 = .ok (.aload_n 0, 1) := by decide +kernel
theorem dL_lacks_3 : decode cL_lacks 3 = .ok (.iload_n 1, 1) := by decide +kernel
theorem dL_lacks_4 : decode cL_lacks 4 = .ok (.invokevirtual 117, 3) := by decide +kernel
theorem dL_lacks_12 : decode cL_lacks 12 = .ok (.astore_n 3, 1) := by decide +kernel
theorem dL_lacks_13 : decode cL_lacks 13 = .ok (.iconst 1, 1) := by decide +kernel
theorem dL_lacks_14 : decode cL_lacks 14 = .ok (.ireturn, 1) := by decide +kernel
theorem dL_isLacking_0 : decode cL_isLacking 0 = .ok (.aload_n 3, 1) := by decide +kernel
theorem dL_isLacking_1 : decode cL_isLacking 1 = .ok (.iconst 0, 1) := by decide +kernel
theorem dL_isLacking_2 : decode cL_isLacking 2 = .ok (.aload_n 0, 1) := by decide +kernel
theorem dL_isLacking_3 : decode cL_isLacking 3 = .ok (.iload_n 1, 1) := by decide +kernel
theorem dL_isLacking_4 : decode cL_isLacking 4 = .ok (.iload_n 2, 1) := by decide +kernel
theorem dL_isLacking_5 : decode cL_isLacking 5 = .ok (.invokevirtual 120, 3) := by decide +kernel
theorem dL_isLacking_20 : decode cL_isLacking 20 = .ok (.astore 4, 2) := by decide +kernel
theorem dL_isLacking_22 : decode cL_isLacking 22 = .ok (.iconst 1, 1) := by decide +kernel
theorem dL_isLacking_23 : decode cL_isLacking 23 = .ok (.ireturn, 1) := by decide +kernel
theorem dL_firstLacking_0 : decode cL_firstLacking 0 = .ok (.aload_n 2, 1) := by decide +kernel
theorem dL_firstLacking_1 : decode cL_firstLacking 1 = .ok (.iconst 0, 1) := by decide +kernel
theorem dL_firstLacking_2 : decode cL_firstLacking 2 = .ok (.aload_n 0, 1) := by decide +kernel
theorem dL_firstLacking_3 : decode cL_firstLacking 3 = .ok (.iload_n 1, 1) := by decide +kernel
theorem dL_firstLacking_4 : decode cL_firstLacking 4 = .ok (.invokevirtual 123, 3) := by decide +kernel
theorem dL_firstLacking_12 : decode cL_firstLacking 12 = .ok (.astore_n 3, 1) := by decide +kernel
theorem dL_firstLacking_13 : decode cL_firstLacking 13 = .ok (.iconst 1, 1) := by decide +kernel
theorem dL_firstLacking_14 : decode cL_firstLacking 14 = .ok (.ireturn, 1) := by decide +kernel
theorem dL_mend_0 : decode cL_mend 0 = .ok (.aload_n 3, 1) := by decide +kernel
theorem dL_mend_1 : decode cL_mend 1 = .ok (.iconst 0, 1) := by decide +kernel
theorem dL_mend_2 : decode cL_mend 2 = .ok (.aload_n 0, 1) := by decide +kernel
theorem dL_mend_3 : decode cL_mend 3 = .ok (.iload_n 1, 1) := by decide +kernel
theorem dL_mend_4 : decode cL_mend 4 = .ok (.iload_n 2, 1) := by decide +kernel
theorem dL_mend_5 : decode cL_mend 5 = .ok (.invokevirtual 126, 3) := by decide +kernel
theorem dL_mend_13 : decode cL_mend 13 = .ok (.astore 4, 2) := by decide +kernel
theorem dL_mend_15 : decode cL_mend 15 = .ok (.iconst 1, 1) := by decide +kernel
theorem dL_mend_16 : decode cL_mend 16 = .ok (.ireturn, 1) := by decide +kernel
theorem dL_maker_0 : decode cL_maker 0 = .ok (.aload_n 3, 1) := by decide +kernel
theorem dL_maker_1 : decode cL_maker 1 = .ok (.iconst 0, 1) := by decide +kernel
theorem dL_maker_2 : decode cL_maker 2 = .ok (.aload_n 0, 1) := by decide +kernel
theorem dL_maker_3 : decode cL_maker 3 = .ok (.iload_n 1, 1) := by decide +kernel
theorem dL_maker_4 : decode cL_maker 4 = .ok (.iload_n 2, 1) := by decide +kernel
theorem dL_maker_5 : decode cL_maker 5 = .ok (.invokevirtual 129, 3) := by decide +kernel
theorem dL_maker_13 : decode cL_maker 13 = .ok (.astore 4, 2) := by decide +kernel
theorem dL_maker_15 : decode cL_maker 15 = .ok (.iconst 1, 1) := by decide +kernel
theorem dL_maker_16 : decode cL_maker 16 = .ok (.ireturn, 1) := by decide +kernel
theorem dL_offset_0 : decode cL_offset 0 = .ok (.aload_n 3, 1) := by decide +kernel
theorem dL_offset_1 : decode cL_offset 1 = .ok (.iconst 0, 1) := by decide +kernel
theorem dL_offset_2 : decode cL_offset 2 = .ok (.aload_n 0, 1) := by decide +kernel
theorem dL_offset_3 : decode cL_offset 3 = .ok (.iload_n 1, 1) := by decide +kernel
theorem dL_offset_4 : decode cL_offset 4 = .ok (.iload_n 2, 1) := by decide +kernel
theorem dL_offset_5 : decode cL_offset 5 = .ok (.invokevirtual 132, 3) := by decide +kernel
theorem dL_offset_13 : decode cL_offset 13 = .ok (.astore 4, 2) := by decide +kernel
theorem dL_offset_15 : decode cL_offset 15 = .ok (.iconst 1, 1) := by decide +kernel
theorem dL_offset_16 : decode cL_offset 16 = .ok (.ireturn, 1) := by decide +kernel
theorem dL_measure_0 : decode cL_measure 0 = .ok (.aload_n 2, 1) := by decide +kernel
theorem dL_measure_1 : decode cL_measure 1 = .ok (.iconst 0, 1) := by decide +kernel
theorem dL_measure_2 : decode cL_measure 2 = .ok (.aload_n 0, 1) := by decide +kernel
theorem dL_measure_3 : decode cL_measure 3 = .ok (.iload_n 1, 1) := by decide +kernel
theorem dL_measure_4 : decode cL_measure 4 = .ok (.invokevirtual 135, 3) := by decide +kernel
theorem dL_measure_12 : decode cL_measure 12 = .ok (.astore_n 3, 1) := by decide +kernel
theorem dL_measure_13 : decode cL_measure 13 = .ok (.iconst 1, 1) := by decide +kernel
theorem dL_measure_14 : decode cL_measure 14 = .ok (.ireturn, 1) := by decide +kernel
theorem dL_feedBack_0 : decode cL_feedBack 0 = .ok (.aload_n 3, 1) := by decide +kernel
theorem dL_feedBack_1 : decode cL_feedBack 1 = .ok (.iconst 0, 1) := by decide +kernel
theorem dL_feedBack_2 : decode cL_feedBack 2 = .ok (.aload_n 0, 1) := by decide +kernel
theorem dL_feedBack_3 : decode cL_feedBack 3 = .ok (.iload_n 1, 1) := by decide +kernel
theorem dL_feedBack_4 : decode cL_feedBack 4 = .ok (.iload_n 2, 1) := by decide +kernel
theorem dL_feedBack_5 : decode cL_feedBack 5 = .ok (.invokevirtual 138, 3) := by decide +kernel
theorem dL_feedBack_13 : decode cL_feedBack 13 = .ok (.astore 4, 2) := by decide +kernel
theorem dL_feedBack_15 : decode cL_feedBack 15 = .ok (.iconst 1, 1) := by decide +kernel
theorem dL_feedBack_16 : decode cL_feedBack 16 = .ok (.ireturn, 1) := by decide +kernel
theorem dL_wholeShare_0 : decode cL_wholeShare 0 = .ok (.aload_n 1, 1) := by decide +kernel
theorem dL_wholeShare_1 : decode cL_wholeShare 1 = .ok (.iconst 0, 1) := by decide +kernel
theorem dL_wholeShare_2 : decode cL_wholeShare 2 = .ok (.aload_n 0, 1) := by decide +kernel
theorem dL_wholeShare_3 : decode cL_wholeShare 3 = .ok (.invokevirtual 141, 3) := by decide +kernel
theorem dL_wholeShare_11 : decode cL_wholeShare 11 = .ok (.astore_n 2, 1) := by decide +kernel
theorem dL_wholeShare_12 : decode cL_wholeShare 12 = .ok (.iconst 1, 1) := by decide +kernel
theorem dL_wholeShare_13 : decode cL_wholeShare 13 = .ok (.ireturn, 1) := by decide +kernel
theorem dL_meanMeasure_0 : decode cL_meanMeasure 0 = .ok (.aload_n 1, 1) := by decide +kernel
theorem dL_meanMeasure_1 : decode cL_meanMeasure 1 = .ok (.iconst 0, 1) := by decide +kernel
theorem dL_meanMeasure_2 : decode cL_meanMeasure 2 = .ok (.aload_n 0, 1) := by decide +kernel
theorem dL_meanMeasure_3 : decode cL_meanMeasure 3 = .ok (.invokevirtual 145, 3) := by decide +kernel
theorem dL_meanMeasure_10 : decode cL_meanMeasure 10 = .ok (.astore_n 2, 1) := by decide +kernel
theorem dL_meanMeasure_11 : decode cL_meanMeasure 11 = .ok (.iconst 1, 1) := by decide +kernel
theorem dL_meanMeasure_12 : decode cL_meanMeasure 12 = .ok (.ireturn, 1) := by decide +kernel
end
section
section ZBase
theorem fa_lt (a b : Int32) : a < b ↔ a.toInt < b.toInt := Int32.lt_iff_toInt_lt
theorem fa_le (a b : Int32) : a ≤ b ↔ a.toInt ≤ b.toInt := Int32.le_iff_toInt_le
theorem fa_eq (a b : Int32) : a = b ↔ a.toInt = b.toInt := Int32.toInt_inj.symm
theorem zi_0 : (0 : Int32).toInt = 0 := by decide +kernel
theorem zi_1 : (1 : Int32).toInt = 1 := by decide +kernel
theorem zi_3 : (3 : Int32).toInt = 3 := by decide +kernel
theorem zi_4 : (4 : Int32).toInt = 4 := by decide +kernel
theorem zi_7 : (7 : Int32).toInt = 7 := by decide +kernel
theorem zi_8 : (8 : Int32).toInt = 8 := by decide +kernel
theorem zi_10 : (10 : Int32).toInt = 10 := by decide +kernel
theorem zi_12 : (12 : Int32).toInt = 12 := by decide +kernel
theorem zi_119 : (119 : Int32).toInt = 119 := by decide +kernel
theorem zi_m1 : (-1 : Int32).toInt = -1 := by decide +kernel
/-- a place, as the class tells it, and as the reference does -/
def zPl (v : Int32) : Prop := ¬ v < 0 ∧ v / 10 < 12 ∧ v - v / 10 * 10 < 8
def zPm (v : Int32) : Prop := 0 ≤ v ∧ v ≤ 119 ∧ v - v / 10 * 10 ≤ 7
def zDi (a b : Int32) : Int32 := if a < b then b - a else a - b
def zSw (a b : Int32) : Int32 := zDi (a / 10) (b / 10) + zDi (a - a / 10 * 10) (b - b / 10 * 10) + 1
def zSm (a b : Int32) : Int32 := (if 0 ≤ (a / 10 - b / 10) then (a / 10 - b / 10) else 0 - (a / 10 - b / 10)) + (if 0 ≤ ((a - a / 10 * 10) - (b - b / 10 * 10)) then ((a - a / 10 * 10) - (b - b / 10 * 10)) else 0 - ((a - a / 10 * 10) - (b - b / 10 * 10))) + 1
theorem zPl_nat (n : Nat) (h : n < 2 ^ 31) : zPl (nI n) ↔ (n / 10 < 12 ∧ n % 10 < 8) := by
  have e1 : nI n / 10 = nI (n / 10) := pk_div (d := 10) h (by decide) (by decide)
  have e2 : nI n - nI n / 10 * 10 = nI (n % 10) := pk_rem (d := 10) h (by decide) (by decide)
  unfold zPl
  rw [e2, e1]
  have h1 : (nI (n / 10) < 12) ↔ n / 10 < 12 := nI_ltI (b := 12) (by omega) (by decide)
  have h2 : (nI (n % 10) < 8) ↔ n % 10 < 8 := nI_ltI (b := 8) (by omega) (by decide)
  rw [h1, h2]
  exact ⟨fun q => q.2, fun q => ⟨nI_pos h, q⟩⟩
theorem zPm_nat (n : Nat) (h : n < 2 ^ 31) : zPm (nI n) ↔ (n ≤ 119 ∧ n % 10 ≤ 7) := by
  have e2 : nI n - nI n / 10 * 10 = nI (n % 10) := pk_rem (d := 10) h (by decide) (by decide)
  unfold zPm
  rw [e2]
  have h1 : (nI n ≤ 119) ↔ n ≤ 119 := nI_leI (b := 119) h (by decide)
  have h2 : (nI (n % 10) ≤ 7) ↔ n % 10 ≤ 7 := nI_leI (b := 7) (by omega) (by decide)
  rw [h1, h2]
  exact ⟨fun q => q.2, fun q => ⟨nI_pos' h, q⟩⟩
/-- both tell the same places -/
theorem zP_same (v : Int32) : zPl v ↔ zPm v := by
  by_cases h : v < 0
  · constructor
    · intro q; exact absurd h q.1
    · intro q
      have := q.1
      simp only [fa_lt, fa_le, zi_0] at h this
      omega
  · obtain ⟨n, hn, rfl⟩ := nI_of h
    rw [zPl_nat n hn, zPm_nat n hn]
    omega
theorem zAd : ∀ p q : Fin 12, zDi (nI p) (nI q) = if 0 ≤ (nI p - nI q) then (nI p - nI q) else 0 - (nI p - nI q) := by decide +kernel
/-- both count the same cells -/
theorem zS_same {a b : Int32} (ha : zPl a) (hb : zPl b) : zSw a b = zSm a b := by
  obtain ⟨n, hn, rfl⟩ := nI_of ha.1
  obtain ⟨k, hk, rfl⟩ := nI_of hb.1
  have h1 := (zPl_nat n hn).mp ha
  have h2 := (zPl_nat k hk).mp hb
  have e1 : nI n / 10 = nI (n / 10) := pk_div (d := 10) hn (by decide) (by decide)
  have e2 : nI n - nI n / 10 * 10 = nI (n % 10) := pk_rem (d := 10) hn (by decide) (by decide)
  have e3 : nI k / 10 = nI (k / 10) := pk_div (d := 10) hk (by decide) (by decide)
  have e4 : nI k - nI k / 10 * 10 = nI (k % 10) := pk_rem (d := 10) hk (by decide) (by decide)
  unfold zSw zSm
  rw [e2, e4, e1, e3]
  have A := zAd ⟨n / 10, by omega⟩ ⟨k / 10, by omega⟩
  have B := zAd ⟨n % 10, by omega⟩ ⟨k % 10, by omega⟩
  rw [show zDi (nI (n / 10)) (nI (k / 10)) = _ from A, show zDi (nI (n % 10)) (nI (k % 10)) = _ from B]
theorem zin {x M : Int32} {N : Nat} (hM : M.toInt = (N : Int)) (h0 : ¬ x < 0) (h1 : ¬ M ≤ x) : vp_in x N := vp_in_iff.mpr (by
  simp only [fa_lt, fa_le, zi_0] at h0 h1
  omega)
theorem zga {a b : List Cond} (ha : a.all goodWord = true) (hb : b.all goodWord = true) : (a ++ b).all goodWord = true := by rw [List.all_append, ha, hb]; rfl
theorem zgo {c : Cond} {a : List Cond} (hc : goodWord c = true) (ha : a.all goodWord = true) : (c :: a).all goodWord = true := by rw [List.all_cons, hc, ha]; rfl
theorem zgf (L : List Cond) : (L.filter goodWord).all goodWord = true := List.all_eq_true.mpr fun _ h => (List.mem_filter.mp h).2
theorem zgcX0 : wsX00.all goodWord = true := by decide +kernel
theorem zgcX1 : wsX10.all goodWord = true := by decide +kernel
theorem zgcX5 : wsX50.all goodWord = true := by decide +kernel
theorem zgcX6 : wsX60.all goodWord = true := by decide +kernel
theorem zgcX7 : wsX70.all goodWord = true := by decide +kernel
theorem zgcX8 : wsX80.all goodWord = true := by decide +kernel
theorem zgcX11 : wsX110.all goodWord = true := by decide +kernel
theorem zgcX12 : wsX120.all goodWord = true := by decide +kernel
theorem zgcJx4a65c : wsJx4a65c0.all goodWord = true := by decide +kernel
theorem zgcJx35411 : wsJx354110.all goodWord = true := by decide +kernel
theorem zgcJ6 : wsJ60.all goodWord = true := by decide +kernel
/-- the texts that exceptions are made with here, by their places in the class's pool -/
def zStr : List (Nat × String) := [(170, "no such variant"), (54, "no such panel"), (186, "no such station"), (181, "no such robot"), (192, "no such body"), (168, "no such place"), (289, "no stations"), (430, "none is off the line")]
/-- the exceptions that a new object throws -/
def zExc : List String := ["java/lang/IndexOutOfBoundsException", "java/lang/UnsupportedOperationException", "java/util/NoSuchElementException", "java/lang/IllegalArgumentException"]
abbrev zNames : List String := ["java/lang/RuntimeException", "java/lang/Exception"]
def zDec : List MethodName := [Bundle.initS "java/lang/RuntimeException", Bundle.initS "java/lang/Exception", Bundle.initS Bundle.tN]
def zI (U : State) : Prop := va_Fw RJx4a65c ⟨"java/util/List", "size", "()I"⟩ yJx4a65c_size_8abf5 U ∧ va_Fw RJx4a65c ⟨"java/util/List", "isEmpty", "()Z"⟩ yJx4a65c_isEmpty_aae02 U ∧ va_Fw RJx4a65c ⟨"java/util/List", "iterator", "()Ljava/util/Iterator;"⟩ yJx4a65c_iterator_32c93 U ∧ va_Fw RJx4a65c ⟨"java/util/List", "add", "(Ljava/lang/Object;)Z"⟩ yJx4a65c_add_9ea2d U ∧ va_Fw RJx35411 ⟨"java/util/Iterator", "hasNext", "()Z"⟩ yJx35411_hasNext_aae02 U ∧ va_Nw (.fieldLinkNest RJx35411 28 "java/util/ArrayList" "size" "I" "java/util/ArrayList") U ∧ va_Nw (.methodLinkNest RX12 109 yX11_init "SpotbeatModel") U
theorem zI.moved {s U : State} (ha : s.vm.Alike U.vm) (hW : s.WarmedH U.vm) (h : zI s) : zI U :=
  ⟨va_Fw.moved (by decide) ha h.1, va_Fw.moved (by decide) ha h.2.1, va_Fw.moved (by decide) ha h.2.2.1, va_Fw.moved (by decide) ha h.2.2.2.1, va_Fw.moved (by decide) ha h.2.2.2.2.1, va_Nw.warmF hW h.2.2.2.2.2.1, va_Nw.warmM hW h.2.2.2.2.2.2⟩
theorem zI.same {s U : State} (hv : s.vm = U.vm) (h : zI s) : zI U := by
  have ha : s.vm.Alike U.vm := by rw [hv]; exact Vm.Alike.refl _
  exact ⟨va_Fw.moved (by decide) ha h.1, va_Fw.moved (by decide) ha h.2.1, va_Fw.moved (by decide) ha h.2.2.1, va_Fw.moved (by decide) ha h.2.2.2.1, va_Fw.moved (by decide) ha h.2.2.2.2.1, va_Nw.same rfl hv h.2.2.2.2.2.1, va_Nw.same rfl hv h.2.2.2.2.2.2⟩
def zRow : List String := [RX0, RX3, RX4, RX5, RX6]
/-- what the tables say that no word of a method's own can carry -/
def zT (U : State) : Prop := (∀ q ∈ zStr, ∃ a, vk_R RX7 q.1 q.2 a U) ∧ (∀ q ∈ zExc, va_Nw (.castable q q) U) ∧ (∀ q ∈ zDec, va_Nw (.declares q) U) ∧ (∀ C ∈ zRow, va_AO C U) ∧ zI U
theorem zT.warm {s U : State} (hW : s.WarmedH U.vm) (h : zT s) : zT U :=
  ⟨fun q hq => by obtain ⟨a, ha⟩ := h.1 q hq; exact ⟨a, vk_R.warm hW ha⟩, fun q hq => va_Nw.warmC hW (h.2.1 q hq), fun q hq => va_Nw.warmD hW (h.2.2.1 q hq), fun C hC => va_AO.moved hW.alike (h.2.2.2.1 C hC), zI.moved hW.alike hW h.2.2.2.2⟩
theorem zT.same {s U : State} (hv : s.vm = U.vm) (h : zT s) : zT U :=
  ⟨fun q hq => by obtain ⟨a, ha⟩ := h.1 q hq; exact ⟨a, vk_R.same hv.symm ha⟩, fun q hq => va_Nw.same rfl hv (h.2.1 q hq), fun q hq => va_Nw.same rfl hv (h.2.2.1 q hq), fun C hC => va_AO.moved (by rw [hv]; exact Vm.Alike.refl _) (h.2.2.2.1 C hC), zI.same hv h.2.2.2.2⟩
/-- .. and the two statics that every exception reads; A: where it may be written -/
def zE (A : Nat → Prop) (U : State) (H : Heap) : Prop := vx_Zq Bundle.tN "UNASSIGNED_STACK" Bundle.steD A U H ∧ vx_Zq Bundle.tN "SUPPRESSED_SENTINEL" Bundle.listD A U H ∧ zT U
theorem zE.pass {A A1 : Nat → Prop} {s U : State} {H : Heap} {locs : List Loc} (h : zE A s s.heap) (hS : va_S A s.heap H locs) (hU : U.heap = H) (hW : s.WarmedH U.vm) (hA : ∀ q, A1 q → A q) : zE A1 U U.heap := by
  subst hU
  exact ⟨vx_Zq.moved hW.alike ((h.1.kept hS.2.1).narrow hA), vx_Zq.moved hW.alike ((h.2.1.kept hS.2.1).narrow hA), h.2.2.warm hW⟩
theorem zE.blind {A : Nat → Prop} {U : State} {g : JFrame} {mk : MethodId} {a : Array Value} (h : zE A U U.heap) : zE A (U.calling g mk a) (U.calling g mk a).heap :=
  ⟨vx_Zq.moved (u := U) (U := U.calling g mk a) (Vm.Alike.refl U.vm) h.1, vx_Zq.moved (u := U) (U := U.calling g mk a) (Vm.Alike.refl U.vm) h.2.1, zT.same (s := U) (U := U.calling g mk a) rfl h.2.2⟩
theorem zF {A : Nat → Prop} {s t : State} {H : Heap} {locs : List Loc} (hS : va_S A s.heap H locs) (h1 : H.size ≤ t.heap.size) (h2 : ∀ q : Nat, q < H.size → t.heap[q]? = H[q]?) : va_F A s t :=
  ⟨Nat.le_trans hS.1 h1, fun q h3 h4 => (h2 q (Nat.lt_of_lt_of_le h3 hS.1)).trans (hS.2.1 q h3 h4)⟩
/-- cells that a call doesn't write are there behind it -/
theorem zkp {D : va_G} {cl : List vw_C} {ws : va_W} {H H1 : Heap} {A1 : Nat → Prop} (hP : va_P D cl ws H) (hk : ∀ q : Nat, q < H.size → ¬ A1 q → H1[q]? = H[q]?) (hn : ∀ (k : Nat) (q : Nat × va_E), ws[k]? = some q → ¬ A1 q.1) : va_P D cl ws H1 :=
  hP.kept fun k q hq => hk q.1 (hP k q hq).lt (hn k q hq)
theorem zkn {D : va_G} {cl : List vw_C} {ws : va_W} {H H1 : Heap} (hP : va_P D cl ws H) (hk : ∀ q : Nat, q < H.size → ¬ H.size ≤ q → H1[q]? = H[q]?) : va_P D cl ws H1 :=
  zkp (A1 := fun q => H.size ≤ q) hP hk fun k q hq => Nat.not_le.mpr (hP k q hq).lt
/-- the world of a new object of the class: itself, its rows -/
abbrev xW (x : Nat) (ax : Nat → Nat) (kx : Nat → ClassId) : va_W := [(x, .inr (10, [.ref (ax 0), .ref (ax 1), .ref (ax 2), .ref (ax 3), .ref (ax 4), .ref (ax 5), .int 0, .int 0, .int 0, .int 0, .int 0, .int 0])), (ax 0, .inl (kx 0, 8, .inl (fun _ => 0))), (ax 1, .inl (kx 1, 24, .inr (.inr (.inr (.inr (fun _ => none)))))), (ax 2, .inl (kx 2, 4, .inr (.inr (.inr (.inr (fun _ => none)))))), (ax 3, .inl (kx 3, 12, .inr (.inr (.inr (.inr (fun _ => none)))))), (ax 4, .inl (kx 4, 40, .inr (.inr (.inr (.inr (fun _ => none))))))]
/-- the world of a new object of the reference: itself, its lists -/
abbrev mW (mo : Nat) (lm : Nat → Nat) (e0 : Nat) (th : Int32) : va_W := [(mo, .inr (15, [.int th, .ref (lm 0), .ref (lm 1), .ref (lm 2), .ref (lm 3), .ref (lm 4), .int 0, .int 0])), (lm 0, .inr (2, [.int 0, .ref e0, .int 0])), (lm 1, .inr (2, [.int 0, .ref e0, .int 0])), (lm 2, .inr (2, [.int 0, .ref e0, .int 0])), (lm 3, .inr (2, [.int 0, .ref e0, .int 0])), (lm 4, .inr (2, [.int 0, .ref e0, .int 0]))]
abbrev xT (kx : Nat → ClassId) : List (ClassId × FieldType) := [(kx 0, .int), (kx 1, .object RX4), (kx 2, .object RX5), (kx 3, .object RX3), (kx 4, .object RX0)]
def xPre (dC : Nat → ClassId) (dI : Nat → Nat → Nat) (A : Nat → Prop) (x : Nat) (ax : Nat → Nat) (kx : Nat → ClassId) (U : State) : Prop := va_P (dC, dI) vwCl (xW x ax kx) U.heap ∧ va_K (dC, dI) vwCl (xT kx) U ∧ zE A U U.heap
abbrev xPc (dC : Nat → ClassId) (dI : Nat → Nat → Nat) (sz : Nat) (x : Nat) (ax : Nat → Nat) (kx : Nat → ClassId) (av : List Value) : Array Value → State → Prop := va_Pc av (fun U => U.heap.size = sz ∧ xPre dC dI (fun q => sz ≤ q) x ax kx U)
theorem xPc_blind {dC : Nat → ClassId} {dI : Nat → Nat → Nat} {sz x : Nat} {ax : Nat → Nat} {kx : Nat → ClassId} {av : List Value} : FrameBlind (xPc dC dI sz x ax kx av) := fun a U g mk q => by
  obtain ⟨q0, q1, qP, qK, qE⟩ := q
  exact ⟨q0, q1, qP, va_K.moved (u := U) (U := U.calling g mk a) (Vm.Alike.refl U.vm) qK, qE.blind⟩
theorem xPc_pass {dC : Nat → ClassId} {dI : Nat → Nat → Nat} {x : Nat} {ax : Nat → Nat} {kx : Nat → ClassId} {av : List Value} {A : Nat → Prop} {s : State} {H : Heap} {locs : List Loc}
    (hP : va_P (dC, dI) vwCl (xW x ax kx) H) (hK : va_K (dC, dI) vwCl (xT kx) s) (hE : zE A s s.heap) (hS : va_S A s.heap H locs) (hA : ∀ q, H.size ≤ q → A q) : ∀ U : State, U.heap = H → s.WarmedH U.vm → xPc dC dI H.size x ax kx av av.toArray U := fun U hU hW =>
  ⟨rfl, by rw [hU], by rw [hU]; exact hP, va_K.moved hW.alike hK, hE.pass hS hU hW hA⟩
/-- a thing that a method without a world of its own needs: the statics, the texts -/
abbrev ePc (sz : Nat) (av : List Value) : Array Value → State → Prop := va_Pc av (fun U => U.heap.size = sz ∧ zE (fun q => sz ≤ q) U U.heap)
theorem ePc_blind {sz : Nat} {av : List Value} : FrameBlind (ePc sz av) := fun a U g mk q => by
  obtain ⟨q0, q1, qE⟩ := q
  exact ⟨q0, q1, qE.blind⟩
theorem ePc_pass {av : List Value} {A : Nat → Prop} {s : State} {H : Heap} {locs : List Loc} (hE : zE A s s.heap) (hS : va_S A s.heap H locs) (hA : ∀ q, H.size ≤ q → A q) : ∀ U : State, U.heap = H → s.WarmedH U.vm → ePc H.size av av.toArray U := fun U hU hW =>
  ⟨rfl, by rw [hU], hE.pass hS hU hW hA⟩
abbrev nPc (sz : Nat) (av : List Value) : Array Value → State → Prop := va_Pc av (fun U => U.heap.size = sz)
theorem nPc_blind {sz : Nat} {av : List Value} : FrameBlind (nPc sz av) := fun _ _ _ _ q => q
theorem nPc_pass {av : List Value} {s : State} {H : Heap} : ∀ U : State, U.heap = H → s.WarmedH U.vm → nPc H.size av av.toArray U := fun U hU _ => ⟨rfl, by show U.heap.size = H.size; rw [hU]⟩
/-- a world of its own, and the statics and texts -/
abbrev gPcE (dC : Nat → ClassId) (dI : Nat → Nat → Nat) (sz : Nat) (W : va_W) (T : List (ClassId × FieldType)) (av : List Value) : Array Value → State → Prop := va_Pc av (fun U => U.heap.size = sz ∧ va_P (dC, dI) vwCl W U.heap ∧ va_K (dC, dI) vwCl T U ∧ va_D (fun _ => True) W ∧ zE (va_A W sz) U U.heap)
theorem gPcE_blind {dC : Nat → ClassId} {dI : Nat → Nat → Nat} {sz : Nat} {W : va_W} {T : List (ClassId × FieldType)} {av : List Value} : FrameBlind (gPcE dC dI sz W T av) := fun a U g mk q => by
  obtain ⟨q0, q1, qP, qK, qD, qE⟩ := q
  exact ⟨q0, q1, qP, va_K.moved (u := U) (U := U.calling g mk a) (Vm.Alike.refl U.vm) qK, qD, qE.blind⟩
theorem gPcE_pass {dC : Nat → ClassId} {dI : Nat → Nat → Nat} {W : va_W} {T : List (ClassId × FieldType)} {av : List Value} {A : Nat → Prop} {s : State} {H : Heap} {locs : List Loc}
    (hP : va_P (dC, dI) vwCl W H) (hK : va_K (dC, dI) vwCl T s) (hD : va_D A W) (hE : zE A s s.heap) (hS : va_S A s.heap H locs) (hF : ∀ q, va_A W H.size q → A q) : ∀ U : State, U.heap = H → s.WarmedH U.vm → gPcE dC dI H.size W T av av.toArray U := fun U hU hW =>
  ⟨rfl, by rw [hU], by rw [hU]; exact hP, va_K.moved hW.alike hK, hD.weaken (fun _ _ _ _ => trivial), hE.pass hS hU hW hF⟩
abbrev gPc (dC : Nat → ClassId) (dI : Nat → Nat → Nat) (sz : Nat) (W : va_W) (T : List (ClassId × FieldType)) (av : List Value) : Array Value → State → Prop := va_Pc av (fun U => U.heap.size = sz ∧ va_P (dC, dI) vwCl W U.heap ∧ va_K (dC, dI) vwCl T U ∧ va_D (fun _ => True) W)
theorem gPc_blind {dC : Nat → ClassId} {dI : Nat → Nat → Nat} {sz : Nat} {W : va_W} {T : List (ClassId × FieldType)} {av : List Value} : FrameBlind (gPc dC dI sz W T av) := fun a U g mk q => by
  obtain ⟨q0, q1, qP, qK, qD⟩ := q
  exact ⟨q0, q1, qP, va_K.moved (u := U) (U := U.calling g mk a) (Vm.Alike.refl U.vm) qK, qD⟩
theorem gPc_pass {dC : Nat → ClassId} {dI : Nat → Nat → Nat} {W : va_W} {T : List (ClassId × FieldType)} {av : List Value} {A : Nat → Prop} {s : State} {H : Heap}
    (hP : va_P (dC, dI) vwCl W H) (hK : va_K (dC, dI) vwCl T s) (hD : va_D A W) : ∀ U : State, U.heap = H → s.WarmedH U.vm → gPc dC dI H.size W T av av.toArray U := fun U hU hW =>
  ⟨rfl, by rw [hU], by rw [hU]; exact hP, va_K.moved hW.alike hK, hD.weaken (fun _ _ _ _ => trivial)⟩
theorem zP_nil {D : va_G} {cl : List vw_C} {H : Heap} : va_P D cl [] H := fun _ _ h => nomatch h
theorem zD_nil {A : Nat → Prop} : va_D A [] := ⟨fun _ _ _ _ h => (nomatch h), fun _ _ h => (nomatch h)⟩
/-- what is thrown here: of the class E, old cells as they were but where A says -/
abbrev zX (px : Prop) (E : String) (A : Nat → Prop) : String → State → State → Prop := vx_X (fun _ : Unit => px) (fun E' _ _ => E' = E) A
theorem zot : (zExc.map fun E => (Cond.castable E E : Cond)).all vx_ot = true ∧ (zDec.map fun q => (Cond.declares q : Cond)).all vx_ot = true := by decide +kernel
def zBad (E : String) : List Cond := .castable E E :: zDec.map fun q => (Cond.declares q : Cond)
theorem zBad_ok {E : String} (hE : E ∈ zExc) {args : Array Value} {s : State} (h : zT s) : ∀ w ∈ zBad E, w.before args s = true := by
  intro w hw
  rcases List.mem_cons.mp hw with e | hw
  · rw [e]; exact va_Nw.use rfl (h.2.1 E hE)
  · obtain ⟨q, hq, e⟩ := List.mem_map.mp hw
    rw [← e]; exact va_Nw.use rfl (h.2.2.1 q hq)
variable {p : Program} {l : Launch} {e : Env} {R : Room} {s : State} {m : MethodId} {args : Array Value} {below : List Frame} {meth : Method} {c : Code} {H : Heap} {locs : List Loc} {cells slots : Nat}
/-- 'throw new E("text")' in the class -/
theorem zThrow {mc ms : Nat} {free : Addr → Prop} {ls : Array Slot} {rest : List Value} {Qc : Array Value → State → Outcome → State → Prop} {cc : ByteArray} {pc : Nat} {A : Nat → Prop} {px : Prop} {E text : String} {ik is ic : Nat} {Ts : List Cond}
    (hx : p.tables.exec = Jvm.exec) (hb : c.code = cc) (hst : l.stackTraces = false) (hown : s.vm.findClass RX7 = some m.cls) (hts : ∀ w ∈ Ts, w.before args s = true) (hE : zE A s s.heap) (hS : va_S A s.heap H locs) (hsz : ls.size = c.maxLocals)
    (hEx : E ∈ zExc) (hfit : Bundle.fit E = true) (htx : (is, text) ∈ zStr) (hk : Cond.classLink RX7 ik E ∈ Ts) (hini : Cond.initialized E ∈ Ts) (hG : ∀ w ∈ (vx_atS RX7 ic E zNames).filter goodWord, w ∈ Ts)
    (hBad : ∀ w ∈ (vx_atS RX7 ic E zNames).filter (fun w => !goodWord w), w ∈ zBad E) (hot : (vx_atS RX7 ic E zNames).all vx_ot = true)
    (d0 : decode cc pc = .ok (.new ik, 3)) (d3 : decode cc (pc + 3) = .ok (.dup, 1)) (d4 : decode cc (pc + 4) = .ok (.ldc is, 2)) (d6 : decode cc (pc + 6) = .ok (.invokespecial ic, 3)) (d9 : decode cc (pc + 9) = .ok (.athrow, 1))
    (hnt : ∀ x ∈ c.exceptionTable.toList, False) (hRf : 6 ≤ R.frames) (hRl : (rest.map fun v => v.category).sum + 82 ≤ R.locals) (hRc : cells + 1 ≤ R.cells) (hRs : slots + 6 ≤ R.slots) (hlocks : meth.locks = false)
    (hpx : px) (hf : ∀ z ∈ locs, free z.base) (hc : cells + 1 ≤ mc) (hs : slots + 6 ≤ ms) :
    W p l e R s m args below meth c H locs cells slots (vx_MQ below Qc (zX px E A) args s mc ms free) (F0 m pc ls rest) := by
  obtain ⟨sa, hsa⟩ := hE.2.2.1 _ htx
  exact vx_throwS hx hb hst (names := zNames) hown hfit (by decide) (hts _ hk) (hts _ hini) hsa
    (vx_hat (fun w hw => hts w (hG w hw)) hBad (zBad_ok hEx hE.2.2))
    (fun w hw => by
      rcases List.mem_cons.mp hw with e | hw
      · rw [e]; rfl
      · rcases List.mem_cons.mp hw with e | hw
        · rw [e]; rfl
        · exact List.all_eq_true.mp hot w hw) hE.1 hE.2.1 hS hsz d0 d3 d4 d6 d9 (fun x hx => (hnt x hx).elim) (by simp only [List.length_cons, List.length_nil]; omega) (by simp only [List.length_cons, List.length_nil]; omega) hRc hRs hlocks
    (fun t _ h1 h2 => ⟨(), hpx, rfl, zF hS h1 h2⟩) hf hc hs
/-- an exception of a callee goes on to the caller -/
theorem zOut {mc ms : Nat} {free : Addr → Prop} {ls : Array Slot} {rest : List Value} {Qc : Array Value → State → Outcome → State → Prop} {pc : Nat} {A : Nat → Prop} {px : Prop} {E : String} {ce : Cell} {q : Addr}
    (hnt : ∀ x ∈ c.exceptionTable.toList, False) (hlocks : meth.locks = false) (hcell : H[q]? = some ce) (hv : ce.vm = .none) (hcl : s.vm.findClass E = some ce.cls) (hS : va_S A s.heap H locs) (hpx : px) (hf : ∀ z ∈ locs, free z.base) (hc : cells ≤ mc) (hs : slots ≤ ms) :
    vx_W p l e R s m args below meth c H locs cells slots (vx_MQ below Qc (zX px E A) args s mc ms free) (F0 m pc ls rest) q :=
  vx_out (fun x hx => (hnt x hx).elim) hlocks hcell hv hcl (fun t ht _ => ⟨(), hpx, rfl, hS.F ht⟩) hf hc hs
/-- 'throw new E("text")' in the class, the text by a wide index -/
theorem zThrowW {mc ms : Nat} {free : Addr → Prop} {ls : Array Slot} {rest : List Value} {Qc : Array Value → State → Outcome → State → Prop} {cc : ByteArray} {pc : Nat} {A : Nat → Prop} {px : Prop} {E text : String} {ik is ic : Nat} {Ts : List Cond}
    (hx : p.tables.exec = Jvm.exec) (hb : c.code = cc) (hst : l.stackTraces = false) (hown : s.vm.findClass RX7 = some m.cls) (hts : ∀ w ∈ Ts, w.before args s = true) (hE : zE A s s.heap) (hS : va_S A s.heap H locs) (hsz : ls.size = c.maxLocals)
    (hEx : E ∈ zExc) (hfit : Bundle.fit E = true) (htx : (is, text) ∈ zStr) (hk : Cond.classLink RX7 ik E ∈ Ts) (hini : Cond.initialized E ∈ Ts) (hG : ∀ w ∈ (vx_atS RX7 ic E zNames).filter goodWord, w ∈ Ts)
    (hBad : ∀ w ∈ (vx_atS RX7 ic E zNames).filter (fun w => !goodWord w), w ∈ zBad E) (hot : (vx_atS RX7 ic E zNames).all vx_ot = true)
    (d0 : decode cc pc = .ok (.new ik, 3)) (d3 : decode cc (pc + 3) = .ok (.dup, 1)) (d4 : decode cc (pc + 4) = .ok (.ldc_w is, 3)) (d7 : decode cc (pc + 7) = .ok (.invokespecial ic, 3)) (d10 : decode cc (pc + 10) = .ok (.athrow, 1))
    (hnt : ∀ x ∈ c.exceptionTable.toList, False) (hRf : 6 ≤ R.frames) (hRl : (rest.map fun v => v.category).sum + 82 ≤ R.locals) (hRc : cells + 1 ≤ R.cells) (hRs : slots + 6 ≤ R.slots) (hlocks : meth.locks = false)
    (hpx : px) (hf : ∀ z ∈ locs, free z.base) (hc : cells + 1 ≤ mc) (hs : slots + 6 ≤ ms) :
    W p l e R s m args below meth c H locs cells slots (vx_MQ below Qc (zX px E A) args s mc ms free) (F0 m pc ls rest) := by
  obtain ⟨sa, hsa⟩ := hE.2.2.1 _ htx
  exact vx_throwSW hx hb hst (names := zNames) hown hfit (by decide) (hts _ hk) (hts _ hini) hsa
    (vx_hat (fun w hw => hts w (hG w hw)) hBad (zBad_ok hEx hE.2.2))
    (fun w hw => by
      rcases List.mem_cons.mp hw with e | hw
      · rw [e]; rfl
      · rcases List.mem_cons.mp hw with e | hw
        · rw [e]; rfl
        · exact List.all_eq_true.mp hot w hw) hE.1 hE.2.1 hS hsz d0 d3 d4 d7 d10 (fun x hx => (hnt x hx).elim) (by simp only [List.length_cons, List.length_nil]; omega) (by simp only [List.length_cons, List.length_nil]; omega) hRc hRs hlocks
    (fun t _ h1 h2 => ⟨(), hpx, rfl, zF hS h1 h2⟩) hf hc hs
/-- a loop from 0 on: I what holds at its head, with i rounds gone by -/
theorem zloop {N head : Nat} {Q : State → Prop} (I : Nat → Heap → List Loc → Array Slot → Prop)
    (step : ∀ (i : Nat) (H : Heap) (locs : List Loc) (ls : Array Slot), i ≤ N → I i H locs ls →
      (i < N → ∀ (H1 : Heap) (locs1 : List Loc) (ls1 : Array Slot), I (i + 1) H1 locs1 ls1 → W p l e R s m args below meth c H1 locs1 cells slots Q (F0 m head ls1 [])) →
      W p l e R s m args below meth c H locs cells slots Q (F0 m head ls [])) :
    ∀ (i : Nat) (H : Heap) (locs : List Loc) (ls : Array Slot), i ≤ N → I i H locs ls → W p l e R s m args below meth c H locs cells slots Q (F0 m head ls []) := by
  have key : ∀ (n i : Nat) (H : Heap) (locs : List Loc) (ls : Array Slot), i + n = N → I i H locs ls → W p l e R s m args below meth c H locs cells slots Q (F0 m head ls []) := by
    intro n
    induction n with
    | zero => intro i H locs ls hi h; exact step i H locs ls (by omega) h (fun hlt => absurd hlt (by omega))
    | succ n ih => intro i H locs ls hi h; exact step i H locs ls (by omega) h (fun _ H1 locs1 ls1 h1 => ih (i + 1) H1 locs1 ls1 (by omega) h1)
  intro i H locs ls hi h
  exact key (N - i) i H locs ls (by omega) h
end ZBase
end
section
section ZCls1
def zwX7_requireVariant : List Cond := .code yX7_requireVariant cX7_requireVariant 1 none :: (([.classLink RX7 52 "java/lang/IndexOutOfBoundsException", .initialized "java/lang/IndexOutOfBoundsException"] : List Cond) ++ (((vx_atS RX7 56 "java/lang/IndexOutOfBoundsException" zNames).filter goodWord)))
theorem zgX7_requireVariant : zwX7_requireVariant.all goodWord = true := zgo rfl (zga (by decide +kernel) ((zgf _)))
set_option maxHeartbeats 4000000 in
set_option maxRecDepth 100000 in
/-- requireVariant(v): throws unless 0 <= v < 4 -/
theorem c_X7_requireVariant (l : Launch) (hst : l.stackTraces = false) (dC : Nat → ClassId) (dI : Nat → Nat → Nat) (sz : Nat) (v : Int32) : vx_Met l yX7_requireVariant zwX7_requireVariant ({ frames := 6, cells := 1, slots := 6, locals := 82 }) (ePc sz [.int v]) (va_Qv (fun (_ : Unit) => ¬ (v < 0 ∨ 4 ≤ v)) (fun _ _ => True) (fun q : Nat => sz ≤ q)) (zX (v < 0 ∨ 4 ≤ v) "java/lang/IndexOutOfBoundsException" (fun q : Nat => sz ≤ q)) 1 6 (fun q : Nat => sz ≤ q) := by
  refine vx_ofW (cc := cX7_requireVariant) (maxL := 1) (ret := none) (by decide) rfl ?_
  intro p e s m args below meth c s₁ B hml hnt hv
  obtain ⟨rfl, hsz, hE⟩ := hv
  have hx := B.exec
  have hb := B.bytes
  have hr := B.returns
  have hts := atoms_spec (ws := zwX7_requireVariant) B.pre
  have hown : s.vm.findClass RX7 = some m.cls := findClass_of_methodNamed B.named
  have hlocks := B.notSynchronized
  subst hsz
  have hA : ∀ q : Nat, s.heap.size ≤ q → s.heap.size ≤ q := fun _ h => h
  have hS : va_S (fun q : Nat => s.heap.size ≤ q) s.heap s.heap [] := va_S.rf
  have hl := lv_entry ([.int v]) (n := 1) (Nat.le_of_ble_eq_true rfl)
  rw [lg_entry_eq]
  generalize (lg_sl ([.int v]) ++ List.replicate (1 - (lg_sl ([.int v])).length) Slot.unset).toArray = ls at hl ⊢
  have hl : lv_has ls 1 [(0, .int v)] := hl
  refine lv_iload_n hx hb dX7_requireVariant_0 rfl (lv_at hl 0 rfl) ?_
  refine lv_if_lt (tgt := 9) hx hb dX7_requireVariant_1 (by decide) (fun c_1 => ?_) (fun c_1 => ?_)
  · exact zThrow (Ts := zwX7_requireVariant) (px := v < 0 ∨ 4 ≤ v) (E := "java/lang/IndexOutOfBoundsException") (ik := 52) (is := 170) (ic := 56) hx hb hst hown hts hE hS (hl.1.trans hml.symm) (by decide) (by decide +kernel) (text := "no such variant") (by decide) (by decide +kernel) (by decide +kernel) (fun w h => List.mem_cons_of_mem _ (List.mem_append_right _ (h))) (by decide +kernel) (by decide +kernel) dX7_requireVariant_9 dX7_requireVariant_12 dX7_requireVariant_13 dX7_requireVariant_15 dX7_requireVariant_18 hnt (Nat.le_of_ble_eq_true rfl) (Nat.le_of_ble_eq_true rfl) (Nat.le_of_ble_eq_true rfl) (Nat.le_of_ble_eq_true rfl) hlocks (by simp only [zPl, zPm, fa_lt, fa_le, fa_eq, zi_0, zi_1, zi_3, zi_4, zi_7, zi_8, zi_10, zi_12, zi_119, zi_m1] at c_1 ⊢ <;> omega) hS.2.2 (Nat.le_of_ble_eq_true rfl) (Nat.le_of_ble_eq_true rfl)
  · refine lv_iload_n hx hb dX7_requireVariant_4 rfl (lv_at hl 0 rfl) ?_
    refine lv_iconst (v := 4) hx hb dX7_requireVariant_5 (by decide) ?_
    refine lv_icmp_lt (tgt := 19) hx hb dX7_requireVariant_6 (by decide) (fun c_2 => ?_) (fun c_2 => ?_)
    · refine W.widen (k := 1) (n := 6) (Nat.le_of_ble_eq_true rfl) (Nat.le_of_ble_eq_true rfl) ?_
      exact vx_ret (W.vret hx hb hr (fun t ht hW => ⟨⟨(), rfl, (by simp only [zPl, zPm, fa_lt, fa_le, fa_eq, zi_0, zi_1, zi_3, zi_4, zi_7, zi_8, zi_10, zi_12, zi_119, zi_m1] at c_1 c_2 ⊢ <;> omega), trivial⟩, hS.F ht⟩) hS.2.2 dX7_requireVariant_19)
    · exact zThrow (Ts := zwX7_requireVariant) (px := v < 0 ∨ 4 ≤ v) (E := "java/lang/IndexOutOfBoundsException") (ik := 52) (is := 170) (ic := 56) hx hb hst hown hts hE hS (hl.1.trans hml.symm) (by decide) (by decide +kernel) (text := "no such variant") (by decide) (by decide +kernel) (by decide +kernel) (fun w h => List.mem_cons_of_mem _ (List.mem_append_right _ (h))) (by decide +kernel) (by decide +kernel) dX7_requireVariant_9 dX7_requireVariant_12 dX7_requireVariant_13 dX7_requireVariant_15 dX7_requireVariant_18 hnt (Nat.le_of_ble_eq_true rfl) (Nat.le_of_ble_eq_true rfl) (Nat.le_of_ble_eq_true rfl) (Nat.le_of_ble_eq_true rfl) hlocks (by simp only [zPl, zPm, fa_lt, fa_le, fa_eq, zi_0, zi_1, zi_3, zi_4, zi_7, zi_8, zi_10, zi_12, zi_119, zi_m1] at c_1 c_2 ⊢ <;> omega) hS.2.2 (Nat.le_of_ble_eq_true rfl) (Nat.le_of_ble_eq_true rfl)

def zwX7_stationAt : List Cond := .code yX7_stationAt cX7_stationAt 2 (some (.object "Spotbeat$Station")) :: (([.fieldLink RX7 21 "Spotbeat" "stationRow" "[LSpotbeat$Station;"] : List Cond) ++ (wsX70))
theorem zgX7_stationAt : zwX7_stationAt.all goodWord = true := zgo rfl (zga (by decide +kernel) (zgcX7))
set_option maxHeartbeats 4000000 in
set_option maxRecDepth 100000 in
/-- stationAt: nothing there yet -/
theorem c_X7_stationAt (l : Launch) (dC : Nat → ClassId) (dI : Nat → Nat → Nat) (sz : Nat) (x : Nat) (ax : Nat → Nat) (kx : Nat → ClassId) (v : Int32) : Met l yX7_stationAt zwX7_stationAt ({ frames := 0, cells := 0, slots := 0, locals := 0 }) (xPc dC dI sz x ax kx [.ref x, .int v]) (va_Qq (fun (r : Option Nat) (_ : Unit) => r = none) (fun _ _ => True) (fun q : Nat => sz ≤ q)) 0 0 (fun q : Nat => sz ≤ q) := by
  refine Met.ofW (cc := cX7_stationAt) (maxL := 2) (ret := (some (.object "Spotbeat$Station"))) (by decide) rfl ?_
  intro p e s m args below meth c s₁ B hml hv
  obtain ⟨rfl, hsz, hP, hK, hE⟩ := hv
  have hx := B.exec
  have hb := B.bytes
  have hr := B.returns
  have hts := atoms_spec (ws := zwX7_stationAt) B.pre
  have hown : s.vm.findClass RX7 = some m.cls := findClass_of_methodNamed B.named
  have hlocks := B.notSynchronized
  subst hsz
  have hA : ∀ q : Nat, s.heap.size ≤ q → s.heap.size ≤ q := fun _ h => h
  have hS : va_S (fun q : Nat => s.heap.size ≤ q) s.heap s.heap [] := va_S.rf
  have hl := lv_entry ([.ref x, .int v]) (n := 2) (Nat.le_of_ble_eq_true rfl)
  rw [lg_entry_eq]
  generalize (lg_sl ([.ref x, .int v]) ++ List.replicate (2 - (lg_sl ([.ref x, .int v])).length) Slot.unset).toArray = ls at hl ⊢
  have hl : lv_has ls 2 [(0, .ref x), (1, .int v)] := hl
  refine lv_iload_n hx hb dX7_stationAt_0 rfl (lv_at hl 1 rfl) ?_
  refine lv_if_lt (tgt := 22) hx hb dX7_stationAt_1 (by decide) (fun c_1 => ?_) (fun c_1 => ?_)
  · refine lv_null hx hb dX7_stationAt_22 ?_
    refine W.widen (k := 0) (n := 0) (Nat.le_of_ble_eq_true rfl) (Nat.le_of_ble_eq_true rfl) ?_
    exact W.aret (v := .null) hx hb hr (Or.inl ⟨_, rfl⟩) (Or.inl rfl) (fun t ht hW => ⟨⟨none, (), rfl, rfl, trivial⟩, hS.F ht⟩) hS.2.2 dX7_stationAt_23
  · refine lv_iload_n hx hb dX7_stationAt_4 rfl (lv_at hl 1 rfl) ?_
    refine lv_aload_n hx hb dX7_stationAt_5 rfl (lv_at hl 0 rfl) ?_
    refine va_get (D := (dC, dI)) (ci := 10) (v := .ref (ax 2)) (C := RX7) (T := TX7) (N := 12) hx hb hts (fun w h => List.mem_cons_of_mem _ (List.mem_append_right _ (h))) hown hK hP 0 rfl rfl 2 (by decide) (hts (.fieldLink RX7 21 "Spotbeat" "stationRow" "[LSpotbeat$Station;") (by decide +kernel)) (fun _ h9 => h9) rfl dX7_stationAt_6 ?_
    refine va_alen (v := 4) hx hb hK hP 3 2 rfl rfl rfl dX7_stationAt_9 ?_
    refine lv_icmp_ge (tgt := 22) hx hb dX7_stationAt_10 (by decide) (fun c_2 => ?_) (fun c_2 => ?_)
    · refine lv_null hx hb dX7_stationAt_22 ?_
      refine W.widen (k := 0) (n := 0) (Nat.le_of_ble_eq_true rfl) (Nat.le_of_ble_eq_true rfl) ?_
      exact W.aret (v := .null) hx hb hr (Or.inl ⟨_, rfl⟩) (Or.inl rfl) (fun t ht hW => ⟨⟨none, (), rfl, rfl, trivial⟩, hS.F ht⟩) hS.2.2 dX7_stationAt_23
    · refine lv_aload_n hx hb dX7_stationAt_13 rfl (lv_at hl 0 rfl) ?_
      refine va_get (D := (dC, dI)) (ci := 10) (v := .ref (ax 2)) (C := RX7) (T := TX7) (N := 12) hx hb hts (fun w h => List.mem_cons_of_mem _ (List.mem_append_right _ (h))) hown hK hP 0 rfl rfl 2 (by decide) (hts (.fieldLink RX7 21 "Spotbeat" "stationRow" "[LSpotbeat$Station;") (by decide +kernel)) (fun _ h9 => h9) rfl dX7_stationAt_14 ?_
      refine lv_iload_n hx hb dX7_stationAt_17 rfl (lv_at hl 1 rfl) ?_
      refine va_aldq hx hb hK hP 3 2 rfl rfl (zin (M := 4) (by decide +kernel) c_1 c_2) dX7_stationAt_18 ?_
      refine W.eq (g2 := F0 m 19 ls [.null]) rfl ?_
      refine lv_goto (tgt := 23) hx hb dX7_stationAt_19 (by decide) ?_
      refine W.widen (k := 0) (n := 0) (Nat.le_of_ble_eq_true rfl) (Nat.le_of_ble_eq_true rfl) ?_
      exact W.aret (v := .null) hx hb hr (Or.inl ⟨_, rfl⟩) (Or.inl rfl) (fun t ht hW => ⟨⟨none, (), rfl, rfl, trivial⟩, hS.F ht⟩) hS.2.2 dX7_stationAt_23

def zwX7_requireStation : List Cond := .code yX7_requireStation cX7_requireStation 3 (some (.object "Spotbeat$Station")) :: (([.methodLink RX7 183 yX7_stationAt, .instanceMethod yX7_stationAt, .selects RX7 yX7_stationAt yX7_stationAt, .initialized RX7, .classLink RX7 52 "java/lang/IndexOutOfBoundsException", .initialized "java/lang/IndexOutOfBoundsException"] : List Cond) ++ (zwX7_stationAt ++ (((vx_atS RX7 56 "java/lang/IndexOutOfBoundsException" zNames).filter goodWord))))
theorem zgX7_requireStation : zwX7_requireStation.all goodWord = true := zgo rfl (zga (by decide +kernel) (zga zgX7_stationAt ((zgf _))))
set_option maxHeartbeats 4000000 in
set_option maxRecDepth 100000 in
/-- requireStation throws: nothing there yet -/
theorem c_X7_requireStation (l : Launch) (hst : l.stackTraces = false) (dC : Nat → ClassId) (dI : Nat → Nat → Nat) (sz : Nat) (x : Nat) (ax : Nat → Nat) (kx : Nat → ClassId) (v : Int32) : vx_Met l yX7_requireStation zwX7_requireStation ({ frames := 6, cells := 1, slots := 6, locals := 82 }) (xPc dC dI sz x ax kx [.ref x, .int v]) (va_Qi (fun (r : Int32) (_ : Unit) => False) (fun _ _ => True) (fun q : Nat => sz ≤ q)) (zX (True) "java/lang/IndexOutOfBoundsException" (fun q : Nat => sz ≤ q)) 1 6 (fun q : Nat => sz ≤ q) := by
  refine vx_ofW (cc := cX7_requireStation) (maxL := 3) (ret := (some (.object "Spotbeat$Station"))) (by decide) rfl ?_
  intro p e s m args below meth c s₁ B hml hnt hv
  obtain ⟨rfl, hsz, hP, hK, hE⟩ := hv
  have hx := B.exec
  have hb := B.bytes
  have hr := B.returns
  have hts := atoms_spec (ws := zwX7_requireStation) B.pre
  have hown : s.vm.findClass RX7 = some m.cls := findClass_of_methodNamed B.named
  have hlocks := B.notSynchronized
  subst hsz
  have hA : ∀ q : Nat, s.heap.size ≤ q → s.heap.size ≤ q := fun _ h => h
  have hS : va_S (fun q : Nat => s.heap.size ≤ q) s.heap s.heap [] := va_S.rf
  have hl := lv_entry ([.ref x, .int v]) (n := 3) (Nat.le_of_ble_eq_true rfl)
  rw [lg_entry_eq]
  generalize (lg_sl ([.ref x, .int v]) ++ List.replicate (3 - (lg_sl ([.ref x, .int v])).length) Slot.unset).toArray = ls at hl ⊢
  have hl : lv_has ls 3 [(0, .ref x), (1, .int v)] := hl
  refine lv_aload_n hx hb dX7_requireStation_0 rfl (lv_at hl 0 rfl) ?_
  refine lv_iload_n hx hb dX7_requireStation_1 rfl (lv_at hl 1 rfl) ?_
  refine va_callq (va_runV (As := [.int v]) (rest := []) ⟨hx, hb, hml, hown, hts⟩ (c_X7_stationAt l dC dI s.heap.size x ax kx v) (cwV 1 hts (goodIn_app (goodIn_of _ (by decide +kernel)) (goodIn_sub ((fun w h => List.mem_cons_of_mem _ (List.mem_append_right _ (List.mem_append_left _ h)))) zgX7_stationAt)) rfl rfl rfl (by decide +kernel) ⟨Nat.le_of_ble_eq_true rfl, Nat.le_of_ble_eq_true rfl⟩) ⟨xPc_blind, va_recv hK hP (ci := 10) (q0 := 0) rfl rfl, xPc_pass hP hK hE hS (fun q h => hA q (Nat.le_trans hS.1 h))⟩ rfl rfl hl.1 rfl (lv_room (Nat.le_of_ble_eq_true rfl)) dX7_requireStation_2 ⟨Nat.le_of_ble_eq_true rfl, Nat.le_of_ble_eq_true rfl⟩) hS (fun q _ h => hA q (Nat.le_trans hS.1 h)) (fun q h => hA q (Nat.le_trans hS.1 h)) (fun r_1 u t H locs ht hvm hw hB hz hk hS => ?_)
  have hP := zkn hP hk
  have hw : r_1 = none := hw
  subst hw
  refine W.eq (g2 := F0 m 5 ls [.null]) rfl ?_
  refine lv_astore_nN (lv' := [(2, .null), (0, .ref x), (1, .int v)]) hx hb dX7_requireStation_5 rfl hl (by decide) rfl (fun ls hl => ?_)
  refine lv_aload_nN hx hb dX7_requireStation_6 rfl (lv_at hl 0 rfl) ?_
  refine lv_ifnonnullN hx hb dX7_requireStation_7 ?_
  exact zThrow (Ts := zwX7_requireStation) (px := True) (E := "java/lang/IndexOutOfBoundsException") (ik := 52) (is := 186) (ic := 56) hx hb hst hown hts hE hS (hl.1.trans hml.symm) (by decide) (by decide +kernel) (text := "no such station") (by decide) (by decide +kernel) (by decide +kernel) (fun w h => List.mem_cons_of_mem _ (List.mem_append_right _ (List.mem_append_right _ (h)))) (by decide +kernel) (by decide +kernel) dX7_requireStation_10 dX7_requireStation_13 dX7_requireStation_14 dX7_requireStation_16 dX7_requireStation_19 hnt (Nat.le_of_ble_eq_true rfl) (Nat.le_of_ble_eq_true rfl) (Nat.le_of_ble_eq_true rfl) (Nat.le_of_ble_eq_true rfl) hlocks trivial hS.2.2 (Nat.le_of_ble_eq_true rfl) (Nat.le_of_ble_eq_true rfl)

def zwX7_robotAt : List Cond := .code yX7_robotAt cX7_robotAt 2 (some (.object "Spotbeat$Robot")) :: (([.fieldLink RX7 27 "Spotbeat" "robotRow" "[LSpotbeat$Robot;"] : List Cond) ++ (wsX70))
theorem zgX7_robotAt : zwX7_robotAt.all goodWord = true := zgo rfl (zga (by decide +kernel) (zgcX7))
set_option maxHeartbeats 4000000 in
set_option maxRecDepth 100000 in
/-- robotAt: nothing there yet -/
theorem c_X7_robotAt (l : Launch) (dC : Nat → ClassId) (dI : Nat → Nat → Nat) (sz : Nat) (x : Nat) (ax : Nat → Nat) (kx : Nat → ClassId) (v : Int32) : Met l yX7_robotAt zwX7_robotAt ({ frames := 0, cells := 0, slots := 0, locals := 0 }) (xPc dC dI sz x ax kx [.ref x, .int v]) (va_Qq (fun (r : Option Nat) (_ : Unit) => r = none) (fun _ _ => True) (fun q : Nat => sz ≤ q)) 0 0 (fun q : Nat => sz ≤ q) := by
  refine Met.ofW (cc := cX7_robotAt) (maxL := 2) (ret := (some (.object "Spotbeat$Robot"))) (by decide) rfl ?_
  intro p e s m args below meth c s₁ B hml hv
  obtain ⟨rfl, hsz, hP, hK, hE⟩ := hv
  have hx := B.exec
  have hb := B.bytes
  have hr := B.returns
  have hts := atoms_spec (ws := zwX7_robotAt) B.pre
  have hown : s.vm.findClass RX7 = some m.cls := findClass_of_methodNamed B.named
  have hlocks := B.notSynchronized
  subst hsz
  have hA : ∀ q : Nat, s.heap.size ≤ q → s.heap.size ≤ q := fun _ h => h
  have hS : va_S (fun q : Nat => s.heap.size ≤ q) s.heap s.heap [] := va_S.rf
  have hl := lv_entry ([.ref x, .int v]) (n := 2) (Nat.le_of_ble_eq_true rfl)
  rw [lg_entry_eq]
  generalize (lg_sl ([.ref x, .int v]) ++ List.replicate (2 - (lg_sl ([.ref x, .int v])).length) Slot.unset).toArray = ls at hl ⊢
  have hl : lv_has ls 2 [(0, .ref x), (1, .int v)] := hl
  refine lv_iload_n hx hb dX7_robotAt_0 rfl (lv_at hl 1 rfl) ?_
  refine lv_if_lt (tgt := 22) hx hb dX7_robotAt_1 (by decide) (fun c_1 => ?_) (fun c_1 => ?_)
  · refine lv_null hx hb dX7_robotAt_22 ?_
    refine W.widen (k := 0) (n := 0) (Nat.le_of_ble_eq_true rfl) (Nat.le_of_ble_eq_true rfl) ?_
    exact W.aret (v := .null) hx hb hr (Or.inl ⟨_, rfl⟩) (Or.inl rfl) (fun t ht hW => ⟨⟨none, (), rfl, rfl, trivial⟩, hS.F ht⟩) hS.2.2 dX7_robotAt_23
  · refine lv_iload_n hx hb dX7_robotAt_4 rfl (lv_at hl 1 rfl) ?_
    refine lv_aload_n hx hb dX7_robotAt_5 rfl (lv_at hl 0 rfl) ?_
    refine va_get (D := (dC, dI)) (ci := 10) (v := .ref (ax 3)) (C := RX7) (T := TX7) (N := 12) hx hb hts (fun w h => List.mem_cons_of_mem _ (List.mem_append_right _ (h))) hown hK hP 0 rfl rfl 3 (by decide) (hts (.fieldLink RX7 27 "Spotbeat" "robotRow" "[LSpotbeat$Robot;") (by decide +kernel)) (fun _ h9 => h9) rfl dX7_robotAt_6 ?_
    refine va_alen (v := 12) hx hb hK hP 4 3 rfl rfl rfl dX7_robotAt_9 ?_
    refine lv_icmp_ge (tgt := 22) hx hb dX7_robotAt_10 (by decide) (fun c_2 => ?_) (fun c_2 => ?_)
    · refine lv_null hx hb dX7_robotAt_22 ?_
      refine W.widen (k := 0) (n := 0) (Nat.le_of_ble_eq_true rfl) (Nat.le_of_ble_eq_true rfl) ?_
      exact W.aret (v := .null) hx hb hr (Or.inl ⟨_, rfl⟩) (Or.inl rfl) (fun t ht hW => ⟨⟨none, (), rfl, rfl, trivial⟩, hS.F ht⟩) hS.2.2 dX7_robotAt_23
    · refine lv_aload_n hx hb dX7_robotAt_13 rfl (lv_at hl 0 rfl) ?_
      refine va_get (D := (dC, dI)) (ci := 10) (v := .ref (ax 3)) (C := RX7) (T := TX7) (N := 12) hx hb hts (fun w h => List.mem_cons_of_mem _ (List.mem_append_right _ (h))) hown hK hP 0 rfl rfl 3 (by decide) (hts (.fieldLink RX7 27 "Spotbeat" "robotRow" "[LSpotbeat$Robot;") (by decide +kernel)) (fun _ h9 => h9) rfl dX7_robotAt_14 ?_
      refine lv_iload_n hx hb dX7_robotAt_17 rfl (lv_at hl 1 rfl) ?_
      refine va_aldq hx hb hK hP 4 3 rfl rfl (zin (M := 12) (by decide +kernel) c_1 c_2) dX7_robotAt_18 ?_
      refine W.eq (g2 := F0 m 19 ls [.null]) rfl ?_
      refine lv_goto (tgt := 23) hx hb dX7_robotAt_19 (by decide) ?_
      refine W.widen (k := 0) (n := 0) (Nat.le_of_ble_eq_true rfl) (Nat.le_of_ble_eq_true rfl) ?_
      exact W.aret (v := .null) hx hb hr (Or.inl ⟨_, rfl⟩) (Or.inl rfl) (fun t ht hW => ⟨⟨none, (), rfl, rfl, trivial⟩, hS.F ht⟩) hS.2.2 dX7_robotAt_23

def zwX7_requireRobot : List Cond := .code yX7_requireRobot cX7_requireRobot 3 (some (.object "Spotbeat$Robot")) :: (([.methodLink RX7 178 yX7_robotAt, .instanceMethod yX7_robotAt, .selects RX7 yX7_robotAt yX7_robotAt, .initialized RX7, .classLink RX7 52 "java/lang/IndexOutOfBoundsException", .initialized "java/lang/IndexOutOfBoundsException"] : List Cond) ++ (zwX7_robotAt ++ (((vx_atS RX7 56 "java/lang/IndexOutOfBoundsException" zNames).filter goodWord))))
theorem zgX7_requireRobot : zwX7_requireRobot.all goodWord = true := zgo rfl (zga (by decide +kernel) (zga zgX7_robotAt ((zgf _))))
set_option maxHeartbeats 4000000 in
set_option maxRecDepth 100000 in
/-- requireRobot throws: nothing there yet -/
theorem c_X7_requireRobot (l : Launch) (hst : l.stackTraces = false) (dC : Nat → ClassId) (dI : Nat → Nat → Nat) (sz : Nat) (x : Nat) (ax : Nat → Nat) (kx : Nat → ClassId) (v : Int32) : vx_Met l yX7_requireRobot zwX7_requireRobot ({ frames := 6, cells := 1, slots := 6, locals := 82 }) (xPc dC dI sz x ax kx [.ref x, .int v]) (va_Qi (fun (r : Int32) (_ : Unit) => False) (fun _ _ => True) (fun q : Nat => sz ≤ q)) (zX (True) "java/lang/IndexOutOfBoundsException" (fun q : Nat => sz ≤ q)) 1 6 (fun q : Nat => sz ≤ q) := by
  refine vx_ofW (cc := cX7_requireRobot) (maxL := 3) (ret := (some (.object "Spotbeat$Robot"))) (by decide) rfl ?_
  intro p e s m args below meth c s₁ B hml hnt hv
  obtain ⟨rfl, hsz, hP, hK, hE⟩ := hv
  have hx := B.exec
  have hb := B.bytes
  have hr := B.returns
  have hts := atoms_spec (ws := zwX7_requireRobot) B.pre
  have hown : s.vm.findClass RX7 = some m.cls := findClass_of_methodNamed B.named
  have hlocks := B.notSynchronized
  subst hsz
  have hA : ∀ q : Nat, s.heap.size ≤ q → s.heap.size ≤ q := fun _ h => h
  have hS : va_S (fun q : Nat => s.heap.size ≤ q) s.heap s.heap [] := va_S.rf
  have hl := lv_entry ([.ref x, .int v]) (n := 3) (Nat.le_of_ble_eq_true rfl)
  rw [lg_entry_eq]
  generalize (lg_sl ([.ref x, .int v]) ++ List.replicate (3 - (lg_sl ([.ref x, .int v])).length) Slot.unset).toArray = ls at hl ⊢
  have hl : lv_has ls 3 [(0, .ref x), (1, .int v)] := hl
  refine lv_aload_n hx hb dX7_requireRobot_0 rfl (lv_at hl 0 rfl) ?_
  refine lv_iload_n hx hb dX7_requireRobot_1 rfl (lv_at hl 1 rfl) ?_
  refine va_callq (va_runV (As := [.int v]) (rest := []) ⟨hx, hb, hml, hown, hts⟩ (c_X7_robotAt l dC dI s.heap.size x ax kx v) (cwV 1 hts (goodIn_app (goodIn_of _ (by decide +kernel)) (goodIn_sub ((fun w h => List.mem_cons_of_mem _ (List.mem_append_right _ (List.mem_append_left _ h)))) zgX7_robotAt)) rfl rfl rfl (by decide +kernel) ⟨Nat.le_of_ble_eq_true rfl, Nat.le_of_ble_eq_true rfl⟩) ⟨xPc_blind, va_recv hK hP (ci := 10) (q0 := 0) rfl rfl, xPc_pass hP hK hE hS (fun q h => hA q (Nat.le_trans hS.1 h))⟩ rfl rfl hl.1 rfl (lv_room (Nat.le_of_ble_eq_true rfl)) dX7_requireRobot_2 ⟨Nat.le_of_ble_eq_true rfl, Nat.le_of_ble_eq_true rfl⟩) hS (fun q _ h => hA q (Nat.le_trans hS.1 h)) (fun q h => hA q (Nat.le_trans hS.1 h)) (fun r_1 u t H locs ht hvm hw hB hz hk hS => ?_)
  have hP := zkn hP hk
  have hw : r_1 = none := hw
  subst hw
  refine W.eq (g2 := F0 m 5 ls [.null]) rfl ?_
  refine lv_astore_nN (lv' := [(2, .null), (0, .ref x), (1, .int v)]) hx hb dX7_requireRobot_5 rfl hl (by decide) rfl (fun ls hl => ?_)
  refine lv_aload_nN hx hb dX7_requireRobot_6 rfl (lv_at hl 0 rfl) ?_
  refine lv_ifnonnullN hx hb dX7_requireRobot_7 ?_
  exact zThrow (Ts := zwX7_requireRobot) (px := True) (E := "java/lang/IndexOutOfBoundsException") (ik := 52) (is := 181) (ic := 56) hx hb hst hown hts hE hS (hl.1.trans hml.symm) (by decide) (by decide +kernel) (text := "no such robot") (by decide) (by decide +kernel) (by decide +kernel) (fun w h => List.mem_cons_of_mem _ (List.mem_append_right _ (List.mem_append_right _ (h)))) (by decide +kernel) (by decide +kernel) dX7_requireRobot_10 dX7_requireRobot_13 dX7_requireRobot_14 dX7_requireRobot_16 dX7_requireRobot_19 hnt (Nat.le_of_ble_eq_true rfl) (Nat.le_of_ble_eq_true rfl) (Nat.le_of_ble_eq_true rfl) (Nat.le_of_ble_eq_true rfl) hlocks trivial hS.2.2 (Nat.le_of_ble_eq_true rfl) (Nat.le_of_ble_eq_true rfl)

def zwX7_bodyAt : List Cond := .code yX7_bodyAt cX7_bodyAt 2 (some (.object "Spotbeat$Body")) :: (([.fieldLink RX7 33 "Spotbeat" "bodyRow" "[LSpotbeat$Body;"] : List Cond) ++ (wsX70))
theorem zgX7_bodyAt : zwX7_bodyAt.all goodWord = true := zgo rfl (zga (by decide +kernel) (zgcX7))
set_option maxHeartbeats 4000000 in
set_option maxRecDepth 100000 in
/-- bodyAt: nothing there yet -/
theorem c_X7_bodyAt (l : Launch) (dC : Nat → ClassId) (dI : Nat → Nat → Nat) (sz : Nat) (x : Nat) (ax : Nat → Nat) (kx : Nat → ClassId) (v : Int32) : Met l yX7_bodyAt zwX7_bodyAt ({ frames := 0, cells := 0, slots := 0, locals := 0 }) (xPc dC dI sz x ax kx [.ref x, .int v]) (va_Qq (fun (r : Option Nat) (_ : Unit) => r = none) (fun _ _ => True) (fun q : Nat => sz ≤ q)) 0 0 (fun q : Nat => sz ≤ q) := by
  refine Met.ofW (cc := cX7_bodyAt) (maxL := 2) (ret := (some (.object "Spotbeat$Body"))) (by decide) rfl ?_
  intro p e s m args below meth c s₁ B hml hv
  obtain ⟨rfl, hsz, hP, hK, hE⟩ := hv
  have hx := B.exec
  have hb := B.bytes
  have hr := B.returns
  have hts := atoms_spec (ws := zwX7_bodyAt) B.pre
  have hown : s.vm.findClass RX7 = some m.cls := findClass_of_methodNamed B.named
  have hlocks := B.notSynchronized
  subst hsz
  have hA : ∀ q : Nat, s.heap.size ≤ q → s.heap.size ≤ q := fun _ h => h
  have hS : va_S (fun q : Nat => s.heap.size ≤ q) s.heap s.heap [] := va_S.rf
  have hl := lv_entry ([.ref x, .int v]) (n := 2) (Nat.le_of_ble_eq_true rfl)
  rw [lg_entry_eq]
  generalize (lg_sl ([.ref x, .int v]) ++ List.replicate (2 - (lg_sl ([.ref x, .int v])).length) Slot.unset).toArray = ls at hl ⊢
  have hl : lv_has ls 2 [(0, .ref x), (1, .int v)] := hl
  refine lv_iload_n hx hb dX7_bodyAt_0 rfl (lv_at hl 1 rfl) ?_
  refine lv_if_lt (tgt := 22) hx hb dX7_bodyAt_1 (by decide) (fun c_1 => ?_) (fun c_1 => ?_)
  · refine lv_null hx hb dX7_bodyAt_22 ?_
    refine W.widen (k := 0) (n := 0) (Nat.le_of_ble_eq_true rfl) (Nat.le_of_ble_eq_true rfl) ?_
    exact W.aret (v := .null) hx hb hr (Or.inl ⟨_, rfl⟩) (Or.inl rfl) (fun t ht hW => ⟨⟨none, (), rfl, rfl, trivial⟩, hS.F ht⟩) hS.2.2 dX7_bodyAt_23
  · refine lv_iload_n hx hb dX7_bodyAt_4 rfl (lv_at hl 1 rfl) ?_
    refine lv_aload_n hx hb dX7_bodyAt_5 rfl (lv_at hl 0 rfl) ?_
    refine va_get (D := (dC, dI)) (ci := 10) (v := .ref (ax 4)) (C := RX7) (T := TX7) (N := 12) hx hb hts (fun w h => List.mem_cons_of_mem _ (List.mem_append_right _ (h))) hown hK hP 0 rfl rfl 4 (by decide) (hts (.fieldLink RX7 33 "Spotbeat" "bodyRow" "[LSpotbeat$Body;") (by decide +kernel)) (fun _ h9 => h9) rfl dX7_bodyAt_6 ?_
    refine va_alen (v := 40) hx hb hK hP 5 4 rfl rfl rfl dX7_bodyAt_9 ?_
    refine lv_icmp_ge (tgt := 22) hx hb dX7_bodyAt_10 (by decide) (fun c_2 => ?_) (fun c_2 => ?_)
    · refine lv_null hx hb dX7_bodyAt_22 ?_
      refine W.widen (k := 0) (n := 0) (Nat.le_of_ble_eq_true rfl) (Nat.le_of_ble_eq_true rfl) ?_
      exact W.aret (v := .null) hx hb hr (Or.inl ⟨_, rfl⟩) (Or.inl rfl) (fun t ht hW => ⟨⟨none, (), rfl, rfl, trivial⟩, hS.F ht⟩) hS.2.2 dX7_bodyAt_23
    · refine lv_aload_n hx hb dX7_bodyAt_13 rfl (lv_at hl 0 rfl) ?_
      refine va_get (D := (dC, dI)) (ci := 10) (v := .ref (ax 4)) (C := RX7) (T := TX7) (N := 12) hx hb hts (fun w h => List.mem_cons_of_mem _ (List.mem_append_right _ (h))) hown hK hP 0 rfl rfl 4 (by decide) (hts (.fieldLink RX7 33 "Spotbeat" "bodyRow" "[LSpotbeat$Body;") (by decide +kernel)) (fun _ h9 => h9) rfl dX7_bodyAt_14 ?_
      refine lv_iload_n hx hb dX7_bodyAt_17 rfl (lv_at hl 1 rfl) ?_
      refine va_aldq hx hb hK hP 5 4 rfl rfl (zin (M := 40) (by decide +kernel) c_1 c_2) dX7_bodyAt_18 ?_
      refine W.eq (g2 := F0 m 19 ls [.null]) rfl ?_
      refine lv_goto (tgt := 23) hx hb dX7_bodyAt_19 (by decide) ?_
      refine W.widen (k := 0) (n := 0) (Nat.le_of_ble_eq_true rfl) (Nat.le_of_ble_eq_true rfl) ?_
      exact W.aret (v := .null) hx hb hr (Or.inl ⟨_, rfl⟩) (Or.inl rfl) (fun t ht hW => ⟨⟨none, (), rfl, rfl, trivial⟩, hS.F ht⟩) hS.2.2 dX7_bodyAt_23

def zwX7_requireBody : List Cond := .code yX7_requireBody cX7_requireBody 3 (some (.object "Spotbeat$Body")) :: (([.methodLink RX7 188 yX7_bodyAt, .instanceMethod yX7_bodyAt, .selects RX7 yX7_bodyAt yX7_bodyAt, .initialized RX7, .classLink RX7 52 "java/lang/IndexOutOfBoundsException", .initialized "java/lang/IndexOutOfBoundsException"] : List Cond) ++ (zwX7_bodyAt ++ (((vx_atS RX7 56 "java/lang/IndexOutOfBoundsException" zNames).filter goodWord))))
theorem zgX7_requireBody : zwX7_requireBody.all goodWord = true := zgo rfl (zga (by decide +kernel) (zga zgX7_bodyAt ((zgf _))))
set_option maxHeartbeats 4000000 in
set_option maxRecDepth 100000 in
/-- requireBody throws: nothing there yet -/
theorem c_X7_requireBody (l : Launch) (hst : l.stackTraces = false) (dC : Nat → ClassId) (dI : Nat → Nat → Nat) (sz : Nat) (x : Nat) (ax : Nat → Nat) (kx : Nat → ClassId) (v : Int32) : vx_Met l yX7_requireBody zwX7_requireBody ({ frames := 6, cells := 1, slots := 6, locals := 82 }) (xPc dC dI sz x ax kx [.ref x, .int v]) (va_Qi (fun (r : Int32) (_ : Unit) => False) (fun _ _ => True) (fun q : Nat => sz ≤ q)) (zX (True) "java/lang/IndexOutOfBoundsException" (fun q : Nat => sz ≤ q)) 1 6 (fun q : Nat => sz ≤ q) := by
  refine vx_ofW (cc := cX7_requireBody) (maxL := 3) (ret := (some (.object "Spotbeat$Body"))) (by decide) rfl ?_
  intro p e s m args below meth c s₁ B hml hnt hv
  obtain ⟨rfl, hsz, hP, hK, hE⟩ := hv
  have hx := B.exec
  have hb := B.bytes
  have hr := B.returns
  have hts := atoms_spec (ws := zwX7_requireBody) B.pre
  have hown : s.vm.findClass RX7 = some m.cls := findClass_of_methodNamed B.named
  have hlocks := B.notSynchronized
  subst hsz
  have hA : ∀ q : Nat, s.heap.size ≤ q → s.heap.size ≤ q := fun _ h => h
  have hS : va_S (fun q : Nat => s.heap.size ≤ q) s.heap s.heap [] := va_S.rf
  have hl := lv_entry ([.ref x, .int v]) (n := 3) (Nat.le_of_ble_eq_true rfl)
  rw [lg_entry_eq]
  generalize (lg_sl ([.ref x, .int v]) ++ List.replicate (3 - (lg_sl ([.ref x, .int v])).length) Slot.unset).toArray = ls at hl ⊢
  have hl : lv_has ls 3 [(0, .ref x), (1, .int v)] := hl
  refine lv_aload_n hx hb dX7_requireBody_0 rfl (lv_at hl 0 rfl) ?_
  refine lv_iload_n hx hb dX7_requireBody_1 rfl (lv_at hl 1 rfl) ?_
  refine va_callq (va_runV (As := [.int v]) (rest := []) ⟨hx, hb, hml, hown, hts⟩ (c_X7_bodyAt l dC dI s.heap.size x ax kx v) (cwV 1 hts (goodIn_app (goodIn_of _ (by decide +kernel)) (goodIn_sub ((fun w h => List.mem_cons_of_mem _ (List.mem_append_right _ (List.mem_append_left _ h)))) zgX7_bodyAt)) rfl rfl rfl (by decide +kernel) ⟨Nat.le_of_ble_eq_true rfl, Nat.le_of_ble_eq_true rfl⟩) ⟨xPc_blind, va_recv hK hP (ci := 10) (q0 := 0) rfl rfl, xPc_pass hP hK hE hS (fun q h => hA q (Nat.le_trans hS.1 h))⟩ rfl rfl hl.1 rfl (lv_room (Nat.le_of_ble_eq_true rfl)) dX7_requireBody_2 ⟨Nat.le_of_ble_eq_true rfl, Nat.le_of_ble_eq_true rfl⟩) hS (fun q _ h => hA q (Nat.le_trans hS.1 h)) (fun q h => hA q (Nat.le_trans hS.1 h)) (fun r_1 u t H locs ht hvm hw hB hz hk hS => ?_)
  have hP := zkn hP hk
  have hw : r_1 = none := hw
  subst hw
  refine W.eq (g2 := F0 m 5 ls [.null]) rfl ?_
  refine lv_astore_nN (lv' := [(2, .null), (0, .ref x), (1, .int v)]) hx hb dX7_requireBody_5 rfl hl (by decide) rfl (fun ls hl => ?_)
  refine lv_aload_nN hx hb dX7_requireBody_6 rfl (lv_at hl 0 rfl) ?_
  refine lv_ifnonnullN hx hb dX7_requireBody_7 ?_
  exact zThrow (Ts := zwX7_requireBody) (px := True) (E := "java/lang/IndexOutOfBoundsException") (ik := 52) (is := 192) (ic := 56) hx hb hst hown hts hE hS (hl.1.trans hml.symm) (by decide) (by decide +kernel) (text := "no such body") (by decide) (by decide +kernel) (by decide +kernel) (fun w h => List.mem_cons_of_mem _ (List.mem_append_right _ (List.mem_append_right _ (h)))) (by decide +kernel) (by decide +kernel) dX7_requireBody_10 dX7_requireBody_13 dX7_requireBody_14 dX7_requireBody_16 dX7_requireBody_19 hnt (Nat.le_of_ble_eq_true rfl) (Nat.le_of_ble_eq_true rfl) (Nat.le_of_ble_eq_true rfl) (Nat.le_of_ble_eq_true rfl) hlocks trivial hS.2.2 (Nat.le_of_ble_eq_true rfl) (Nat.le_of_ble_eq_true rfl)

def zwX7_isPanel : List Cond := .code yX7_isPanel cX7_isPanel 2 (some .boolean) :: (([.fieldLink RX7 44 "Spotbeat" "panelCount" "I"] : List Cond) ++ (wsX70))
theorem zgX7_isPanel : zwX7_isPanel.all goodWord = true := zgo rfl (zga (by decide +kernel) (zgcX7))
set_option maxHeartbeats 4000000 in
set_option maxRecDepth 100000 in
/-- no panel yet -/
theorem c_X7_isPanel (l : Launch) (dC : Nat → ClassId) (dI : Nat → Nat → Nat) (sz : Nat) (x : Nat) (ax : Nat → Nat) (kx : Nat → ClassId) (v : Int32) : Met l yX7_isPanel zwX7_isPanel ({ frames := 0, cells := 0, slots := 0, locals := 0 }) (xPc dC dI sz x ax kx [.ref x, .int v]) (va_Qi (fun (r : Int32) (_ : Unit) => r = 0) (fun _ _ => True) (fun q : Nat => sz ≤ q)) 0 0 (fun q : Nat => sz ≤ q) := by
  refine Met.ofW (cc := cX7_isPanel) (maxL := 2) (ret := (some .boolean)) (by decide) rfl ?_
  intro p e s m args below meth c s₁ B hml hv
  obtain ⟨rfl, hsz, hP, hK, hE⟩ := hv
  have hx := B.exec
  have hb := B.bytes
  have hr := B.returns
  have hts := atoms_spec (ws := zwX7_isPanel) B.pre
  have hown : s.vm.findClass RX7 = some m.cls := findClass_of_methodNamed B.named
  have hlocks := B.notSynchronized
  subst hsz
  have hA : ∀ q : Nat, s.heap.size ≤ q → s.heap.size ≤ q := fun _ h => h
  have hS : va_S (fun q : Nat => s.heap.size ≤ q) s.heap s.heap [] := va_S.rf
  have hl := lv_entry ([.ref x, .int v]) (n := 2) (Nat.le_of_ble_eq_true rfl)
  rw [lg_entry_eq]
  generalize (lg_sl ([.ref x, .int v]) ++ List.replicate (2 - (lg_sl ([.ref x, .int v])).length) Slot.unset).toArray = ls at hl ⊢
  have hl : lv_has ls 2 [(0, .ref x), (1, .int v)] := hl
  refine lv_iload_n hx hb dX7_isPanel_0 rfl (lv_at hl 1 rfl) ?_
  refine lv_if_lt (tgt := 25) hx hb dX7_isPanel_1 (by decide) (fun c_1 => ?_) (fun c_1 => ?_)
  · refine lv_iconst (v := 0) hx hb dX7_isPanel_25 (by decide) ?_
    refine W.widen (k := 0) (n := 0) (Nat.le_of_ble_eq_true rfl) (Nat.le_of_ble_eq_true rfl) ?_
    exact W.zret (v := 0) hx hb hr (by decide +kernel) (fun t ht hW => ⟨⟨0, (), rfl, rfl, trivial⟩, hS.F ht⟩) hS.2.2 dX7_isPanel_26
  · refine lv_iload_n hx hb dX7_isPanel_4 rfl (lv_at hl 1 rfl) ?_
    refine lv_aload_n hx hb dX7_isPanel_5 rfl (lv_at hl 0 rfl) ?_
    refine va_get (D := (dC, dI)) (ci := 10) (v := .int 0) (C := RX7) (T := TX7) (N := 12) hx hb hts (fun w h => List.mem_cons_of_mem _ (List.mem_append_right _ (h))) hown hK hP 0 rfl rfl 6 (by decide) (hts (.fieldLink RX7 44 "Spotbeat" "panelCount" "I") (by decide +kernel)) (fun _ h9 => h9) rfl dX7_isPanel_6 ?_
    refine lv_icmp_ge (tgt := 25) hx hb dX7_isPanel_9 (by decide) (fun _ => ?_) (fun c_2 => False.elim (by simp only [zPl, zPm, fa_lt, fa_le, fa_eq, zi_0, zi_1, zi_3, zi_4, zi_7, zi_8, zi_10, zi_12, zi_119, zi_m1] at c_2 c_1 ⊢ <;> omega))
    refine lv_iconst (v := 0) hx hb dX7_isPanel_25 (by decide) ?_
    refine W.widen (k := 0) (n := 0) (Nat.le_of_ble_eq_true rfl) (Nat.le_of_ble_eq_true rfl) ?_
    exact W.zret (v := 0) hx hb hr (by decide +kernel) (fun t ht hW => ⟨⟨0, (), rfl, rfl, trivial⟩, hS.F ht⟩) hS.2.2 dX7_isPanel_26

def zwX7_countAt : List Cond := .code yX7_countAt cX7_countAt 7 (some .int) :: (([.fieldLink RX7 33 "Spotbeat" "bodyRow" "[LSpotbeat$Body;"] : List Cond) ++ (wsX70))
theorem zgX7_countAt : zwX7_countAt.all goodWord = true := zgo rfl (zga (by decide +kernel) (zgcX7))
set_option maxHeartbeats 4000000 in
set_option maxRecDepth 100000 in
/-- no body yet -/
theorem c_X7_countAt (l : Launch) (dC : Nat → ClassId) (dI : Nat → Nat → Nat) (sz : Nat) (x : Nat) (ax : Nat → Nat) (kx : Nat → ClassId) (v : Int32) : Met l yX7_countAt zwX7_countAt ({ frames := 0, cells := 0, slots := 0, locals := 0 }) (xPc dC dI sz x ax kx [.ref x, .int v]) (va_Qi (fun (r : Int32) (_ : Unit) => r = 0) (fun _ _ => True) (fun q : Nat => sz ≤ q)) 0 0 (fun q : Nat => sz ≤ q) := by
  refine Met.ofW (cc := cX7_countAt) (maxL := 7) (ret := (some .int)) (by decide) rfl ?_
  intro p e s m args below meth c s₁ B hml hv
  obtain ⟨rfl, hsz, hP, hK, hE⟩ := hv
  have hx := B.exec
  have hb := B.bytes
  have hr := B.returns
  have hts := atoms_spec (ws := zwX7_countAt) B.pre
  have hown : s.vm.findClass RX7 = some m.cls := findClass_of_methodNamed B.named
  have hlocks := B.notSynchronized
  subst hsz
  have hA : ∀ q : Nat, s.heap.size ≤ q → s.heap.size ≤ q := fun _ h => h
  have hS : va_S (fun q : Nat => s.heap.size ≤ q) s.heap s.heap [] := va_S.rf
  have hl := lv_entry ([.ref x, .int v]) (n := 7) (Nat.le_of_ble_eq_true rfl)
  rw [lg_entry_eq]
  generalize (lg_sl ([.ref x, .int v]) ++ List.replicate (7 - (lg_sl ([.ref x, .int v])).length) Slot.unset).toArray = ls at hl ⊢
  have hl : lv_has ls 7 [(0, .ref x), (1, .int v)] := hl
  refine lv_iconst (v := 0) hx hb dX7_countAt_0 (by decide) ?_
  refine lv_istore_n (lv' := [(2, .int 0), (0, .ref x), (1, .int v)]) hx hb dX7_countAt_1 rfl hl (by decide) rfl (fun ls hl => ?_)
  refine lv_aload_n hx hb dX7_countAt_2 rfl (lv_at hl 1 rfl) ?_
  refine va_get (D := (dC, dI)) (ci := 10) (v := .ref (ax 4)) (C := RX7) (T := TX7) (N := 12) hx hb hts (fun w h => List.mem_cons_of_mem _ (List.mem_append_right _ (h))) hown hK hP 0 rfl rfl 4 (by decide) (hts (.fieldLink RX7 33 "Spotbeat" "bodyRow" "[LSpotbeat$Body;") (by decide +kernel)) (fun _ h9 => h9) rfl dX7_countAt_3 ?_
  refine lv_astore_n (lv' := [(3, .ref (ax 4)), (2, .int 0), (0, .ref x), (1, .int v)]) hx hb dX7_countAt_6 rfl hl (by decide) rfl (fun ls hl => ?_)
  refine lv_aload_n hx hb dX7_countAt_7 rfl (lv_at hl 0 rfl) ?_
  refine va_alen (v := 40) hx hb hK hP 5 4 rfl rfl rfl dX7_countAt_8 ?_
  refine lv_istore (lv' := [(4, .int 40), (3, .ref (ax 4)), (2, .int 0), (0, .ref x), (1, .int v)]) hx hb dX7_countAt_9 hl (by decide) rfl (fun ls hl => ?_)
  refine lv_iconst (v := 0) hx hb dX7_countAt_11 (by decide) ?_
  refine lv_istore (lv' := [(5, .int 0), (4, .int 40), (3, .ref (ax 4)), (2, .int 0), (0, .ref x), (1, .int v)]) hx hb dX7_countAt_12 hl (by decide) rfl (fun ls hl => ?_)
  refine zloop (N := 40) (fun i H locs ls => va_P (dC, dI) vwCl (xW x ax kx) H ∧ va_S (fun q : Nat => s.heap.size ≤ q) s.heap H locs ∧ lv_has ls 7 [(5, .int (nI i)), (4, .int 40), (3, .ref (ax 4)), (2, .int 0), (0, .ref x), (1, .int v)]) (fun i H locs ls hiN hI next0 => ?_) 0 _ _ _ (Nat.zero_le _) ⟨hP, hS, hl⟩
  obtain ⟨hP, hS, hl⟩ := hI
  refine lv_iload hx hb dX7_countAt_14 (lv_at hl 0 rfl) ?_
  refine lv_iload hx hb dX7_countAt_16 (lv_at hl 1 rfl) ?_
  refine lv_icmp_ge (tgt := 50) hx hb dX7_countAt_18 (by decide) (fun c_1 => ?_) (fun c_1 => ?_)
  · refine lv_iload_n hx hb dX7_countAt_50 rfl (lv_at hl 3 rfl) ?_
    refine W.widen (k := 0) (n := 0) (Nat.le_of_ble_eq_true rfl) (Nat.le_of_ble_eq_true rfl) ?_
    exact W.iret (v := 0) hx hb hr (fun t ht hW => ⟨⟨0, (), rfl, rfl, trivial⟩, hS.F ht⟩) hS.2.2 dX7_countAt_51
  · have hlt0 : i < 40 := by
      rcases Nat.lt_or_ge i 40 with q | q
      · exact q
      · exact absurd (nI_le q (by omega)) c_1
    have next0 := next0 hlt0
    refine lv_aload_n hx hb dX7_countAt_21 rfl (lv_at hl 2 rfl) ?_
    refine lv_iload hx hb dX7_countAt_22 (lv_at hl 0 rfl) ?_
    refine va_aldq hx hb hK hP 5 4 rfl rfl (vp_in_nI hlt0 (by decide)) dX7_countAt_24 ?_
    refine W.eq (g2 := F0 m 25 ls [.null]) rfl ?_
    refine lv_astoreN (lv' := [(6, .null), (5, .int (nI i)), (4, .int 40), (3, .ref (ax 4)), (2, .int 0), (0, .ref x), (1, .int v)]) hx hb dX7_countAt_25 hl (by decide) rfl (fun ls hl => ?_)
    refine lv_aloadN hx hb dX7_countAt_27 (lv_at hl 0 rfl) ?_
    refine lv_ifnullN (tgt := 44) hx hb dX7_countAt_29 (by decide) ?_
    refine lv_iinc (v := nI (i + 1)) (lv' := [(5, .int (nI (i + 1))), (6, .null), (4, .int 40), (3, .ref (ax 4)), (2, .int 0), (0, .ref x), (1, .int v)]) hx hb dX7_countAt_44 hl (k := 1) rfl ((rfl : nI i + Int32.ofInt 1 = nI i + 1).trans (nI_1 i)) (by decide) rfl (fun ls hl => ?_)
    refine lv_goto (tgt := 14) hx hb dX7_countAt_47 (by decide) ?_
    exact next0 _ _ _ ⟨hP, hS, lv_sub hl [0, 2, 3, 4, 5, 6] rfl⟩

def zwX7_isUncovered : List Cond := .code yX7_isUncovered cX7_isUncovered 7 (some .boolean) :: ([] : List Cond)
theorem zgX7_isUncovered : zwX7_isUncovered.all goodWord = true := zgo rfl ((by decide +kernel))
set_option maxHeartbeats 4000000 in
set_option maxRecDepth 100000 in
/-- no spot there -/
theorem c_X7_isUncovered (l : Launch) (dC : Nat → ClassId) (dI : Nat → Nat → Nat) (sz : Nat) (x : Nat) (ax : Nat → Nat) (kx : Nat → ClassId) (v : Int32) : Met l yX7_isUncovered zwX7_isUncovered ({ frames := 0, cells := 0, slots := 0, locals := 0 }) (xPc dC dI sz x ax kx [.ref x, .null, .int v]) (va_Qi (fun (r : Int32) (_ : Unit) => r = 0) (fun _ _ => True) (fun q : Nat => sz ≤ q)) 0 0 (fun q : Nat => sz ≤ q) := by
  refine Met.ofW (cc := cX7_isUncovered) (maxL := 7) (ret := (some .boolean)) (by decide) rfl ?_
  intro p e s m args below meth c s₁ B hml hv
  obtain ⟨rfl, hsz, hP, hK, hE⟩ := hv
  have hx := B.exec
  have hb := B.bytes
  have hr := B.returns
  have hts := atoms_spec (ws := zwX7_isUncovered) B.pre
  have hown : s.vm.findClass RX7 = some m.cls := findClass_of_methodNamed B.named
  have hlocks := B.notSynchronized
  subst hsz
  have hA : ∀ q : Nat, s.heap.size ≤ q → s.heap.size ≤ q := fun _ h => h
  have hS : va_S (fun q : Nat => s.heap.size ≤ q) s.heap s.heap [] := va_S.rf
  have hl := lv_entry ([.ref x, .null, .int v]) (n := 7) (Nat.le_of_ble_eq_true rfl)
  rw [lg_entry_eq]
  generalize (lg_sl ([.ref x, .null, .int v]) ++ List.replicate (7 - (lg_sl ([.ref x, .null, .int v])).length) Slot.unset).toArray = ls at hl ⊢
  have hl : lv_has ls 7 [(0, .ref x), (1, .null), (2, .int v)] := hl
  refine lv_aload_nN hx hb dX7_isUncovered_0 rfl (lv_at hl 1 rfl) ?_
  refine lv_ifnullN (tgt := 12) hx hb dX7_isUncovered_1 (by decide) ?_
  refine lv_iconst (v := 0) hx hb dX7_isUncovered_12 (by decide) ?_
  refine W.widen (k := 0) (n := 0) (Nat.le_of_ble_eq_true rfl) (Nat.le_of_ble_eq_true rfl) ?_
  exact W.zret (v := 0) hx hb hr (by decide +kernel) (fun t ht hW => ⟨⟨0, (), rfl, rfl, trivial⟩, hS.F ht⟩) hS.2.2 dX7_isUncovered_13

def zwX7_stationsAreSound : List Cond := .code yX7_stationsAreSound cX7_stationsAreSound 5 (some .boolean) :: (([.fieldLink RX7 21 "Spotbeat" "stationRow" "[LSpotbeat$Station;"] : List Cond) ++ (wsX70))
theorem zgX7_stationsAreSound : zwX7_stationsAreSound.all goodWord = true := zgo rfl (zga (by decide +kernel) (zgcX7))
set_option maxHeartbeats 4000000 in
set_option maxRecDepth 100000 in
theorem c_X7_stationsAreSound (l : Launch) (dC : Nat → ClassId) (dI : Nat → Nat → Nat) (sz : Nat) (x : Nat) (ax : Nat → Nat) (kx : Nat → ClassId) : Met l yX7_stationsAreSound zwX7_stationsAreSound ({ frames := 0, cells := 0, slots := 0, locals := 0 }) (xPc dC dI sz x ax kx [.ref x]) (va_Qi (fun (r : Int32) (_ : Unit) => r = 1) (fun _ _ => True) (fun q : Nat => sz ≤ q)) 0 0 (fun q : Nat => sz ≤ q) := by
  refine Met.ofW (cc := cX7_stationsAreSound) (maxL := 5) (ret := (some .boolean)) (by decide) rfl ?_
  intro p e s m args below meth c s₁ B hml hv
  obtain ⟨rfl, hsz, hP, hK, hE⟩ := hv
  have hx := B.exec
  have hb := B.bytes
  have hr := B.returns
  have hts := atoms_spec (ws := zwX7_stationsAreSound) B.pre
  have hown : s.vm.findClass RX7 = some m.cls := findClass_of_methodNamed B.named
  have hlocks := B.notSynchronized
  subst hsz
  have hA : ∀ q : Nat, s.heap.size ≤ q → s.heap.size ≤ q := fun _ h => h
  have hS : va_S (fun q : Nat => s.heap.size ≤ q) s.heap s.heap [] := va_S.rf
  have hl := lv_entry ([.ref x]) (n := 5) (Nat.le_of_ble_eq_true rfl)
  rw [lg_entry_eq]
  generalize (lg_sl ([.ref x]) ++ List.replicate (5 - (lg_sl ([.ref x])).length) Slot.unset).toArray = ls at hl ⊢
  have hl : lv_has ls 5 [(0, .ref x)] := hl
  refine lv_aload_n hx hb dX7_stationsAreSound_0 rfl (lv_at hl 0 rfl) ?_
  refine va_get (D := (dC, dI)) (ci := 10) (v := .ref (ax 2)) (C := RX7) (T := TX7) (N := 12) hx hb hts (fun w h => List.mem_cons_of_mem _ (List.mem_append_right _ (h))) hown hK hP 0 rfl rfl 2 (by decide) (hts (.fieldLink RX7 21 "Spotbeat" "stationRow" "[LSpotbeat$Station;") (by decide +kernel)) (fun _ h9 => h9) rfl dX7_stationsAreSound_1 ?_
  refine lv_astore_n (lv' := [(1, .ref (ax 2)), (0, .ref x)]) hx hb dX7_stationsAreSound_4 rfl hl (by decide) rfl (fun ls hl => ?_)
  refine lv_aload_n hx hb dX7_stationsAreSound_5 rfl (lv_at hl 0 rfl) ?_
  refine va_alen (v := 4) hx hb hK hP 3 2 rfl rfl rfl dX7_stationsAreSound_6 ?_
  refine lv_istore_n (lv' := [(2, .int 4), (1, .ref (ax 2)), (0, .ref x)]) hx hb dX7_stationsAreSound_7 rfl hl (by decide) rfl (fun ls hl => ?_)
  refine lv_iconst (v := 0) hx hb dX7_stationsAreSound_8 (by decide) ?_
  refine lv_istore_n (lv' := [(3, .int 0), (2, .int 4), (1, .ref (ax 2)), (0, .ref x)]) hx hb dX7_stationsAreSound_9 rfl hl (by decide) rfl (fun ls hl => ?_)
  refine zloop (N := 4) (fun i H locs ls => va_P (dC, dI) vwCl (xW x ax kx) H ∧ va_S (fun q : Nat => s.heap.size ≤ q) s.heap H locs ∧ lv_has ls 5 [(3, .int (nI i)), (2, .int 4), (1, .ref (ax 2)), (0, .ref x)]) (fun i H locs ls hiN hI next0 => ?_) 0 _ _ _ (Nat.zero_le _) ⟨hP, hS, hl⟩
  obtain ⟨hP, hS, hl⟩ := hI
  refine lv_iload_n hx hb dX7_stationsAreSound_10 rfl (lv_at hl 0 rfl) ?_
  refine lv_iload_n hx hb dX7_stationsAreSound_11 rfl (lv_at hl 1 rfl) ?_
  refine lv_icmp_ge (tgt := 80) hx hb dX7_stationsAreSound_12 (by decide) (fun c_1 => ?_) (fun c_1 => ?_)
  · refine lv_iconst (v := 1) hx hb dX7_stationsAreSound_80 (by decide) ?_
    refine W.widen (k := 0) (n := 0) (Nat.le_of_ble_eq_true rfl) (Nat.le_of_ble_eq_true rfl) ?_
    exact W.zret (v := 1) hx hb hr (by decide +kernel) (fun t ht hW => ⟨⟨1, (), rfl, rfl, trivial⟩, hS.F ht⟩) hS.2.2 dX7_stationsAreSound_81
  · have hlt0 : i < 4 := by
      rcases Nat.lt_or_ge i 4 with q | q
      · exact q
      · exact absurd (nI_le q (by omega)) c_1
    have next0 := next0 hlt0
    refine lv_aload_n hx hb dX7_stationsAreSound_15 rfl (lv_at hl 2 rfl) ?_
    refine lv_iload_n hx hb dX7_stationsAreSound_16 rfl (lv_at hl 0 rfl) ?_
    refine va_aldq hx hb hK hP 3 2 rfl rfl (vp_in_nI hlt0 (by decide)) dX7_stationsAreSound_17 ?_
    refine W.eq (g2 := F0 m 18 ls [.null]) rfl ?_
    refine lv_astoreN (lv' := [(4, .null), (3, .int (nI i)), (2, .int 4), (1, .ref (ax 2)), (0, .ref x)]) hx hb dX7_stationsAreSound_18 hl (by decide) rfl (fun ls hl => ?_)
    refine lv_aloadN hx hb dX7_stationsAreSound_20 (lv_at hl 0 rfl) ?_
    refine lv_ifnonnullN hx hb dX7_stationsAreSound_22 ?_
    refine lv_goto (tgt := 74) hx hb dX7_stationsAreSound_25 (by decide) ?_
    refine lv_iinc (v := nI (i + 1)) (lv' := [(3, .int (nI (i + 1))), (4, .null), (2, .int 4), (1, .ref (ax 2)), (0, .ref x)]) hx hb dX7_stationsAreSound_74 hl (k := 1) rfl ((rfl : nI i + Int32.ofInt 1 = nI i + 1).trans (nI_1 i)) (by decide) rfl (fun ls hl => ?_)
    refine lv_goto (tgt := 10) hx hb dX7_stationsAreSound_77 (by decide) ?_
    exact next0 _ _ _ ⟨hP, hS, lv_sub hl [0, 2, 3, 4] rfl⟩

def zwX7_orderIsSound : List Cond := .code yX7_orderIsSound cX7_orderIsSound 6 (some .boolean) :: (([.fieldLink RX7 33 "Spotbeat" "bodyRow" "[LSpotbeat$Body;"] : List Cond) ++ (wsX70))
theorem zgX7_orderIsSound : zwX7_orderIsSound.all goodWord = true := zgo rfl (zga (by decide +kernel) (zgcX7))
set_option maxHeartbeats 4000000 in
set_option maxRecDepth 100000 in
theorem c_X7_orderIsSound (l : Launch) (dC : Nat → ClassId) (dI : Nat → Nat → Nat) (sz : Nat) (x : Nat) (ax : Nat → Nat) (kx : Nat → ClassId) : Met l yX7_orderIsSound zwX7_orderIsSound ({ frames := 0, cells := 0, slots := 0, locals := 0 }) (xPc dC dI sz x ax kx [.ref x]) (va_Qi (fun (r : Int32) (_ : Unit) => r = 1) (fun _ _ => True) (fun q : Nat => sz ≤ q)) 0 0 (fun q : Nat => sz ≤ q) := by
  refine Met.ofW (cc := cX7_orderIsSound) (maxL := 6) (ret := (some .boolean)) (by decide) rfl ?_
  intro p e s m args below meth c s₁ B hml hv
  obtain ⟨rfl, hsz, hP, hK, hE⟩ := hv
  have hx := B.exec
  have hb := B.bytes
  have hr := B.returns
  have hts := atoms_spec (ws := zwX7_orderIsSound) B.pre
  have hown : s.vm.findClass RX7 = some m.cls := findClass_of_methodNamed B.named
  have hlocks := B.notSynchronized
  subst hsz
  have hA : ∀ q : Nat, s.heap.size ≤ q → s.heap.size ≤ q := fun _ h => h
  have hS : va_S (fun q : Nat => s.heap.size ≤ q) s.heap s.heap [] := va_S.rf
  have hl := lv_entry ([.ref x]) (n := 6) (Nat.le_of_ble_eq_true rfl)
  rw [lg_entry_eq]
  generalize (lg_sl ([.ref x]) ++ List.replicate (6 - (lg_sl ([.ref x])).length) Slot.unset).toArray = ls at hl ⊢
  have hl : lv_has ls 6 [(0, .ref x)] := hl
  refine lv_null hx hb dX7_orderIsSound_0 ?_
  refine lv_astore_nN (lv' := [(1, .null), (0, .ref x)]) hx hb dX7_orderIsSound_1 rfl hl (by decide) rfl (fun ls hl => ?_)
  refine lv_aload_n hx hb dX7_orderIsSound_2 rfl (lv_at hl 1 rfl) ?_
  refine va_get (D := (dC, dI)) (ci := 10) (v := .ref (ax 4)) (C := RX7) (T := TX7) (N := 12) hx hb hts (fun w h => List.mem_cons_of_mem _ (List.mem_append_right _ (h))) hown hK hP 0 rfl rfl 4 (by decide) (hts (.fieldLink RX7 33 "Spotbeat" "bodyRow" "[LSpotbeat$Body;") (by decide +kernel)) (fun _ h9 => h9) rfl dX7_orderIsSound_3 ?_
  refine lv_astore_n (lv' := [(2, .ref (ax 4)), (1, .null), (0, .ref x)]) hx hb dX7_orderIsSound_6 rfl hl (by decide) rfl (fun ls hl => ?_)
  refine lv_aload_n hx hb dX7_orderIsSound_7 rfl (lv_at hl 0 rfl) ?_
  refine va_alen (v := 40) hx hb hK hP 5 4 rfl rfl rfl dX7_orderIsSound_8 ?_
  refine lv_istore_n (lv' := [(3, .int 40), (2, .ref (ax 4)), (1, .null), (0, .ref x)]) hx hb dX7_orderIsSound_9 rfl hl (by decide) rfl (fun ls hl => ?_)
  refine lv_iconst (v := 0) hx hb dX7_orderIsSound_10 (by decide) ?_
  refine lv_istore (lv' := [(4, .int 0), (3, .int 40), (2, .ref (ax 4)), (1, .null), (0, .ref x)]) hx hb dX7_orderIsSound_11 hl (by decide) rfl (fun ls hl => ?_)
  refine zloop (N := 40) (fun i H locs ls => va_P (dC, dI) vwCl (xW x ax kx) H ∧ va_S (fun q : Nat => s.heap.size ≤ q) s.heap H locs ∧ lv_has ls 6 [(4, .int (nI i)), (3, .int 40), (2, .ref (ax 4)), (1, .null), (0, .ref x)]) (fun i H locs ls hiN hI next0 => ?_) 0 _ _ _ (Nat.zero_le _) ⟨hP, hS, hl⟩
  obtain ⟨hP, hS, hl⟩ := hI
  refine lv_iload hx hb dX7_orderIsSound_13 (lv_at hl 0 rfl) ?_
  refine lv_iload_n hx hb dX7_orderIsSound_15 rfl (lv_at hl 1 rfl) ?_
  refine lv_icmp_ge (tgt := 66) hx hb dX7_orderIsSound_16 (by decide) (fun c_1 => ?_) (fun c_1 => ?_)
  · refine lv_iconst (v := 1) hx hb dX7_orderIsSound_66 (by decide) ?_
    refine W.widen (k := 0) (n := 0) (Nat.le_of_ble_eq_true rfl) (Nat.le_of_ble_eq_true rfl) ?_
    exact W.zret (v := 1) hx hb hr (by decide +kernel) (fun t ht hW => ⟨⟨1, (), rfl, rfl, trivial⟩, hS.F ht⟩) hS.2.2 dX7_orderIsSound_67
  · have hlt0 : i < 40 := by
      rcases Nat.lt_or_ge i 40 with q | q
      · exact q
      · exact absurd (nI_le q (by omega)) c_1
    have next0 := next0 hlt0
    refine lv_aload_n hx hb dX7_orderIsSound_19 rfl (lv_at hl 2 rfl) ?_
    refine lv_iload hx hb dX7_orderIsSound_20 (lv_at hl 0 rfl) ?_
    refine va_aldq hx hb hK hP 5 4 rfl rfl (vp_in_nI hlt0 (by decide)) dX7_orderIsSound_22 ?_
    refine W.eq (g2 := F0 m 23 ls [.null]) rfl ?_
    refine lv_astoreN (lv' := [(5, .null), (4, .int (nI i)), (3, .int 40), (2, .ref (ax 4)), (1, .null), (0, .ref x)]) hx hb dX7_orderIsSound_23 hl (by decide) rfl (fun ls hl => ?_)
    refine lv_aloadN hx hb dX7_orderIsSound_25 (lv_at hl 0 rfl) ?_
    refine lv_ifnonnullN hx hb dX7_orderIsSound_27 ?_
    refine lv_goto (tgt := 60) hx hb dX7_orderIsSound_30 (by decide) ?_
    refine lv_iinc (v := nI (i + 1)) (lv' := [(4, .int (nI (i + 1))), (5, .null), (3, .int 40), (2, .ref (ax 4)), (1, .null), (0, .ref x)]) hx hb dX7_orderIsSound_60 hl (k := 1) rfl ((rfl : nI i + Int32.ofInt 1 = nI i + 1).trans (nI_1 i)) (by decide) rfl (fun ls hl => ?_)
    refine lv_goto (tgt := 13) hx hb dX7_orderIsSound_63 (by decide) ?_
    exact next0 _ _ _ ⟨hP, hS, lv_sub hl [0, 2, 3, 4, 5] rfl⟩

def zwX7_makersAreSound : List Cond := .code yX7_makersAreSound cX7_makersAreSound 9 (some .boolean) :: (([.fieldLink RX7 33 "Spotbeat" "bodyRow" "[LSpotbeat$Body;", .fieldLink RX7 15 "Spotbeat" "spotRow" "[LSpotbeat$Spot;"] : List Cond) ++ (wsX70))
theorem zgX7_makersAreSound : zwX7_makersAreSound.all goodWord = true := zgo rfl (zga (by decide +kernel) (zgcX7))
set_option maxHeartbeats 4000000 in
set_option maxRecDepth 100000 in
theorem c_X7_makersAreSound (l : Launch) (dC : Nat → ClassId) (dI : Nat → Nat → Nat) (sz : Nat) (x : Nat) (ax : Nat → Nat) (kx : Nat → ClassId) : Met l yX7_makersAreSound zwX7_makersAreSound ({ frames := 0, cells := 0, slots := 0, locals := 0 }) (xPc dC dI sz x ax kx [.ref x]) (va_Qi (fun (r : Int32) (_ : Unit) => r = 1) (fun _ _ => True) (fun q : Nat => sz ≤ q)) 0 0 (fun q : Nat => sz ≤ q) := by
  refine Met.ofW (cc := cX7_makersAreSound) (maxL := 9) (ret := (some .boolean)) (by decide) rfl ?_
  intro p e s m args below meth c s₁ B hml hv
  obtain ⟨rfl, hsz, hP, hK, hE⟩ := hv
  have hx := B.exec
  have hb := B.bytes
  have hr := B.returns
  have hts := atoms_spec (ws := zwX7_makersAreSound) B.pre
  have hown : s.vm.findClass RX7 = some m.cls := findClass_of_methodNamed B.named
  have hlocks := B.notSynchronized
  subst hsz
  have hA : ∀ q : Nat, s.heap.size ≤ q → s.heap.size ≤ q := fun _ h => h
  have hS : va_S (fun q : Nat => s.heap.size ≤ q) s.heap s.heap [] := va_S.rf
  have hl := lv_entry ([.ref x]) (n := 9) (Nat.le_of_ble_eq_true rfl)
  rw [lg_entry_eq]
  generalize (lg_sl ([.ref x]) ++ List.replicate (9 - (lg_sl ([.ref x])).length) Slot.unset).toArray = ls at hl ⊢
  have hl : lv_has ls 9 [(0, .ref x)] := hl
  refine lv_aload_n hx hb dX7_makersAreSound_0 rfl (lv_at hl 0 rfl) ?_
  refine va_get (D := (dC, dI)) (ci := 10) (v := .ref (ax 4)) (C := RX7) (T := TX7) (N := 12) hx hb hts (fun w h => List.mem_cons_of_mem _ (List.mem_append_right _ (h))) hown hK hP 0 rfl rfl 4 (by decide) (hts (.fieldLink RX7 33 "Spotbeat" "bodyRow" "[LSpotbeat$Body;") (by decide +kernel)) (fun _ h9 => h9) rfl dX7_makersAreSound_1 ?_
  refine lv_astore_n (lv' := [(1, .ref (ax 4)), (0, .ref x)]) hx hb dX7_makersAreSound_4 rfl hl (by decide) rfl (fun ls hl => ?_)
  refine lv_aload_n hx hb dX7_makersAreSound_5 rfl (lv_at hl 0 rfl) ?_
  refine va_alen (v := 40) hx hb hK hP 5 4 rfl rfl rfl dX7_makersAreSound_6 ?_
  refine lv_istore_n (lv' := [(2, .int 40), (1, .ref (ax 4)), (0, .ref x)]) hx hb dX7_makersAreSound_7 rfl hl (by decide) rfl (fun ls hl => ?_)
  refine lv_iconst (v := 0) hx hb dX7_makersAreSound_8 (by decide) ?_
  refine lv_istore_n (lv' := [(3, .int 0), (2, .int 40), (1, .ref (ax 4)), (0, .ref x)]) hx hb dX7_makersAreSound_9 rfl hl (by decide) rfl (fun ls hl => ?_)
  refine zloop (N := 40) (fun i H locs ls => va_P (dC, dI) vwCl (xW x ax kx) H ∧ va_S (fun q : Nat => s.heap.size ≤ q) s.heap H locs ∧ lv_has ls 9 [(3, .int (nI i)), (2, .int 40), (1, .ref (ax 4)), (0, .ref x)]) (fun i H locs ls hiN hI next0 => ?_) 0 _ _ _ (Nat.zero_le _) ⟨hP, hS, hl⟩
  obtain ⟨hP, hS, hl⟩ := hI
  refine lv_iload_n hx hb dX7_makersAreSound_10 rfl (lv_at hl 0 rfl) ?_
  refine lv_iload_n hx hb dX7_makersAreSound_11 rfl (lv_at hl 1 rfl) ?_
  refine lv_icmp_ge (tgt := 88) hx hb dX7_makersAreSound_12 (by decide) (fun c_1 => ?_) (fun c_1 => ?_)
  · refine lv_iconst (v := 1) hx hb dX7_makersAreSound_88 (by decide) ?_
    refine W.widen (k := 0) (n := 0) (Nat.le_of_ble_eq_true rfl) (Nat.le_of_ble_eq_true rfl) ?_
    exact W.zret (v := 1) hx hb hr (by decide +kernel) (fun t ht hW => ⟨⟨1, (), rfl, rfl, trivial⟩, hS.F ht⟩) hS.2.2 dX7_makersAreSound_89
  · have hlt0 : i < 40 := by
      rcases Nat.lt_or_ge i 40 with q | q
      · exact q
      · exact absurd (nI_le q (by omega)) c_1
    have next0 := next0 hlt0
    refine lv_aload_n hx hb dX7_makersAreSound_15 rfl (lv_at hl 2 rfl) ?_
    refine lv_iload_n hx hb dX7_makersAreSound_16 rfl (lv_at hl 0 rfl) ?_
    refine va_aldq hx hb hK hP 5 4 rfl rfl (vp_in_nI hlt0 (by decide)) dX7_makersAreSound_17 ?_
    refine W.eq (g2 := F0 m 18 ls [.null]) rfl ?_
    refine lv_astoreN (lv' := [(4, .null), (3, .int (nI i)), (2, .int 40), (1, .ref (ax 4)), (0, .ref x)]) hx hb dX7_makersAreSound_18 hl (by decide) rfl (fun ls hl => ?_)
    refine lv_aload_n hx hb dX7_makersAreSound_20 rfl (lv_at hl 4 rfl) ?_
    refine va_get (D := (dC, dI)) (ci := 10) (v := .ref (ax 1)) (C := RX7) (T := TX7) (N := 12) hx hb hts (fun w h => List.mem_cons_of_mem _ (List.mem_append_right _ (h))) hown hK hP 0 rfl rfl 1 (by decide) (hts (.fieldLink RX7 15 "Spotbeat" "spotRow" "[LSpotbeat$Spot;") (by decide +kernel)) (fun _ h9 => h9) rfl dX7_makersAreSound_21 ?_
    refine lv_astore (lv' := [(5, .ref (ax 1)), (4, .null), (3, .int (nI i)), (2, .int 40), (1, .ref (ax 4)), (0, .ref x)]) hx hb dX7_makersAreSound_24 hl (by decide) rfl (fun ls hl => ?_)
    refine lv_aload hx hb dX7_makersAreSound_26 (lv_at hl 0 rfl) ?_
    refine va_alen (v := 24) hx hb hK hP 2 1 rfl rfl rfl dX7_makersAreSound_28 ?_
    refine lv_istore (lv' := [(6, .int 24), (5, .ref (ax 1)), (4, .null), (3, .int (nI i)), (2, .int 40), (1, .ref (ax 4)), (0, .ref x)]) hx hb dX7_makersAreSound_29 hl (by decide) rfl (fun ls hl => ?_)
    refine lv_iconst (v := 0) hx hb dX7_makersAreSound_31 (by decide) ?_
    refine lv_istore (lv' := [(7, .int 0), (6, .int 24), (5, .ref (ax 1)), (4, .null), (3, .int (nI i)), (2, .int 40), (1, .ref (ax 4)), (0, .ref x)]) hx hb dX7_makersAreSound_32 hl (by decide) rfl (fun ls hl => ?_)
    refine zloop (N := 24) (fun j H locs ls => va_P (dC, dI) vwCl (xW x ax kx) H ∧ va_S (fun q : Nat => s.heap.size ≤ q) s.heap H locs ∧ lv_has ls 9 [(7, .int (nI j)), (6, .int 24), (5, .ref (ax 1)), (4, .null), (3, .int (nI i)), (2, .int 40), (1, .ref (ax 4)), (0, .ref x)]) (fun j H locs ls hiN hI next1 => ?_) 0 _ _ _ (Nat.zero_le _) ⟨hP, hS, hl⟩
    obtain ⟨hP, hS, hl⟩ := hI
    refine lv_iload hx hb dX7_makersAreSound_34 (lv_at hl 0 rfl) ?_
    refine lv_iload hx hb dX7_makersAreSound_36 (lv_at hl 1 rfl) ?_
    refine lv_icmp_ge (tgt := 82) hx hb dX7_makersAreSound_38 (by decide) (fun c_2 => ?_) (fun c_2 => ?_)
    · refine lv_iinc (v := nI (i + 1)) (lv' := [(3, .int (nI (i + 1))), (7, .int (nI j)), (6, .int 24), (5, .ref (ax 1)), (4, .null), (2, .int 40), (1, .ref (ax 4)), (0, .ref x)]) hx hb dX7_makersAreSound_82 hl (k := 4) rfl ((rfl : nI i + Int32.ofInt 1 = nI i + 1).trans (nI_1 i)) (by decide) rfl (fun ls hl => ?_)
      refine lv_goto (tgt := 10) hx hb dX7_makersAreSound_85 (by decide) ?_
      exact next0 _ _ _ ⟨hP, hS, lv_sub hl [0, 5, 6, 7] rfl⟩
    · have hlt1 : j < 24 := by
        rcases Nat.lt_or_ge j 24 with q | q
        · exact q
        · exact absurd (nI_le q (by omega)) c_2
      have next1 := next1 hlt1
      refine lv_aload hx hb dX7_makersAreSound_41 (lv_at hl 2 rfl) ?_
      refine lv_iload hx hb dX7_makersAreSound_43 (lv_at hl 0 rfl) ?_
      refine va_aldq hx hb hK hP 2 1 rfl rfl (vp_in_nI hlt1 (by decide)) dX7_makersAreSound_45 ?_
      refine W.eq (g2 := F0 m 46 ls [.null]) rfl ?_
      refine lv_astoreN (lv' := [(8, .null), (7, .int (nI j)), (6, .int 24), (5, .ref (ax 1)), (4, .null), (3, .int (nI i)), (2, .int 40), (1, .ref (ax 4)), (0, .ref x)]) hx hb dX7_makersAreSound_46 hl (by decide) rfl (fun ls hl => ?_)
      refine lv_aloadN hx hb dX7_makersAreSound_48 (lv_at hl 4 rfl) ?_
      refine lv_ifnullN (tgt := 76) hx hb dX7_makersAreSound_50 (by decide) ?_
      refine lv_iinc (v := nI (j + 1)) (lv' := [(7, .int (nI (j + 1))), (8, .null), (6, .int 24), (5, .ref (ax 1)), (4, .null), (3, .int (nI i)), (2, .int 40), (1, .ref (ax 4)), (0, .ref x)]) hx hb dX7_makersAreSound_76 hl (k := 1) rfl ((rfl : nI j + Int32.ofInt 1 = nI j + 1).trans (nI_1 j)) (by decide) rfl (fun ls hl => ?_)
      refine lv_goto (tgt := 34) hx hb dX7_makersAreSound_79 (by decide) ?_
      exact next1 _ _ _ ⟨hP, hS, lv_sub hl [0, 2, 3, 4, 5, 6, 7, 8] rfl⟩

def zwX7_requireProgram : List Cond := .code yX7_requireProgram cX7_requireProgram 4 (some (.object "Spotbeat$Program")) :: (([.methodLink RX7 143 yX7_requireRobot, .instanceMethod yX7_requireRobot, .selects RX7 yX7_requireRobot yX7_requireRobot, .initialized RX7] : List Cond) ++ (zwX7_requireRobot))
theorem zgX7_requireProgram : zwX7_requireProgram.all goodWord = true := zgo rfl (zga (by decide +kernel) (zgX7_requireRobot))
set_option maxHeartbeats 4000000 in
set_option maxRecDepth 100000 in
theorem c_X7_requireProgram (l : Launch) (hst : l.stackTraces = false) (dC : Nat → ClassId) (dI : Nat → Nat → Nat) (sz : Nat) (x : Nat) (ax : Nat → Nat) (kx : Nat → ClassId) (r : Int32) (v : Int32) : vx_Met l yX7_requireProgram zwX7_requireProgram ({ frames := 7, cells := 1, slots := 6, locals := 104 }) (xPc dC dI sz x ax kx [.ref x, .int r, .int v]) (va_Qi (fun (r : Int32) (_ : Unit) => False) (fun _ _ => True) (fun q : Nat => sz ≤ q)) (zX (True) "java/lang/IndexOutOfBoundsException" (fun q : Nat => sz ≤ q)) 1 6 (fun q : Nat => sz ≤ q) := by
  refine vx_ofW (cc := cX7_requireProgram) (maxL := 4) (ret := (some (.object "Spotbeat$Program"))) (by decide) rfl ?_
  intro p e s m args below meth c s₁ B hml hnt hv
  obtain ⟨rfl, hsz, hP, hK, hE⟩ := hv
  have hx := B.exec
  have hb := B.bytes
  have hr := B.returns
  have hts := atoms_spec (ws := zwX7_requireProgram) B.pre
  have hown : s.vm.findClass RX7 = some m.cls := findClass_of_methodNamed B.named
  have hlocks := B.notSynchronized
  subst hsz
  have hA : ∀ q : Nat, s.heap.size ≤ q → s.heap.size ≤ q := fun _ h => h
  have hS : va_S (fun q : Nat => s.heap.size ≤ q) s.heap s.heap [] := va_S.rf
  have hl := lv_entry ([.ref x, .int r, .int v]) (n := 4) (Nat.le_of_ble_eq_true rfl)
  rw [lg_entry_eq]
  generalize (lg_sl ([.ref x, .int r, .int v]) ++ List.replicate (4 - (lg_sl ([.ref x, .int r, .int v])).length) Slot.unset).toArray = ls at hl ⊢
  have hl : lv_has ls 4 [(0, .ref x), (1, .int r), (2, .int v)] := hl
  refine lv_aload_n hx hb dX7_requireProgram_0 rfl (lv_at hl 0 rfl) ?_
  refine lv_iload_n hx hb dX7_requireProgram_1 rfl (lv_at hl 1 rfl) ?_
  refine vx_calli (vx_runV (As := [.int r]) (rest := []) ⟨hx, hb, hml, hown, hts⟩ (c_X7_requireRobot l hst dC dI s.heap.size x ax kx r) (cwV 1 hts (goodIn_app (goodIn_of _ (by decide +kernel)) (goodIn_sub ((fun w h => List.mem_cons_of_mem _ (List.mem_append_right _ (h)))) zgX7_requireRobot)) rfl rfl rfl (by decide +kernel) ⟨Nat.le_of_ble_eq_true rfl, Nat.le_of_ble_eq_true rfl⟩) ⟨xPc_blind, va_recv hK hP (ci := 10) (q0 := 0) rfl rfl, xPc_pass hP hK hE hS (fun q h => hA q (Nat.le_trans hS.1 h))⟩ rfl rfl hl.1 rfl (lv_room (Nat.le_of_ble_eq_true rfl)) dX7_requireProgram_2 ⟨Nat.le_of_ble_eq_true rfl, Nat.le_of_ble_eq_true rfl⟩) hS (fun q _ h => hA q (Nat.le_trans hS.1 h)) (fun q h => hA q (Nat.le_trans hS.1 h)) (fun q _ h => hA q (Nat.le_trans hS.1 h)) (fun E ce q9 _ t H locs ht hvm hpx hBX hz hk hS hcell hv hcl => ?_) (fun r_1 u t H locs ht hvm hw hB hz hk hS => ?_)
  · have hBX : E = "java/lang/IndexOutOfBoundsException" := hBX
    subst hBX
    exact zOut (px := True) (E := "java/lang/IndexOutOfBoundsException") hnt hlocks hcell hv hcl hS trivial hS.2.2 (Nat.le_of_ble_eq_true rfl) (Nat.le_of_ble_eq_true rfl)
  have hP := zkn hP hk
  exact hw.elim

def zwX7_explore : List Cond := .code yX7_explore cX7_explore 4 none :: (([.methodLink RX7 118 yX7_requireStation, .instanceMethod yX7_requireStation, .selects RX7 yX7_requireStation yX7_requireStation, .initialized RX7] : List Cond) ++ (zwX7_requireStation))
theorem zgX7_explore : zwX7_explore.all goodWord = true := zgo rfl (zga (by decide +kernel) (zgX7_requireStation))
set_option maxHeartbeats 4000000 in
set_option maxRecDepth 100000 in
theorem c_X7_explore (l : Launch) (hst : l.stackTraces = false) (dC : Nat → ClassId) (dI : Nat → Nat → Nat) (sz : Nat) (x : Nat) (ax : Nat → Nat) (kx : Nat → ClassId) (r : Int32) (v : Int32) : vx_Met l yX7_explore zwX7_explore ({ frames := 7, cells := 1, slots := 6, locals := 104 }) (xPc dC dI sz x ax kx [.ref x, .int r, .int v]) (va_Qi (fun (r : Int32) (_ : Unit) => False) (fun _ _ => True) (fun q : Nat => sz ≤ q)) (zX (True) "java/lang/IndexOutOfBoundsException" (fun q : Nat => sz ≤ q)) 1 6 (fun q : Nat => sz ≤ q) := by
  refine vx_ofW (cc := cX7_explore) (maxL := 4) (ret := none) (by decide) rfl ?_
  intro p e s m args below meth c s₁ B hml hnt hv
  obtain ⟨rfl, hsz, hP, hK, hE⟩ := hv
  have hx := B.exec
  have hb := B.bytes
  have hr := B.returns
  have hts := atoms_spec (ws := zwX7_explore) B.pre
  have hown : s.vm.findClass RX7 = some m.cls := findClass_of_methodNamed B.named
  have hlocks := B.notSynchronized
  subst hsz
  have hA : ∀ q : Nat, s.heap.size ≤ q → s.heap.size ≤ q := fun _ h => h
  have hS : va_S (fun q : Nat => s.heap.size ≤ q) s.heap s.heap [] := va_S.rf
  have hl := lv_entry ([.ref x, .int r, .int v]) (n := 4) (Nat.le_of_ble_eq_true rfl)
  rw [lg_entry_eq]
  generalize (lg_sl ([.ref x, .int r, .int v]) ++ List.replicate (4 - (lg_sl ([.ref x, .int r, .int v])).length) Slot.unset).toArray = ls at hl ⊢
  have hl : lv_has ls 4 [(0, .ref x), (1, .int r), (2, .int v)] := hl
  refine lv_aload_n hx hb dX7_explore_0 rfl (lv_at hl 0 rfl) ?_
  refine lv_iload_n hx hb dX7_explore_1 rfl (lv_at hl 1 rfl) ?_
  refine vx_calli (vx_runV (As := [.int r]) (rest := []) ⟨hx, hb, hml, hown, hts⟩ (c_X7_requireStation l hst dC dI s.heap.size x ax kx r) (cwV 1 hts (goodIn_app (goodIn_of _ (by decide +kernel)) (goodIn_sub ((fun w h => List.mem_cons_of_mem _ (List.mem_append_right _ (h)))) zgX7_requireStation)) rfl rfl rfl (by decide +kernel) ⟨Nat.le_of_ble_eq_true rfl, Nat.le_of_ble_eq_true rfl⟩) ⟨xPc_blind, va_recv hK hP (ci := 10) (q0 := 0) rfl rfl, xPc_pass hP hK hE hS (fun q h => hA q (Nat.le_trans hS.1 h))⟩ rfl rfl hl.1 rfl (lv_room (Nat.le_of_ble_eq_true rfl)) dX7_explore_2 ⟨Nat.le_of_ble_eq_true rfl, Nat.le_of_ble_eq_true rfl⟩) hS (fun q _ h => hA q (Nat.le_trans hS.1 h)) (fun q h => hA q (Nat.le_trans hS.1 h)) (fun q _ h => hA q (Nat.le_trans hS.1 h)) (fun E ce q9 _ t H locs ht hvm hpx hBX hz hk hS hcell hv hcl => ?_) (fun r_1 u t H locs ht hvm hw hB hz hk hS => ?_)
  · have hBX : E = "java/lang/IndexOutOfBoundsException" := hBX
    subst hBX
    exact zOut (px := True) (E := "java/lang/IndexOutOfBoundsException") hnt hlocks hcell hv hcl hS trivial hS.2.2 (Nat.le_of_ble_eq_true rfl) (Nat.le_of_ble_eq_true rfl)
  have hP := zkn hP hk
  exact hw.elim

def zwX7_spot : List Cond := .code yX7_spot cX7_spot 9 (some .int) :: (([.methodLink RX7 48 yX7_isPanel, .instanceMethod yX7_isPanel, .selects RX7 yX7_isPanel yX7_isPanel, .initialized RX7, .classLink RX7 52 "java/lang/IndexOutOfBoundsException", .initialized "java/lang/IndexOutOfBoundsException"] : List Cond) ++ (zwX7_isPanel ++ (((vx_atS RX7 56 "java/lang/IndexOutOfBoundsException" zNames).filter goodWord))))
theorem zgX7_spot : zwX7_spot.all goodWord = true := zgo rfl (zga (by decide +kernel) (zga zgX7_isPanel ((zgf _))))
set_option maxHeartbeats 4000000 in
set_option maxRecDepth 100000 in
theorem c_X7_spot (l : Launch) (hst : l.stackTraces = false) (dC : Nat → ClassId) (dI : Nat → Nat → Nat) (sz : Nat) (x : Nat) (ax : Nat → Nat) (kx : Nat → ClassId) (a : Int32) (b : Int32) (d : Int32) (f : Int32) (g : Int32) (h : Int32) : vx_Met l yX7_spot zwX7_spot ({ frames := 6, cells := 1, slots := 6, locals := 82 }) (xPc dC dI sz x ax kx [.ref x, .int a, .int b, .int d, .int f, .int g, .int h]) (va_Qi (fun (r : Int32) (_ : Unit) => False) (fun _ _ => True) (fun q : Nat => sz ≤ q)) (zX (True) "java/lang/IndexOutOfBoundsException" (fun q : Nat => sz ≤ q)) 1 6 (fun q : Nat => sz ≤ q) := by
  refine vx_ofW (cc := cX7_spot) (maxL := 9) (ret := (some .int)) (by decide) rfl ?_
  intro p e s m args below meth c s₁ B hml hnt hv
  obtain ⟨rfl, hsz, hP, hK, hE⟩ := hv
  have hx := B.exec
  have hb := B.bytes
  have hr := B.returns
  have hts := atoms_spec (ws := zwX7_spot) B.pre
  have hown : s.vm.findClass RX7 = some m.cls := findClass_of_methodNamed B.named
  have hlocks := B.notSynchronized
  subst hsz
  have hA : ∀ q : Nat, s.heap.size ≤ q → s.heap.size ≤ q := fun _ h => h
  have hS : va_S (fun q : Nat => s.heap.size ≤ q) s.heap s.heap [] := va_S.rf
  have hl := lv_entry ([.ref x, .int a, .int b, .int d, .int f, .int g, .int h]) (n := 9) (Nat.le_of_ble_eq_true rfl)
  rw [lg_entry_eq]
  generalize (lg_sl ([.ref x, .int a, .int b, .int d, .int f, .int g, .int h]) ++ List.replicate (9 - (lg_sl ([.ref x, .int a, .int b, .int d, .int f, .int g, .int h])).length) Slot.unset).toArray = ls at hl ⊢
  have hl : lv_has ls 9 [(0, .ref x), (1, .int a), (2, .int b), (3, .int d), (4, .int f), (5, .int g), (6, .int h)] := hl
  refine lv_aload_n hx hb dX7_spot_0 rfl (lv_at hl 0 rfl) ?_
  refine lv_iload_n hx hb dX7_spot_1 rfl (lv_at hl 1 rfl) ?_
  refine va_calli (va_runV (As := [.int a]) (rest := []) ⟨hx, hb, hml, hown, hts⟩ (c_X7_isPanel l dC dI s.heap.size x ax kx a) (cwV 1 hts (goodIn_app (goodIn_of _ (by decide +kernel)) (goodIn_sub ((fun w h => List.mem_cons_of_mem _ (List.mem_append_right _ (List.mem_append_left _ h)))) zgX7_isPanel)) rfl rfl rfl (by decide +kernel) ⟨Nat.le_of_ble_eq_true rfl, Nat.le_of_ble_eq_true rfl⟩) ⟨xPc_blind, va_recv hK hP (ci := 10) (q0 := 0) rfl rfl, xPc_pass hP hK hE hS (fun q h => hA q (Nat.le_trans hS.1 h))⟩ rfl rfl hl.1 rfl (lv_room (Nat.le_of_ble_eq_true rfl)) dX7_spot_2 ⟨Nat.le_of_ble_eq_true rfl, Nat.le_of_ble_eq_true rfl⟩) hS (fun q _ h => hA q (Nat.le_trans hS.1 h)) (fun q h => hA q (Nat.le_trans hS.1 h)) (fun r_1 u t H locs ht hvm hw hB hz hk hS => ?_)
  have hP := zkn hP hk
  have hw : r_1 = 0 := hw
  subst hw
  refine lv_if_eq (tgt := 16) hx hb dX7_spot_5 (by decide) (fun _ => ?_) (fun c_2 => absurd c_2 (by decide))
  exact zThrow (Ts := zwX7_spot) (px := True) (E := "java/lang/IndexOutOfBoundsException") (ik := 52) (is := 54) (ic := 56) hx hb hst hown hts hE hS (hl.1.trans hml.symm) (by decide) (by decide +kernel) (text := "no such panel") (by decide) (by decide +kernel) (by decide +kernel) (fun w h => List.mem_cons_of_mem _ (List.mem_append_right _ (List.mem_append_right _ (h)))) (by decide +kernel) (by decide +kernel) dX7_spot_16 dX7_spot_19 dX7_spot_20 dX7_spot_22 dX7_spot_25 hnt (Nat.le_of_ble_eq_true rfl) (Nat.le_of_ble_eq_true rfl) (Nat.le_of_ble_eq_true rfl) (Nat.le_of_ble_eq_true rfl) hlocks trivial hS.2.2 (Nat.le_of_ble_eq_true rfl) (Nat.le_of_ble_eq_true rfl)

def zwX7_spots : List Cond := .code yX7_spots cX7_spots 7 (some .int) :: (([.methodLink RX7 89 yX7_requireVariant, .static yX7_requireVariant, .initialized RX7, .fieldLink RX7 15 "Spotbeat" "spotRow" "[LSpotbeat$Spot;"] : List Cond) ++ (zwX7_requireVariant ++ (wsX70)))
theorem zgX7_spots : zwX7_spots.all goodWord = true := zgo rfl (zga (by decide +kernel) (zga zgX7_requireVariant (zgcX7)))
set_option maxHeartbeats 4000000 in
set_option maxRecDepth 100000 in
theorem c_X7_spots (l : Launch) (hst : l.stackTraces = false) (dC : Nat → ClassId) (dI : Nat → Nat → Nat) (sz : Nat) (x : Nat) (ax : Nat → Nat) (kx : Nat → ClassId) (v : Int32) : vx_Met l yX7_spots zwX7_spots ({ frames := 7, cells := 1, slots := 6, locals := 102 }) (xPc dC dI sz x ax kx [.ref x, .int v]) (va_Qi (fun (r : Int32) (_ : Unit) => r = 0 ∧ ¬ (v < 0 ∨ 4 ≤ v)) (fun _ _ => True) (fun q : Nat => sz ≤ q)) (zX (v < 0 ∨ 4 ≤ v) "java/lang/IndexOutOfBoundsException" (fun q : Nat => sz ≤ q)) 1 6 (fun q : Nat => sz ≤ q) := by
  refine vx_ofW (cc := cX7_spots) (maxL := 7) (ret := (some .int)) (by decide) rfl ?_
  intro p e s m args below meth c s₁ B hml hnt hv
  obtain ⟨rfl, hsz, hP, hK, hE⟩ := hv
  have hx := B.exec
  have hb := B.bytes
  have hr := B.returns
  have hts := atoms_spec (ws := zwX7_spots) B.pre
  have hown : s.vm.findClass RX7 = some m.cls := findClass_of_methodNamed B.named
  have hlocks := B.notSynchronized
  subst hsz
  have hA : ∀ q : Nat, s.heap.size ≤ q → s.heap.size ≤ q := fun _ h => h
  have hS : va_S (fun q : Nat => s.heap.size ≤ q) s.heap s.heap [] := va_S.rf
  have hl := lv_entry ([.ref x, .int v]) (n := 7) (Nat.le_of_ble_eq_true rfl)
  rw [lg_entry_eq]
  generalize (lg_sl ([.ref x, .int v]) ++ List.replicate (7 - (lg_sl ([.ref x, .int v])).length) Slot.unset).toArray = ls at hl ⊢
  have hl : lv_has ls 7 [(0, .ref x), (1, .int v)] := hl
  refine lv_iload_n hx hb dX7_spots_0 rfl (lv_at hl 1 rfl) ?_
  refine vx_callv (vx_runS (As := [.int v]) (rest := []) ⟨hx, hb, hml, hown, hts⟩ (c_X7_requireVariant l hst dC dI s.heap.size v) (va_cwS 1 hts (goodIn_app (goodIn_of _ (by decide +kernel)) (goodIn_sub ((fun w h => List.mem_cons_of_mem _ (List.mem_append_right _ (List.mem_append_left _ h)))) zgX7_requireVariant)) rfl rfl rfl (by decide +kernel) ⟨Nat.le_of_ble_eq_true rfl, Nat.le_of_ble_eq_true rfl⟩) ⟨ePc_blind, ePc_pass hE hS (fun q h => hA q (Nat.le_trans hS.1 h))⟩ rfl rfl hl.1 rfl (lv_room (Nat.le_of_ble_eq_true rfl)) dX7_spots_1 ⟨Nat.le_of_ble_eq_true rfl, Nat.le_of_ble_eq_true rfl⟩) hS (fun q _ h => hA q (Nat.le_trans hS.1 h)) (fun q h => hA q (Nat.le_trans hS.1 h)) (fun q _ h => hA q (Nat.le_trans hS.1 h)) (fun E ce q9 _ t H locs ht hvm hpx hBX hz hk hS hcell hv hcl => ?_) (fun u t H locs ht hvm hw hB hz hk hS => ?_)
  · have hBX : E = "java/lang/IndexOutOfBoundsException" := hBX
    subst hBX
    exact zOut (px := v < 0 ∨ 4 ≤ v) (E := "java/lang/IndexOutOfBoundsException") hnt hlocks hcell hv hcl hS hpx hS.2.2 (Nat.le_of_ble_eq_true rfl) (Nat.le_of_ble_eq_true rfl)
  have hP := zkn hP hk
  have w_2 : ¬ (v < 0 ∨ 4 ≤ v) := hw
  refine lv_iconst (v := 0) hx hb dX7_spots_4 (by decide) ?_
  refine lv_istore_n (lv' := [(2, .int 0), (0, .ref x), (1, .int v)]) hx hb dX7_spots_5 rfl hl (by decide) rfl (fun ls hl => ?_)
  refine lv_aload_n hx hb dX7_spots_6 rfl (lv_at hl 1 rfl) ?_
  refine va_get (D := (dC, dI)) (ci := 10) (v := .ref (ax 1)) (C := RX7) (T := TX7) (N := 12) hx hb hts (fun w h => List.mem_cons_of_mem _ (List.mem_append_right _ (List.mem_append_right _ (h)))) hown hK hP 0 rfl rfl 1 (by decide) (hts (.fieldLink RX7 15 "Spotbeat" "spotRow" "[LSpotbeat$Spot;") (by decide +kernel)) (fun _ h9 => h9) rfl dX7_spots_7 ?_
  refine lv_astore_n (lv' := [(3, .ref (ax 1)), (2, .int 0), (0, .ref x), (1, .int v)]) hx hb dX7_spots_10 rfl hl (by decide) rfl (fun ls hl => ?_)
  refine lv_aload_n hx hb dX7_spots_11 rfl (lv_at hl 0 rfl) ?_
  refine va_alen (v := 24) hx hb hK hP 2 1 rfl rfl rfl dX7_spots_12 ?_
  refine lv_istore (lv' := [(4, .int 24), (3, .ref (ax 1)), (2, .int 0), (0, .ref x), (1, .int v)]) hx hb dX7_spots_13 hl (by decide) rfl (fun ls hl => ?_)
  refine lv_iconst (v := 0) hx hb dX7_spots_15 (by decide) ?_
  refine lv_istore (lv' := [(5, .int 0), (4, .int 24), (3, .ref (ax 1)), (2, .int 0), (0, .ref x), (1, .int v)]) hx hb dX7_spots_16 hl (by decide) rfl (fun ls hl => ?_)
  refine zloop (N := 24) (fun i H locs ls => va_P (dC, dI) vwCl (xW x ax kx) H ∧ va_S (fun q : Nat => s.heap.size ≤ q) s.heap H locs ∧ lv_has ls 7 [(5, .int (nI i)), (4, .int 24), (3, .ref (ax 1)), (2, .int 0), (0, .ref x), (1, .int v)]) (fun i H locs ls hiN hI next0 => ?_) 0 _ _ _ (Nat.zero_le _) ⟨hP, hS, hl⟩
  obtain ⟨hP, hS, hl⟩ := hI
  refine lv_iload hx hb dX7_spots_18 (lv_at hl 0 rfl) ?_
  refine lv_iload hx hb dX7_spots_20 (lv_at hl 1 rfl) ?_
  refine lv_icmp_ge (tgt := 54) hx hb dX7_spots_22 (by decide) (fun c_3 => ?_) (fun c_3 => ?_)
  · refine lv_iload_n hx hb dX7_spots_54 rfl (lv_at hl 3 rfl) ?_
    refine W.widen (k := 1) (n := 6) (Nat.le_of_ble_eq_true rfl) (Nat.le_of_ble_eq_true rfl) ?_
    exact vx_ret (W.iret (v := 0) hx hb hr (fun t ht hW => ⟨⟨0, (), rfl, ⟨rfl, w_2⟩, trivial⟩, hS.F ht⟩) hS.2.2 dX7_spots_55)
  · have hlt0 : i < 24 := by
      rcases Nat.lt_or_ge i 24 with q | q
      · exact q
      · exact absurd (nI_le q (by omega)) c_3
    have next0 := next0 hlt0
    refine lv_aload_n hx hb dX7_spots_25 rfl (lv_at hl 2 rfl) ?_
    refine lv_iload hx hb dX7_spots_26 (lv_at hl 0 rfl) ?_
    refine va_aldq hx hb hK hP 2 1 rfl rfl (vp_in_nI hlt0 (by decide)) dX7_spots_28 ?_
    refine W.eq (g2 := F0 m 29 ls [.null]) rfl ?_
    refine lv_astoreN (lv' := [(6, .null), (5, .int (nI i)), (4, .int 24), (3, .ref (ax 1)), (2, .int 0), (0, .ref x), (1, .int v)]) hx hb dX7_spots_29 hl (by decide) rfl (fun ls hl => ?_)
    refine lv_aloadN hx hb dX7_spots_31 (lv_at hl 0 rfl) ?_
    refine lv_ifnullN (tgt := 48) hx hb dX7_spots_33 (by decide) ?_
    refine lv_iinc (v := nI (i + 1)) (lv' := [(5, .int (nI (i + 1))), (6, .null), (4, .int 24), (3, .ref (ax 1)), (2, .int 0), (0, .ref x), (1, .int v)]) hx hb dX7_spots_48 hl (k := 1) rfl ((rfl : nI i + Int32.ofInt 1 = nI i + 1).trans (nI_1 i)) (by decide) rfl (fun ls hl => ?_)
    refine lv_goto (tgt := 18) hx hb dX7_spots_51 (by decide) ?_
    exact next0 _ _ _ ⟨hP, hS, lv_sub hl [0, 2, 3, 4, 5, 6] rfl⟩

def zwX7_isHeld : List Cond := .code yX7_isHeld cX7_isHeld 3 (some .boolean) :: (([.methodLink RX7 89 yX7_requireVariant, .static yX7_requireVariant, .initialized RX7, .fieldLink RX7 44 "Spotbeat" "panelCount" "I"] : List Cond) ++ (zwX7_requireVariant ++ (wsX70)))
theorem zgX7_isHeld : zwX7_isHeld.all goodWord = true := zgo rfl (zga (by decide +kernel) (zga zgX7_requireVariant (zgcX7)))
set_option maxHeartbeats 4000000 in
set_option maxRecDepth 100000 in
theorem c_X7_isHeld (l : Launch) (hst : l.stackTraces = false) (dC : Nat → ClassId) (dI : Nat → Nat → Nat) (sz : Nat) (x : Nat) (ax : Nat → Nat) (kx : Nat → ClassId) (v : Int32) : vx_Met l yX7_isHeld zwX7_isHeld ({ frames := 7, cells := 1, slots := 6, locals := 102 }) (xPc dC dI sz x ax kx [.ref x, .int v]) (va_Qi (fun (r : Int32) (_ : Unit) => r = 1 ∧ ¬ (v < 0 ∨ 4 ≤ v)) (fun _ _ => True) (fun q : Nat => sz ≤ q)) (zX (v < 0 ∨ 4 ≤ v) "java/lang/IndexOutOfBoundsException" (fun q : Nat => sz ≤ q)) 1 6 (fun q : Nat => sz ≤ q) := by
  refine vx_ofW (cc := cX7_isHeld) (maxL := 3) (ret := (some .boolean)) (by decide) rfl ?_
  intro p e s m args below meth c s₁ B hml hnt hv
  obtain ⟨rfl, hsz, hP, hK, hE⟩ := hv
  have hx := B.exec
  have hb := B.bytes
  have hr := B.returns
  have hts := atoms_spec (ws := zwX7_isHeld) B.pre
  have hown : s.vm.findClass RX7 = some m.cls := findClass_of_methodNamed B.named
  have hlocks := B.notSynchronized
  subst hsz
  have hA : ∀ q : Nat, s.heap.size ≤ q → s.heap.size ≤ q := fun _ h => h
  have hS : va_S (fun q : Nat => s.heap.size ≤ q) s.heap s.heap [] := va_S.rf
  have hl := lv_entry ([.ref x, .int v]) (n := 3) (Nat.le_of_ble_eq_true rfl)
  rw [lg_entry_eq]
  generalize (lg_sl ([.ref x, .int v]) ++ List.replicate (3 - (lg_sl ([.ref x, .int v])).length) Slot.unset).toArray = ls at hl ⊢
  have hl : lv_has ls 3 [(0, .ref x), (1, .int v)] := hl
  refine lv_iload_n hx hb dX7_isHeld_0 rfl (lv_at hl 1 rfl) ?_
  refine vx_callv (vx_runS (As := [.int v]) (rest := []) ⟨hx, hb, hml, hown, hts⟩ (c_X7_requireVariant l hst dC dI s.heap.size v) (va_cwS 1 hts (goodIn_app (goodIn_of _ (by decide +kernel)) (goodIn_sub ((fun w h => List.mem_cons_of_mem _ (List.mem_append_right _ (List.mem_append_left _ h)))) zgX7_requireVariant)) rfl rfl rfl (by decide +kernel) ⟨Nat.le_of_ble_eq_true rfl, Nat.le_of_ble_eq_true rfl⟩) ⟨ePc_blind, ePc_pass hE hS (fun q h => hA q (Nat.le_trans hS.1 h))⟩ rfl rfl hl.1 rfl (lv_room (Nat.le_of_ble_eq_true rfl)) dX7_isHeld_1 ⟨Nat.le_of_ble_eq_true rfl, Nat.le_of_ble_eq_true rfl⟩) hS (fun q _ h => hA q (Nat.le_trans hS.1 h)) (fun q h => hA q (Nat.le_trans hS.1 h)) (fun q _ h => hA q (Nat.le_trans hS.1 h)) (fun E ce q9 _ t H locs ht hvm hpx hBX hz hk hS hcell hv hcl => ?_) (fun u t H locs ht hvm hw hB hz hk hS => ?_)
  · have hBX : E = "java/lang/IndexOutOfBoundsException" := hBX
    subst hBX
    exact zOut (px := v < 0 ∨ 4 ≤ v) (E := "java/lang/IndexOutOfBoundsException") hnt hlocks hcell hv hcl hS hpx hS.2.2 (Nat.le_of_ble_eq_true rfl) (Nat.le_of_ble_eq_true rfl)
  have hP := zkn hP hk
  have w_2 : ¬ (v < 0 ∨ 4 ≤ v) := hw
  refine lv_iconst (v := 1) hx hb dX7_isHeld_4 (by decide) ?_
  refine lv_istore_n (lv' := [(2, .int 1), (0, .ref x), (1, .int v)]) hx hb dX7_isHeld_5 rfl hl (by decide) rfl (fun ls hl => ?_)
  refine lv_iload_n hx hb dX7_isHeld_6 rfl (lv_at hl 0 rfl) ?_
  refine lv_aload_n hx hb dX7_isHeld_7 rfl (lv_at hl 1 rfl) ?_
  refine va_get (D := (dC, dI)) (ci := 10) (v := .int 0) (C := RX7) (T := TX7) (N := 12) hx hb hts (fun w h => List.mem_cons_of_mem _ (List.mem_append_right _ (List.mem_append_right _ (h)))) hown hK hP 0 rfl rfl 6 (by decide) (hts (.fieldLink RX7 44 "Spotbeat" "panelCount" "I") (by decide +kernel)) (fun _ h9 => h9) rfl dX7_isHeld_8 ?_
  refine lv_icmp_ge (tgt := 31) hx hb dX7_isHeld_11 (by decide) (fun _ => ?_) (fun c_3 => absurd c_3 (by decide))
  refine lv_iconst (v := 1) hx hb dX7_isHeld_31 (by decide) ?_
  refine W.widen (k := 1) (n := 6) (Nat.le_of_ble_eq_true rfl) (Nat.le_of_ble_eq_true rfl) ?_
  exact vx_ret (W.zret (v := 1) hx hb hr (by decide +kernel) (fun t ht hW => ⟨⟨1, (), rfl, ⟨rfl, w_2⟩, trivial⟩, hS.F ht⟩) hS.2.2 dX7_isHeld_32)

def zwX7_robot : List Cond := .code yX7_robot cX7_robot 7 (some .int) :: (([.methodLink RX7 118 yX7_requireStation, .instanceMethod yX7_requireStation, .selects RX7 yX7_requireStation yX7_requireStation, .initialized RX7] : List Cond) ++ (zwX7_requireStation))
theorem zgX7_robot : zwX7_robot.all goodWord = true := zgo rfl (zga (by decide +kernel) (zgX7_requireStation))
set_option maxHeartbeats 4000000 in
set_option maxRecDepth 100000 in
theorem c_X7_robot (l : Launch) (hst : l.stackTraces = false) (dC : Nat → ClassId) (dI : Nat → Nat → Nat) (sz : Nat) (x : Nat) (ax : Nat → Nat) (kx : Nat → ClassId) (a : Int32) (b : Int32) (d : Int32) : vx_Met l yX7_robot zwX7_robot ({ frames := 7, cells := 1, slots := 6, locals := 104 }) (xPc dC dI sz x ax kx [.ref x, .int a, .int b, .int d]) (va_Qi (fun (r : Int32) (_ : Unit) => False) (fun _ _ => True) (fun q : Nat => sz ≤ q)) (zX (True) "java/lang/IndexOutOfBoundsException" (fun q : Nat => sz ≤ q)) 1 6 (fun q : Nat => sz ≤ q) := by
  refine vx_ofW (cc := cX7_robot) (maxL := 7) (ret := (some .int)) (by decide) rfl ?_
  intro p e s m args below meth c s₁ B hml hnt hv
  obtain ⟨rfl, hsz, hP, hK, hE⟩ := hv
  have hx := B.exec
  have hb := B.bytes
  have hr := B.returns
  have hts := atoms_spec (ws := zwX7_robot) B.pre
  have hown : s.vm.findClass RX7 = some m.cls := findClass_of_methodNamed B.named
  have hlocks := B.notSynchronized
  subst hsz
  have hA : ∀ q : Nat, s.heap.size ≤ q → s.heap.size ≤ q := fun _ h => h
  have hS : va_S (fun q : Nat => s.heap.size ≤ q) s.heap s.heap [] := va_S.rf
  have hl := lv_entry ([.ref x, .int a, .int b, .int d]) (n := 7) (Nat.le_of_ble_eq_true rfl)
  rw [lg_entry_eq]
  generalize (lg_sl ([.ref x, .int a, .int b, .int d]) ++ List.replicate (7 - (lg_sl ([.ref x, .int a, .int b, .int d])).length) Slot.unset).toArray = ls at hl ⊢
  have hl : lv_has ls 7 [(0, .ref x), (1, .int a), (2, .int b), (3, .int d)] := hl
  refine lv_aload_n hx hb dX7_robot_0 rfl (lv_at hl 0 rfl) ?_
  refine lv_iload_n hx hb dX7_robot_1 rfl (lv_at hl 1 rfl) ?_
  refine vx_calli (vx_runV (As := [.int a]) (rest := []) ⟨hx, hb, hml, hown, hts⟩ (c_X7_requireStation l hst dC dI s.heap.size x ax kx a) (cwV 1 hts (goodIn_app (goodIn_of _ (by decide +kernel)) (goodIn_sub ((fun w h => List.mem_cons_of_mem _ (List.mem_append_right _ (h)))) zgX7_requireStation)) rfl rfl rfl (by decide +kernel) ⟨Nat.le_of_ble_eq_true rfl, Nat.le_of_ble_eq_true rfl⟩) ⟨xPc_blind, va_recv hK hP (ci := 10) (q0 := 0) rfl rfl, xPc_pass hP hK hE hS (fun q h => hA q (Nat.le_trans hS.1 h))⟩ rfl rfl hl.1 rfl (lv_room (Nat.le_of_ble_eq_true rfl)) dX7_robot_2 ⟨Nat.le_of_ble_eq_true rfl, Nat.le_of_ble_eq_true rfl⟩) hS (fun q _ h => hA q (Nat.le_trans hS.1 h)) (fun q h => hA q (Nat.le_trans hS.1 h)) (fun q _ h => hA q (Nat.le_trans hS.1 h)) (fun E ce q9 _ t H locs ht hvm hpx hBX hz hk hS hcell hv hcl => ?_) (fun r_1 u t H locs ht hvm hw hB hz hk hS => ?_)
  · have hBX : E = "java/lang/IndexOutOfBoundsException" := hBX
    subst hBX
    exact zOut (px := True) (E := "java/lang/IndexOutOfBoundsException") hnt hlocks hcell hv hcl hS trivial hS.2.2 (Nat.le_of_ble_eq_true rfl) (Nat.le_of_ble_eq_true rfl)
  have hP := zkn hP hk
  exact hw.elim

def zwX7_reaches : List Cond := .code yX7_reaches cX7_reaches 4 (some .boolean) :: (([.methodLink RX7 143 yX7_requireRobot, .instanceMethod yX7_requireRobot, .selects RX7 yX7_requireRobot yX7_requireRobot, .initialized RX7] : List Cond) ++ (zwX7_requireRobot))
theorem zgX7_reaches : zwX7_reaches.all goodWord = true := zgo rfl (zga (by decide +kernel) (zgX7_requireRobot))
set_option maxHeartbeats 4000000 in
set_option maxRecDepth 100000 in
theorem c_X7_reaches (l : Launch) (hst : l.stackTraces = false) (dC : Nat → ClassId) (dI : Nat → Nat → Nat) (sz : Nat) (x : Nat) (ax : Nat → Nat) (kx : Nat → ClassId) (a : Int32) (b : Int32) : vx_Met l yX7_reaches zwX7_reaches ({ frames := 7, cells := 1, slots := 6, locals := 104 }) (xPc dC dI sz x ax kx [.ref x, .int a, .int b]) (va_Qi (fun (r : Int32) (_ : Unit) => False) (fun _ _ => True) (fun q : Nat => sz ≤ q)) (zX (True) "java/lang/IndexOutOfBoundsException" (fun q : Nat => sz ≤ q)) 1 6 (fun q : Nat => sz ≤ q) := by
  refine vx_ofW (cc := cX7_reaches) (maxL := 4) (ret := (some .boolean)) (by decide) rfl ?_
  intro p e s m args below meth c s₁ B hml hnt hv
  obtain ⟨rfl, hsz, hP, hK, hE⟩ := hv
  have hx := B.exec
  have hb := B.bytes
  have hr := B.returns
  have hts := atoms_spec (ws := zwX7_reaches) B.pre
  have hown : s.vm.findClass RX7 = some m.cls := findClass_of_methodNamed B.named
  have hlocks := B.notSynchronized
  subst hsz
  have hA : ∀ q : Nat, s.heap.size ≤ q → s.heap.size ≤ q := fun _ h => h
  have hS : va_S (fun q : Nat => s.heap.size ≤ q) s.heap s.heap [] := va_S.rf
  have hl := lv_entry ([.ref x, .int a, .int b]) (n := 4) (Nat.le_of_ble_eq_true rfl)
  rw [lg_entry_eq]
  generalize (lg_sl ([.ref x, .int a, .int b]) ++ List.replicate (4 - (lg_sl ([.ref x, .int a, .int b])).length) Slot.unset).toArray = ls at hl ⊢
  have hl : lv_has ls 4 [(0, .ref x), (1, .int a), (2, .int b)] := hl
  refine lv_aload_n hx hb dX7_reaches_0 rfl (lv_at hl 0 rfl) ?_
  refine lv_iload_n hx hb dX7_reaches_1 rfl (lv_at hl 1 rfl) ?_
  refine vx_calli (vx_runV (As := [.int a]) (rest := []) ⟨hx, hb, hml, hown, hts⟩ (c_X7_requireRobot l hst dC dI s.heap.size x ax kx a) (cwV 1 hts (goodIn_app (goodIn_of _ (by decide +kernel)) (goodIn_sub ((fun w h => List.mem_cons_of_mem _ (List.mem_append_right _ (h)))) zgX7_requireRobot)) rfl rfl rfl (by decide +kernel) ⟨Nat.le_of_ble_eq_true rfl, Nat.le_of_ble_eq_true rfl⟩) ⟨xPc_blind, va_recv hK hP (ci := 10) (q0 := 0) rfl rfl, xPc_pass hP hK hE hS (fun q h => hA q (Nat.le_trans hS.1 h))⟩ rfl rfl hl.1 rfl (lv_room (Nat.le_of_ble_eq_true rfl)) dX7_reaches_2 ⟨Nat.le_of_ble_eq_true rfl, Nat.le_of_ble_eq_true rfl⟩) hS (fun q _ h => hA q (Nat.le_trans hS.1 h)) (fun q h => hA q (Nat.le_trans hS.1 h)) (fun q _ h => hA q (Nat.le_trans hS.1 h)) (fun E ce q9 _ t H locs ht hvm hpx hBX hz hk hS hcell hv hcl => ?_) (fun r_1 u t H locs ht hvm hw hB hz hk hS => ?_)
  · have hBX : E = "java/lang/IndexOutOfBoundsException" := hBX
    subst hBX
    exact zOut (px := True) (E := "java/lang/IndexOutOfBoundsException") hnt hlocks hcell hv hcl hS trivial hS.2.2 (Nat.le_of_ble_eq_true rfl) (Nat.le_of_ble_eq_true rfl)
  have hP := zkn hP hk
  exact hw.elim

def zwX7_current : List Cond := .code yX7_current cX7_current 5 (some .int) :: (([.methodLink RX7 143 yX7_requireRobot, .instanceMethod yX7_requireRobot, .selects RX7 yX7_requireRobot yX7_requireRobot, .initialized RX7] : List Cond) ++ (zwX7_requireRobot))
theorem zgX7_current : zwX7_current.all goodWord = true := zgo rfl (zga (by decide +kernel) (zgX7_requireRobot))
set_option maxHeartbeats 4000000 in
set_option maxRecDepth 100000 in
theorem c_X7_current (l : Launch) (hst : l.stackTraces = false) (dC : Nat → ClassId) (dI : Nat → Nat → Nat) (sz : Nat) (x : Nat) (ax : Nat → Nat) (kx : Nat → ClassId) (a : Int32) (b : Int32) : vx_Met l yX7_current zwX7_current ({ frames := 7, cells := 1, slots := 6, locals := 104 }) (xPc dC dI sz x ax kx [.ref x, .int a, .int b]) (va_Qi (fun (r : Int32) (_ : Unit) => False) (fun _ _ => True) (fun q : Nat => sz ≤ q)) (zX (True) "java/lang/IndexOutOfBoundsException" (fun q : Nat => sz ≤ q)) 1 6 (fun q : Nat => sz ≤ q) := by
  refine vx_ofW (cc := cX7_current) (maxL := 5) (ret := (some .int)) (by decide) rfl ?_
  intro p e s m args below meth c s₁ B hml hnt hv
  obtain ⟨rfl, hsz, hP, hK, hE⟩ := hv
  have hx := B.exec
  have hb := B.bytes
  have hr := B.returns
  have hts := atoms_spec (ws := zwX7_current) B.pre
  have hown : s.vm.findClass RX7 = some m.cls := findClass_of_methodNamed B.named
  have hlocks := B.notSynchronized
  subst hsz
  have hA : ∀ q : Nat, s.heap.size ≤ q → s.heap.size ≤ q := fun _ h => h
  have hS : va_S (fun q : Nat => s.heap.size ≤ q) s.heap s.heap [] := va_S.rf
  have hl := lv_entry ([.ref x, .int a, .int b]) (n := 5) (Nat.le_of_ble_eq_true rfl)
  rw [lg_entry_eq]
  generalize (lg_sl ([.ref x, .int a, .int b]) ++ List.replicate (5 - (lg_sl ([.ref x, .int a, .int b])).length) Slot.unset).toArray = ls at hl ⊢
  have hl : lv_has ls 5 [(0, .ref x), (1, .int a), (2, .int b)] := hl
  refine lv_aload_n hx hb dX7_current_0 rfl (lv_at hl 0 rfl) ?_
  refine lv_iload_n hx hb dX7_current_1 rfl (lv_at hl 1 rfl) ?_
  refine vx_calli (vx_runV (As := [.int a]) (rest := []) ⟨hx, hb, hml, hown, hts⟩ (c_X7_requireRobot l hst dC dI s.heap.size x ax kx a) (cwV 1 hts (goodIn_app (goodIn_of _ (by decide +kernel)) (goodIn_sub ((fun w h => List.mem_cons_of_mem _ (List.mem_append_right _ (h)))) zgX7_requireRobot)) rfl rfl rfl (by decide +kernel) ⟨Nat.le_of_ble_eq_true rfl, Nat.le_of_ble_eq_true rfl⟩) ⟨xPc_blind, va_recv hK hP (ci := 10) (q0 := 0) rfl rfl, xPc_pass hP hK hE hS (fun q h => hA q (Nat.le_trans hS.1 h))⟩ rfl rfl hl.1 rfl (lv_room (Nat.le_of_ble_eq_true rfl)) dX7_current_2 ⟨Nat.le_of_ble_eq_true rfl, Nat.le_of_ble_eq_true rfl⟩) hS (fun q _ h => hA q (Nat.le_trans hS.1 h)) (fun q h => hA q (Nat.le_trans hS.1 h)) (fun q _ h => hA q (Nat.le_trans hS.1 h)) (fun E ce q9 _ t H locs ht hvm hpx hBX hz hk hS hcell hv hcl => ?_) (fun r_1 u t H locs ht hvm hw hB hz hk hS => ?_)
  · have hBX : E = "java/lang/IndexOutOfBoundsException" := hBX
    subst hBX
    exact zOut (px := True) (E := "java/lang/IndexOutOfBoundsException") hnt hlocks hcell hv hcl hS trivial hS.2.2 (Nat.le_of_ble_eq_true rfl) (Nat.le_of_ble_eq_true rfl)
  have hP := zkn hP hk
  exact hw.elim

def zwX7_step : List Cond := .code yX7_step cX7_step 6 (some .int) :: (([.methodLink RX7 194 yX7_requireProgram, .instanceMethod yX7_requireProgram, .selects RX7 yX7_requireProgram yX7_requireProgram, .initialized RX7] : List Cond) ++ (zwX7_requireProgram))
theorem zgX7_step : zwX7_step.all goodWord = true := zgo rfl (zga (by decide +kernel) (zgX7_requireProgram))
set_option maxHeartbeats 4000000 in
set_option maxRecDepth 100000 in
theorem c_X7_step (l : Launch) (hst : l.stackTraces = false) (dC : Nat → ClassId) (dI : Nat → Nat → Nat) (sz : Nat) (x : Nat) (ax : Nat → Nat) (kx : Nat → ClassId) (a : Int32) (b : Int32) (d : Int32) (f : Int32) : vx_Met l yX7_step zwX7_step ({ frames := 8, cells := 1, slots := 6, locals := 127 }) (xPc dC dI sz x ax kx [.ref x, .int a, .int b, .int d, .int f]) (va_Qi (fun (r : Int32) (_ : Unit) => False) (fun _ _ => True) (fun q : Nat => sz ≤ q)) (zX (True) "java/lang/IndexOutOfBoundsException" (fun q : Nat => sz ≤ q)) 1 6 (fun q : Nat => sz ≤ q) := by
  refine vx_ofW (cc := cX7_step) (maxL := 6) (ret := (some .int)) (by decide) rfl ?_
  intro p e s m args below meth c s₁ B hml hnt hv
  obtain ⟨rfl, hsz, hP, hK, hE⟩ := hv
  have hx := B.exec
  have hb := B.bytes
  have hr := B.returns
  have hts := atoms_spec (ws := zwX7_step) B.pre
  have hown : s.vm.findClass RX7 = some m.cls := findClass_of_methodNamed B.named
  have hlocks := B.notSynchronized
  subst hsz
  have hA : ∀ q : Nat, s.heap.size ≤ q → s.heap.size ≤ q := fun _ h => h
  have hS : va_S (fun q : Nat => s.heap.size ≤ q) s.heap s.heap [] := va_S.rf
  have hl := lv_entry ([.ref x, .int a, .int b, .int d, .int f]) (n := 6) (Nat.le_of_ble_eq_true rfl)
  rw [lg_entry_eq]
  generalize (lg_sl ([.ref x, .int a, .int b, .int d, .int f]) ++ List.replicate (6 - (lg_sl ([.ref x, .int a, .int b, .int d, .int f])).length) Slot.unset).toArray = ls at hl ⊢
  have hl : lv_has ls 6 [(0, .ref x), (1, .int a), (2, .int b), (3, .int d), (4, .int f)] := hl
  refine lv_aload_n hx hb dX7_step_0 rfl (lv_at hl 0 rfl) ?_
  refine lv_iload_n hx hb dX7_step_1 rfl (lv_at hl 1 rfl) ?_
  refine lv_iload_n hx hb dX7_step_2 rfl (lv_at hl 2 rfl) ?_
  refine vx_calli (vx_runV (As := [.int a, .int b]) (rest := []) ⟨hx, hb, hml, hown, hts⟩ (c_X7_requireProgram l hst dC dI s.heap.size x ax kx a b) (cwV 2 hts (goodIn_app (goodIn_of _ (by decide +kernel)) (goodIn_sub ((fun w h => List.mem_cons_of_mem _ (List.mem_append_right _ (h)))) zgX7_requireProgram)) rfl rfl rfl (by decide +kernel) ⟨Nat.le_of_ble_eq_true rfl, Nat.le_of_ble_eq_true rfl⟩) ⟨xPc_blind, va_recv hK hP (ci := 10) (q0 := 0) rfl rfl, xPc_pass hP hK hE hS (fun q h => hA q (Nat.le_trans hS.1 h))⟩ rfl rfl hl.1 rfl (lv_room (Nat.le_of_ble_eq_true rfl)) dX7_step_3 ⟨Nat.le_of_ble_eq_true rfl, Nat.le_of_ble_eq_true rfl⟩) hS (fun q _ h => hA q (Nat.le_trans hS.1 h)) (fun q h => hA q (Nat.le_trans hS.1 h)) (fun q _ h => hA q (Nat.le_trans hS.1 h)) (fun E ce q9 _ t H locs ht hvm hpx hBX hz hk hS hcell hv hcl => ?_) (fun r_1 u t H locs ht hvm hw hB hz hk hS => ?_)
  · have hBX : E = "java/lang/IndexOutOfBoundsException" := hBX
    subst hBX
    exact zOut (px := True) (E := "java/lang/IndexOutOfBoundsException") hnt hlocks hcell hv hcl hS trivial hS.2.2 (Nat.le_of_ble_eq_true rfl) (Nat.le_of_ble_eq_true rfl)
  have hP := zkn hP hk
  exact hw.elim

def zwX7_erase : List Cond := .code yX7_erase cX7_erase 5 (some .int) :: (([.methodLink RX7 194 yX7_requireProgram, .instanceMethod yX7_requireProgram, .selects RX7 yX7_requireProgram yX7_requireProgram, .initialized RX7] : List Cond) ++ (zwX7_requireProgram))
theorem zgX7_erase : zwX7_erase.all goodWord = true := zgo rfl (zga (by decide +kernel) (zgX7_requireProgram))
set_option maxHeartbeats 4000000 in
set_option maxRecDepth 100000 in
theorem c_X7_erase (l : Launch) (hst : l.stackTraces = false) (dC : Nat → ClassId) (dI : Nat → Nat → Nat) (sz : Nat) (x : Nat) (ax : Nat → Nat) (kx : Nat → ClassId) (a : Int32) (b : Int32) : vx_Met l yX7_erase zwX7_erase ({ frames := 8, cells := 1, slots := 6, locals := 127 }) (xPc dC dI sz x ax kx [.ref x, .int a, .int b]) (va_Qi (fun (r : Int32) (_ : Unit) => False) (fun _ _ => True) (fun q : Nat => sz ≤ q)) (zX (True) "java/lang/IndexOutOfBoundsException" (fun q : Nat => sz ≤ q)) 1 6 (fun q : Nat => sz ≤ q) := by
  refine vx_ofW (cc := cX7_erase) (maxL := 5) (ret := (some .int)) (by decide) rfl ?_
  intro p e s m args below meth c s₁ B hml hnt hv
  obtain ⟨rfl, hsz, hP, hK, hE⟩ := hv
  have hx := B.exec
  have hb := B.bytes
  have hr := B.returns
  have hts := atoms_spec (ws := zwX7_erase) B.pre
  have hown : s.vm.findClass RX7 = some m.cls := findClass_of_methodNamed B.named
  have hlocks := B.notSynchronized
  subst hsz
  have hA : ∀ q : Nat, s.heap.size ≤ q → s.heap.size ≤ q := fun _ h => h
  have hS : va_S (fun q : Nat => s.heap.size ≤ q) s.heap s.heap [] := va_S.rf
  have hl := lv_entry ([.ref x, .int a, .int b]) (n := 5) (Nat.le_of_ble_eq_true rfl)
  rw [lg_entry_eq]
  generalize (lg_sl ([.ref x, .int a, .int b]) ++ List.replicate (5 - (lg_sl ([.ref x, .int a, .int b])).length) Slot.unset).toArray = ls at hl ⊢
  have hl : lv_has ls 5 [(0, .ref x), (1, .int a), (2, .int b)] := hl
  refine lv_aload_n hx hb dX7_erase_0 rfl (lv_at hl 0 rfl) ?_
  refine lv_iload_n hx hb dX7_erase_1 rfl (lv_at hl 1 rfl) ?_
  refine lv_iload_n hx hb dX7_erase_2 rfl (lv_at hl 2 rfl) ?_
  refine vx_calli (vx_runV (As := [.int a, .int b]) (rest := []) ⟨hx, hb, hml, hown, hts⟩ (c_X7_requireProgram l hst dC dI s.heap.size x ax kx a b) (cwV 2 hts (goodIn_app (goodIn_of _ (by decide +kernel)) (goodIn_sub ((fun w h => List.mem_cons_of_mem _ (List.mem_append_right _ (h)))) zgX7_requireProgram)) rfl rfl rfl (by decide +kernel) ⟨Nat.le_of_ble_eq_true rfl, Nat.le_of_ble_eq_true rfl⟩) ⟨xPc_blind, va_recv hK hP (ci := 10) (q0 := 0) rfl rfl, xPc_pass hP hK hE hS (fun q h => hA q (Nat.le_trans hS.1 h))⟩ rfl rfl hl.1 rfl (lv_room (Nat.le_of_ble_eq_true rfl)) dX7_erase_3 ⟨Nat.le_of_ble_eq_true rfl, Nat.le_of_ble_eq_true rfl⟩) hS (fun q _ h => hA q (Nat.le_trans hS.1 h)) (fun q h => hA q (Nat.le_trans hS.1 h)) (fun q _ h => hA q (Nat.le_trans hS.1 h)) (fun E ce q9 _ t H locs ht hvm hpx hBX hz hk hS hcell hv hcl => ?_) (fun r_1 u t H locs ht hvm hw hB hz hk hS => ?_)
  · have hBX : E = "java/lang/IndexOutOfBoundsException" := hBX
    subst hBX
    exact zOut (px := True) (E := "java/lang/IndexOutOfBoundsException") hnt hlocks hcell hv hcl hS trivial hS.2.2 (Nat.le_of_ble_eq_true rfl) (Nat.le_of_ble_eq_true rfl)
  have hP := zkn hP hk
  exact hw.elim

def zwX7_steps : List Cond := .code yX7_steps cX7_steps 3 (some .int) :: (([.methodLink RX7 194 yX7_requireProgram, .instanceMethod yX7_requireProgram, .selects RX7 yX7_requireProgram yX7_requireProgram, .initialized RX7] : List Cond) ++ (zwX7_requireProgram))
theorem zgX7_steps : zwX7_steps.all goodWord = true := zgo rfl (zga (by decide +kernel) (zgX7_requireProgram))
set_option maxHeartbeats 4000000 in
set_option maxRecDepth 100000 in
theorem c_X7_steps (l : Launch) (hst : l.stackTraces = false) (dC : Nat → ClassId) (dI : Nat → Nat → Nat) (sz : Nat) (x : Nat) (ax : Nat → Nat) (kx : Nat → ClassId) (a : Int32) (b : Int32) : vx_Met l yX7_steps zwX7_steps ({ frames := 8, cells := 1, slots := 6, locals := 127 }) (xPc dC dI sz x ax kx [.ref x, .int a, .int b]) (va_Qi (fun (r : Int32) (_ : Unit) => False) (fun _ _ => True) (fun q : Nat => sz ≤ q)) (zX (True) "java/lang/IndexOutOfBoundsException" (fun q : Nat => sz ≤ q)) 1 6 (fun q : Nat => sz ≤ q) := by
  refine vx_ofW (cc := cX7_steps) (maxL := 3) (ret := (some .int)) (by decide) rfl ?_
  intro p e s m args below meth c s₁ B hml hnt hv
  obtain ⟨rfl, hsz, hP, hK, hE⟩ := hv
  have hx := B.exec
  have hb := B.bytes
  have hr := B.returns
  have hts := atoms_spec (ws := zwX7_steps) B.pre
  have hown : s.vm.findClass RX7 = some m.cls := findClass_of_methodNamed B.named
  have hlocks := B.notSynchronized
  subst hsz
  have hA : ∀ q : Nat, s.heap.size ≤ q → s.heap.size ≤ q := fun _ h => h
  have hS : va_S (fun q : Nat => s.heap.size ≤ q) s.heap s.heap [] := va_S.rf
  have hl := lv_entry ([.ref x, .int a, .int b]) (n := 3) (Nat.le_of_ble_eq_true rfl)
  rw [lg_entry_eq]
  generalize (lg_sl ([.ref x, .int a, .int b]) ++ List.replicate (3 - (lg_sl ([.ref x, .int a, .int b])).length) Slot.unset).toArray = ls at hl ⊢
  have hl : lv_has ls 3 [(0, .ref x), (1, .int a), (2, .int b)] := hl
  refine lv_aload_n hx hb dX7_steps_0 rfl (lv_at hl 0 rfl) ?_
  refine lv_iload_n hx hb dX7_steps_1 rfl (lv_at hl 1 rfl) ?_
  refine lv_iload_n hx hb dX7_steps_2 rfl (lv_at hl 2 rfl) ?_
  refine vx_calli (vx_runV (As := [.int a, .int b]) (rest := []) ⟨hx, hb, hml, hown, hts⟩ (c_X7_requireProgram l hst dC dI s.heap.size x ax kx a b) (cwV 2 hts (goodIn_app (goodIn_of _ (by decide +kernel)) (goodIn_sub ((fun w h => List.mem_cons_of_mem _ (List.mem_append_right _ (h)))) zgX7_requireProgram)) rfl rfl rfl (by decide +kernel) ⟨Nat.le_of_ble_eq_true rfl, Nat.le_of_ble_eq_true rfl⟩) ⟨xPc_blind, va_recv hK hP (ci := 10) (q0 := 0) rfl rfl, xPc_pass hP hK hE hS (fun q h => hA q (Nat.le_trans hS.1 h))⟩ rfl rfl hl.1 rfl (lv_room (Nat.le_of_ble_eq_true rfl)) dX7_steps_3 ⟨Nat.le_of_ble_eq_true rfl, Nat.le_of_ble_eq_true rfl⟩) hS (fun q _ h => hA q (Nat.le_trans hS.1 h)) (fun q h => hA q (Nat.le_trans hS.1 h)) (fun q _ h => hA q (Nat.le_trans hS.1 h)) (fun E ce q9 _ t H locs ht hvm hpx hBX hz hk hS hcell hv hcl => ?_) (fun r_1 u t H locs ht hvm hw hB hz hk hS => ?_)
  · have hBX : E = "java/lang/IndexOutOfBoundsException" := hBX
    subst hBX
    exact zOut (px := True) (E := "java/lang/IndexOutOfBoundsException") hnt hlocks hcell hv hcl hS trivial hS.2.2 (Nat.le_of_ble_eq_true rfl) (Nat.le_of_ble_eq_true rfl)
  have hP := zkn hP hk
  exact hw.elim

def zwX7_welds : List Cond := .code yX7_welds cX7_welds 6 (some .int) :: (([.methodLink RX7 194 yX7_requireProgram, .instanceMethod yX7_requireProgram, .selects RX7 yX7_requireProgram yX7_requireProgram, .initialized RX7] : List Cond) ++ (zwX7_requireProgram))
theorem zgX7_welds : zwX7_welds.all goodWord = true := zgo rfl (zga (by decide +kernel) (zgX7_requireProgram))
set_option maxHeartbeats 4000000 in
set_option maxRecDepth 100000 in
theorem c_X7_welds (l : Launch) (hst : l.stackTraces = false) (dC : Nat → ClassId) (dI : Nat → Nat → Nat) (sz : Nat) (x : Nat) (ax : Nat → Nat) (kx : Nat → ClassId) (a : Int32) (b : Int32) : vx_Met l yX7_welds zwX7_welds ({ frames := 8, cells := 1, slots := 6, locals := 127 }) (xPc dC dI sz x ax kx [.ref x, .int a, .int b]) (va_Qi (fun (r : Int32) (_ : Unit) => False) (fun _ _ => True) (fun q : Nat => sz ≤ q)) (zX (True) "java/lang/IndexOutOfBoundsException" (fun q : Nat => sz ≤ q)) 1 6 (fun q : Nat => sz ≤ q) := by
  refine vx_ofW (cc := cX7_welds) (maxL := 6) (ret := (some .int)) (by decide) rfl ?_
  intro p e s m args below meth c s₁ B hml hnt hv
  obtain ⟨rfl, hsz, hP, hK, hE⟩ := hv
  have hx := B.exec
  have hb := B.bytes
  have hr := B.returns
  have hts := atoms_spec (ws := zwX7_welds) B.pre
  have hown : s.vm.findClass RX7 = some m.cls := findClass_of_methodNamed B.named
  have hlocks := B.notSynchronized
  subst hsz
  have hA : ∀ q : Nat, s.heap.size ≤ q → s.heap.size ≤ q := fun _ h => h
  have hS : va_S (fun q : Nat => s.heap.size ≤ q) s.heap s.heap [] := va_S.rf
  have hl := lv_entry ([.ref x, .int a, .int b]) (n := 6) (Nat.le_of_ble_eq_true rfl)
  rw [lg_entry_eq]
  generalize (lg_sl ([.ref x, .int a, .int b]) ++ List.replicate (6 - (lg_sl ([.ref x, .int a, .int b])).length) Slot.unset).toArray = ls at hl ⊢
  have hl : lv_has ls 6 [(0, .ref x), (1, .int a), (2, .int b)] := hl
  refine lv_aload_n hx hb dX7_welds_0 rfl (lv_at hl 0 rfl) ?_
  refine lv_iload_n hx hb dX7_welds_1 rfl (lv_at hl 1 rfl) ?_
  refine lv_iload_n hx hb dX7_welds_2 rfl (lv_at hl 2 rfl) ?_
  refine vx_calli (vx_runV (As := [.int a, .int b]) (rest := []) ⟨hx, hb, hml, hown, hts⟩ (c_X7_requireProgram l hst dC dI s.heap.size x ax kx a b) (cwV 2 hts (goodIn_app (goodIn_of _ (by decide +kernel)) (goodIn_sub ((fun w h => List.mem_cons_of_mem _ (List.mem_append_right _ (h)))) zgX7_requireProgram)) rfl rfl rfl (by decide +kernel) ⟨Nat.le_of_ble_eq_true rfl, Nat.le_of_ble_eq_true rfl⟩) ⟨xPc_blind, va_recv hK hP (ci := 10) (q0 := 0) rfl rfl, xPc_pass hP hK hE hS (fun q h => hA q (Nat.le_trans hS.1 h))⟩ rfl rfl hl.1 rfl (lv_room (Nat.le_of_ble_eq_true rfl)) dX7_welds_3 ⟨Nat.le_of_ble_eq_true rfl, Nat.le_of_ble_eq_true rfl⟩) hS (fun q _ h => hA q (Nat.le_trans hS.1 h)) (fun q h => hA q (Nat.le_trans hS.1 h)) (fun q _ h => hA q (Nat.le_trans hS.1 h)) (fun E ce q9 _ t H locs ht hvm hpx hBX hz hk hS hcell hv hcl => ?_) (fun r_1 u t H locs ht hvm hw hB hz hk hS => ?_)
  · have hBX : E = "java/lang/IndexOutOfBoundsException" := hBX
    subst hBX
    exact zOut (px := True) (E := "java/lang/IndexOutOfBoundsException") hnt hlocks hcell hv hcl hS trivial hS.2.2 (Nat.le_of_ble_eq_true rfl) (Nat.le_of_ble_eq_true rfl)
  have hP := zkn hP hk
  exact hw.elim

def zwX7_proof : List Cond := .code yX7_proof cX7_proof 3 (some .char) :: (([.methodLink RX7 224 yX7_explore, .instanceMethod yX7_explore, .selects RX7 yX7_explore yX7_explore, .initialized RX7] : List Cond) ++ (zwX7_explore))
theorem zgX7_proof : zwX7_proof.all goodWord = true := zgo rfl (zga (by decide +kernel) (zgX7_explore))
set_option maxHeartbeats 4000000 in
set_option maxRecDepth 100000 in
theorem c_X7_proof (l : Launch) (hst : l.stackTraces = false) (dC : Nat → ClassId) (dI : Nat → Nat → Nat) (sz : Nat) (x : Nat) (ax : Nat → Nat) (kx : Nat → ClassId) (a : Int32) (b : Int32) : vx_Met l yX7_proof zwX7_proof ({ frames := 8, cells := 1, slots := 6, locals := 127 }) (xPc dC dI sz x ax kx [.ref x, .int a, .int b]) (va_Qi (fun (r : Int32) (_ : Unit) => False) (fun _ _ => True) (fun q : Nat => sz ≤ q)) (zX (True) "java/lang/IndexOutOfBoundsException" (fun q : Nat => sz ≤ q)) 1 6 (fun q : Nat => sz ≤ q) := by
  refine vx_ofW (cc := cX7_proof) (maxL := 3) (ret := (some .char)) (by decide) rfl ?_
  intro p e s m args below meth c s₁ B hml hnt hv
  obtain ⟨rfl, hsz, hP, hK, hE⟩ := hv
  have hx := B.exec
  have hb := B.bytes
  have hr := B.returns
  have hts := atoms_spec (ws := zwX7_proof) B.pre
  have hown : s.vm.findClass RX7 = some m.cls := findClass_of_methodNamed B.named
  have hlocks := B.notSynchronized
  subst hsz
  have hA : ∀ q : Nat, s.heap.size ≤ q → s.heap.size ≤ q := fun _ h => h
  have hS : va_S (fun q : Nat => s.heap.size ≤ q) s.heap s.heap [] := va_S.rf
  have hl := lv_entry ([.ref x, .int a, .int b]) (n := 3) (Nat.le_of_ble_eq_true rfl)
  rw [lg_entry_eq]
  generalize (lg_sl ([.ref x, .int a, .int b]) ++ List.replicate (3 - (lg_sl ([.ref x, .int a, .int b])).length) Slot.unset).toArray = ls at hl ⊢
  have hl : lv_has ls 3 [(0, .ref x), (1, .int a), (2, .int b)] := hl
  refine lv_aload_n hx hb dX7_proof_0 rfl (lv_at hl 0 rfl) ?_
  refine lv_iload_n hx hb dX7_proof_1 rfl (lv_at hl 1 rfl) ?_
  refine lv_iload_n hx hb dX7_proof_2 rfl (lv_at hl 2 rfl) ?_
  refine vx_calli (vx_runV (As := [.int a, .int b]) (rest := []) ⟨hx, hb, hml, hown, hts⟩ (c_X7_explore l hst dC dI s.heap.size x ax kx a b) (cwV 2 hts (goodIn_app (goodIn_of _ (by decide +kernel)) (goodIn_sub ((fun w h => List.mem_cons_of_mem _ (List.mem_append_right _ (h)))) zgX7_explore)) rfl rfl rfl (by decide +kernel) ⟨Nat.le_of_ble_eq_true rfl, Nat.le_of_ble_eq_true rfl⟩) ⟨xPc_blind, va_recv hK hP (ci := 10) (q0 := 0) rfl rfl, xPc_pass hP hK hE hS (fun q h => hA q (Nat.le_trans hS.1 h))⟩ rfl rfl hl.1 rfl (lv_room (Nat.le_of_ble_eq_true rfl)) dX7_proof_3 ⟨Nat.le_of_ble_eq_true rfl, Nat.le_of_ble_eq_true rfl⟩) hS (fun q _ h => hA q (Nat.le_trans hS.1 h)) (fun q h => hA q (Nat.le_trans hS.1 h)) (fun q _ h => hA q (Nat.le_trans hS.1 h)) (fun E ce q9 _ t H locs ht hvm hpx hBX hz hk hS hcell hv hcl => ?_) (fun r_1 u t H locs ht hvm hw hB hz hk hS => ?_)
  · have hBX : E = "java/lang/IndexOutOfBoundsException" := hBX
    subst hBX
    exact zOut (px := True) (E := "java/lang/IndexOutOfBoundsException") hnt hlocks hcell hv hcl hS trivial hS.2.2 (Nat.le_of_ble_eq_true rfl) (Nat.le_of_ble_eq_true rfl)
  have hP := zkn hP hk
  exact hw.elim

def zwX7_states : List Cond := .code yX7_states cX7_states 3 (some .int) :: (([.methodLink RX7 224 yX7_explore, .instanceMethod yX7_explore, .selects RX7 yX7_explore yX7_explore, .initialized RX7] : List Cond) ++ (zwX7_explore))
theorem zgX7_states : zwX7_states.all goodWord = true := zgo rfl (zga (by decide +kernel) (zgX7_explore))
set_option maxHeartbeats 4000000 in
set_option maxRecDepth 100000 in
theorem c_X7_states (l : Launch) (hst : l.stackTraces = false) (dC : Nat → ClassId) (dI : Nat → Nat → Nat) (sz : Nat) (x : Nat) (ax : Nat → Nat) (kx : Nat → ClassId) (a : Int32) (b : Int32) : vx_Met l yX7_states zwX7_states ({ frames := 8, cells := 1, slots := 6, locals := 127 }) (xPc dC dI sz x ax kx [.ref x, .int a, .int b]) (va_Qi (fun (r : Int32) (_ : Unit) => False) (fun _ _ => True) (fun q : Nat => sz ≤ q)) (zX (True) "java/lang/IndexOutOfBoundsException" (fun q : Nat => sz ≤ q)) 1 6 (fun q : Nat => sz ≤ q) := by
  refine vx_ofW (cc := cX7_states) (maxL := 3) (ret := (some .int)) (by decide) rfl ?_
  intro p e s m args below meth c s₁ B hml hnt hv
  obtain ⟨rfl, hsz, hP, hK, hE⟩ := hv
  have hx := B.exec
  have hb := B.bytes
  have hr := B.returns
  have hts := atoms_spec (ws := zwX7_states) B.pre
  have hown : s.vm.findClass RX7 = some m.cls := findClass_of_methodNamed B.named
  have hlocks := B.notSynchronized
  subst hsz
  have hA : ∀ q : Nat, s.heap.size ≤ q → s.heap.size ≤ q := fun _ h => h
  have hS : va_S (fun q : Nat => s.heap.size ≤ q) s.heap s.heap [] := va_S.rf
  have hl := lv_entry ([.ref x, .int a, .int b]) (n := 3) (Nat.le_of_ble_eq_true rfl)
  rw [lg_entry_eq]
  generalize (lg_sl ([.ref x, .int a, .int b]) ++ List.replicate (3 - (lg_sl ([.ref x, .int a, .int b])).length) Slot.unset).toArray = ls at hl ⊢
  have hl : lv_has ls 3 [(0, .ref x), (1, .int a), (2, .int b)] := hl
  refine lv_aload_n hx hb dX7_states_0 rfl (lv_at hl 0 rfl) ?_
  refine lv_iload_n hx hb dX7_states_1 rfl (lv_at hl 1 rfl) ?_
  refine lv_iload_n hx hb dX7_states_2 rfl (lv_at hl 2 rfl) ?_
  refine vx_calli (vx_runV (As := [.int a, .int b]) (rest := []) ⟨hx, hb, hml, hown, hts⟩ (c_X7_explore l hst dC dI s.heap.size x ax kx a b) (cwV 2 hts (goodIn_app (goodIn_of _ (by decide +kernel)) (goodIn_sub ((fun w h => List.mem_cons_of_mem _ (List.mem_append_right _ (h)))) zgX7_explore)) rfl rfl rfl (by decide +kernel) ⟨Nat.le_of_ble_eq_true rfl, Nat.le_of_ble_eq_true rfl⟩) ⟨xPc_blind, va_recv hK hP (ci := 10) (q0 := 0) rfl rfl, xPc_pass hP hK hE hS (fun q h => hA q (Nat.le_trans hS.1 h))⟩ rfl rfl hl.1 rfl (lv_room (Nat.le_of_ble_eq_true rfl)) dX7_states_3 ⟨Nat.le_of_ble_eq_true rfl, Nat.le_of_ble_eq_true rfl⟩) hS (fun q _ h => hA q (Nat.le_trans hS.1 h)) (fun q h => hA q (Nat.le_trans hS.1 h)) (fun q _ h => hA q (Nat.le_trans hS.1 h)) (fun E ce q9 _ t H locs ht hvm hpx hBX hz hk hS hcell hv hcl => ?_) (fun r_1 u t H locs ht hvm hw hB hz hk hS => ?_)
  · have hBX : E = "java/lang/IndexOutOfBoundsException" := hBX
    subst hBX
    exact zOut (px := True) (E := "java/lang/IndexOutOfBoundsException") hnt hlocks hcell hv hcl hS trivial hS.2.2 (Nat.le_of_ble_eq_true rfl) (Nat.le_of_ble_eq_true rfl)
  have hP := zkn hP hk
  exact hw.elim

def zwX7_uncovered : List Cond := .code yX7_uncovered cX7_uncovered 7 (some .int) :: (([.methodLink RX7 89 yX7_requireVariant, .static yX7_requireVariant, .initialized RX7, .fieldLink RX7 15 "Spotbeat" "spotRow" "[LSpotbeat$Spot;", .methodLink RX7 239 yX7_isUncovered, .instanceMethod yX7_isUncovered, .selects RX7 yX7_isUncovered yX7_isUncovered] : List Cond) ++ (zwX7_requireVariant ++ (wsX70 ++ (zwX7_isUncovered))))
theorem zgX7_uncovered : zwX7_uncovered.all goodWord = true := zgo rfl (zga (by decide +kernel) (zga zgX7_requireVariant (zga zgcX7 (zgX7_isUncovered))))
set_option maxHeartbeats 4000000 in
set_option maxRecDepth 100000 in
theorem c_X7_uncovered (l : Launch) (hst : l.stackTraces = false) (dC : Nat → ClassId) (dI : Nat → Nat → Nat) (sz : Nat) (x : Nat) (ax : Nat → Nat) (kx : Nat → ClassId) (v : Int32) : vx_Met l yX7_uncovered zwX7_uncovered ({ frames := 7, cells := 1, slots := 6, locals := 102 }) (xPc dC dI sz x ax kx [.ref x, .int v]) (va_Qi (fun (r : Int32) (_ : Unit) => r = 0 ∧ ¬ (v < 0 ∨ 4 ≤ v)) (fun _ _ => True) (fun q : Nat => sz ≤ q)) (zX (v < 0 ∨ 4 ≤ v) "java/lang/IndexOutOfBoundsException" (fun q : Nat => sz ≤ q)) 1 6 (fun q : Nat => sz ≤ q) := by
  refine vx_ofW (cc := cX7_uncovered) (maxL := 7) (ret := (some .int)) (by decide) rfl ?_
  intro p e s m args below meth c s₁ B hml hnt hv
  obtain ⟨rfl, hsz, hP, hK, hE⟩ := hv
  have hx := B.exec
  have hb := B.bytes
  have hr := B.returns
  have hts := atoms_spec (ws := zwX7_uncovered) B.pre
  have hown : s.vm.findClass RX7 = some m.cls := findClass_of_methodNamed B.named
  have hlocks := B.notSynchronized
  subst hsz
  have hA : ∀ q : Nat, s.heap.size ≤ q → s.heap.size ≤ q := fun _ h => h
  have hS : va_S (fun q : Nat => s.heap.size ≤ q) s.heap s.heap [] := va_S.rf
  have hl := lv_entry ([.ref x, .int v]) (n := 7) (Nat.le_of_ble_eq_true rfl)
  rw [lg_entry_eq]
  generalize (lg_sl ([.ref x, .int v]) ++ List.replicate (7 - (lg_sl ([.ref x, .int v])).length) Slot.unset).toArray = ls at hl ⊢
  have hl : lv_has ls 7 [(0, .ref x), (1, .int v)] := hl
  refine lv_iload_n hx hb dX7_uncovered_0 rfl (lv_at hl 1 rfl) ?_
  refine vx_callv (vx_runS (As := [.int v]) (rest := []) ⟨hx, hb, hml, hown, hts⟩ (c_X7_requireVariant l hst dC dI s.heap.size v) (va_cwS 1 hts (goodIn_app (goodIn_of _ (by decide +kernel)) (goodIn_sub ((fun w h => List.mem_cons_of_mem _ (List.mem_append_right _ (List.mem_append_left _ h)))) zgX7_requireVariant)) rfl rfl rfl (by decide +kernel) ⟨Nat.le_of_ble_eq_true rfl, Nat.le_of_ble_eq_true rfl⟩) ⟨ePc_blind, ePc_pass hE hS (fun q h => hA q (Nat.le_trans hS.1 h))⟩ rfl rfl hl.1 rfl (lv_room (Nat.le_of_ble_eq_true rfl)) dX7_uncovered_1 ⟨Nat.le_of_ble_eq_true rfl, Nat.le_of_ble_eq_true rfl⟩) hS (fun q _ h => hA q (Nat.le_trans hS.1 h)) (fun q h => hA q (Nat.le_trans hS.1 h)) (fun q _ h => hA q (Nat.le_trans hS.1 h)) (fun E ce q9 _ t H locs ht hvm hpx hBX hz hk hS hcell hv hcl => ?_) (fun u t H locs ht hvm hw hB hz hk hS => ?_)
  · have hBX : E = "java/lang/IndexOutOfBoundsException" := hBX
    subst hBX
    exact zOut (px := v < 0 ∨ 4 ≤ v) (E := "java/lang/IndexOutOfBoundsException") hnt hlocks hcell hv hcl hS hpx hS.2.2 (Nat.le_of_ble_eq_true rfl) (Nat.le_of_ble_eq_true rfl)
  have hP := zkn hP hk
  have w_2 : ¬ (v < 0 ∨ 4 ≤ v) := hw
  refine lv_iconst (v := 0) hx hb dX7_uncovered_4 (by decide) ?_
  refine lv_istore_n (lv' := [(2, .int 0), (0, .ref x), (1, .int v)]) hx hb dX7_uncovered_5 rfl hl (by decide) rfl (fun ls hl => ?_)
  refine lv_aload_n hx hb dX7_uncovered_6 rfl (lv_at hl 1 rfl) ?_
  refine va_get (D := (dC, dI)) (ci := 10) (v := .ref (ax 1)) (C := RX7) (T := TX7) (N := 12) hx hb hts (fun w h => List.mem_cons_of_mem _ (List.mem_append_right _ (List.mem_append_right _ (List.mem_append_left _ h)))) hown hK hP 0 rfl rfl 1 (by decide) (hts (.fieldLink RX7 15 "Spotbeat" "spotRow" "[LSpotbeat$Spot;") (by decide +kernel)) (fun _ h9 => h9) rfl dX7_uncovered_7 ?_
  refine lv_astore_n (lv' := [(3, .ref (ax 1)), (2, .int 0), (0, .ref x), (1, .int v)]) hx hb dX7_uncovered_10 rfl hl (by decide) rfl (fun ls hl => ?_)
  refine lv_aload_n hx hb dX7_uncovered_11 rfl (lv_at hl 0 rfl) ?_
  refine va_alen (v := 24) hx hb hK hP 2 1 rfl rfl rfl dX7_uncovered_12 ?_
  refine lv_istore (lv' := [(4, .int 24), (3, .ref (ax 1)), (2, .int 0), (0, .ref x), (1, .int v)]) hx hb dX7_uncovered_13 hl (by decide) rfl (fun ls hl => ?_)
  refine lv_iconst (v := 0) hx hb dX7_uncovered_15 (by decide) ?_
  refine lv_istore (lv' := [(5, .int 0), (4, .int 24), (3, .ref (ax 1)), (2, .int 0), (0, .ref x), (1, .int v)]) hx hb dX7_uncovered_16 hl (by decide) rfl (fun ls hl => ?_)
  refine zloop (N := 24) (fun i H locs ls => va_P (dC, dI) vwCl (xW x ax kx) H ∧ va_S (fun q : Nat => s.heap.size ≤ q) s.heap H locs ∧ lv_has ls 7 [(5, .int (nI i)), (4, .int 24), (3, .ref (ax 1)), (2, .int 0), (0, .ref x), (1, .int v)]) (fun i H locs ls hiN hI next0 => ?_) 0 _ _ _ (Nat.zero_le _) ⟨hP, hS, hl⟩
  obtain ⟨hP, hS, hl⟩ := hI
  refine lv_iload hx hb dX7_uncovered_18 (lv_at hl 0 rfl) ?_
  refine lv_iload hx hb dX7_uncovered_20 (lv_at hl 1 rfl) ?_
  refine lv_icmp_ge (tgt := 50) hx hb dX7_uncovered_22 (by decide) (fun c_3 => ?_) (fun c_3 => ?_)
  · refine lv_iload_n hx hb dX7_uncovered_50 rfl (lv_at hl 3 rfl) ?_
    refine W.widen (k := 1) (n := 6) (Nat.le_of_ble_eq_true rfl) (Nat.le_of_ble_eq_true rfl) ?_
    exact vx_ret (W.iret (v := 0) hx hb hr (fun t ht hW => ⟨⟨0, (), rfl, ⟨rfl, w_2⟩, trivial⟩, hS.F ht⟩) hS.2.2 dX7_uncovered_51)
  · have hlt0 : i < 24 := by
      rcases Nat.lt_or_ge i 24 with q | q
      · exact q
      · exact absurd (nI_le q (by omega)) c_3
    have next0 := next0 hlt0
    refine lv_aload_n hx hb dX7_uncovered_25 rfl (lv_at hl 2 rfl) ?_
    refine lv_iload hx hb dX7_uncovered_26 (lv_at hl 0 rfl) ?_
    refine va_aldq hx hb hK hP 2 1 rfl rfl (vp_in_nI hlt0 (by decide)) dX7_uncovered_28 ?_
    refine W.eq (g2 := F0 m 29 ls [.null]) rfl ?_
    refine lv_astoreN (lv' := [(6, .null), (5, .int (nI i)), (4, .int 24), (3, .ref (ax 1)), (2, .int 0), (0, .ref x), (1, .int v)]) hx hb dX7_uncovered_29 hl (by decide) rfl (fun ls hl => ?_)
    refine lv_aload_n hx hb dX7_uncovered_31 rfl (lv_at hl 5 rfl) ?_
    refine lv_aloadN hx hb dX7_uncovered_32 (lv_at hl 0 rfl) ?_
    refine lv_iload_n hx hb dX7_uncovered_34 rfl (lv_at hl 6 rfl) ?_
    refine va_calli (va_runV (As := [.null, .int v]) (rest := []) ⟨hx, hb, hml, hown, hts⟩ (c_X7_isUncovered l dC dI H.size x ax kx v) (cwV 2 hts (goodIn_app (goodIn_of _ (by decide +kernel)) (goodIn_sub ((fun w h => List.mem_cons_of_mem _ (List.mem_append_right _ (List.mem_append_right _ (List.mem_append_right _ (h)))))) zgX7_isUncovered)) rfl rfl rfl (by decide +kernel) ⟨Nat.le_of_ble_eq_true rfl, Nat.le_of_ble_eq_true rfl⟩) ⟨xPc_blind, va_recv hK hP (ci := 10) (q0 := 0) rfl rfl, xPc_pass hP hK hE hS (fun q h => hA q (Nat.le_trans hS.1 h))⟩ rfl rfl hl.1 rfl (lv_room (Nat.le_of_ble_eq_true rfl)) dX7_uncovered_35 ⟨Nat.le_of_ble_eq_true rfl, Nat.le_of_ble_eq_true rfl⟩) hS (fun q _ h => hA q (Nat.le_trans hS.1 h)) (fun q h => hA q (Nat.le_trans hS.1 h)) (fun r_4 u t H locs ht hvm hw hB hz hk hS => ?_)
    have hP := zkn hP hk
    have hw : r_4 = 0 := hw
    subst hw
    refine lv_if_eq (tgt := 44) hx hb dX7_uncovered_38 (by decide) (fun _ => ?_) (fun c_5 => absurd c_5 (by decide))
    refine lv_iinc (v := nI (i + 1)) (lv' := [(5, .int (nI (i + 1))), (6, .null), (4, .int 24), (3, .ref (ax 1)), (2, .int 0), (0, .ref x), (1, .int v)]) hx hb dX7_uncovered_44 hl (k := 1) rfl ((rfl : nI i + Int32.ofInt 1 = nI i + 1).trans (nI_1 i)) (by decide) rfl (fun ls hl => ?_)
    refine lv_goto (tgt := 18) hx hb dX7_uncovered_47 (by decide) ?_
    exact next0 _ _ _ ⟨hP, hS, lv_sub hl [0, 2, 3, 4, 5, 6] rfl⟩

def zwX7_deal : List Cond := .code yX7_deal cX7_deal 7 (some .int) :: (([.methodLink RX7 89 yX7_requireVariant, .static yX7_requireVariant, .initialized RX7, .fieldLink RX7 15 "Spotbeat" "spotRow" "[LSpotbeat$Spot;", .methodLink RX7 239 yX7_isUncovered, .instanceMethod yX7_isUncovered, .selects RX7 yX7_isUncovered yX7_isUncovered] : List Cond) ++ (zwX7_requireVariant ++ (wsX70 ++ (zwX7_isUncovered))))
theorem zgX7_deal : zwX7_deal.all goodWord = true := zgo rfl (zga (by decide +kernel) (zga zgX7_requireVariant (zga zgcX7 (zgX7_isUncovered))))
set_option maxHeartbeats 4000000 in
set_option maxRecDepth 100000 in
theorem c_X7_deal (l : Launch) (hst : l.stackTraces = false) (dC : Nat → ClassId) (dI : Nat → Nat → Nat) (sz : Nat) (x : Nat) (ax : Nat → Nat) (kx : Nat → ClassId) (v : Int32) : vx_Met l yX7_deal zwX7_deal ({ frames := 7, cells := 1, slots := 6, locals := 102 }) (xPc dC dI sz x ax kx [.ref x, .int v]) (va_Qi (fun (r : Int32) (_ : Unit) => r = 0 ∧ ¬ (v < 0 ∨ 4 ≤ v)) (fun _ _ => True) (fun q : Nat => sz ≤ q)) (zX (v < 0 ∨ 4 ≤ v) "java/lang/IndexOutOfBoundsException" (fun q : Nat => sz ≤ q)) 1 6 (fun q : Nat => sz ≤ q) := by
  refine vx_ofW (cc := cX7_deal) (maxL := 7) (ret := (some .int)) (by decide) rfl ?_
  intro p e s m args below meth c s₁ B hml hnt hv
  obtain ⟨rfl, hsz, hP, hK, hE⟩ := hv
  have hx := B.exec
  have hb := B.bytes
  have hr := B.returns
  have hts := atoms_spec (ws := zwX7_deal) B.pre
  have hown : s.vm.findClass RX7 = some m.cls := findClass_of_methodNamed B.named
  have hlocks := B.notSynchronized
  subst hsz
  have hA : ∀ q : Nat, s.heap.size ≤ q → s.heap.size ≤ q := fun _ h => h
  have hS : va_S (fun q : Nat => s.heap.size ≤ q) s.heap s.heap [] := va_S.rf
  have hl := lv_entry ([.ref x, .int v]) (n := 7) (Nat.le_of_ble_eq_true rfl)
  rw [lg_entry_eq]
  generalize (lg_sl ([.ref x, .int v]) ++ List.replicate (7 - (lg_sl ([.ref x, .int v])).length) Slot.unset).toArray = ls at hl ⊢
  have hl : lv_has ls 7 [(0, .ref x), (1, .int v)] := hl
  refine lv_iload_n hx hb dX7_deal_0 rfl (lv_at hl 1 rfl) ?_
  refine vx_callv (vx_runS (As := [.int v]) (rest := []) ⟨hx, hb, hml, hown, hts⟩ (c_X7_requireVariant l hst dC dI s.heap.size v) (va_cwS 1 hts (goodIn_app (goodIn_of _ (by decide +kernel)) (goodIn_sub ((fun w h => List.mem_cons_of_mem _ (List.mem_append_right _ (List.mem_append_left _ h)))) zgX7_requireVariant)) rfl rfl rfl (by decide +kernel) ⟨Nat.le_of_ble_eq_true rfl, Nat.le_of_ble_eq_true rfl⟩) ⟨ePc_blind, ePc_pass hE hS (fun q h => hA q (Nat.le_trans hS.1 h))⟩ rfl rfl hl.1 rfl (lv_room (Nat.le_of_ble_eq_true rfl)) dX7_deal_1 ⟨Nat.le_of_ble_eq_true rfl, Nat.le_of_ble_eq_true rfl⟩) hS (fun q _ h => hA q (Nat.le_trans hS.1 h)) (fun q h => hA q (Nat.le_trans hS.1 h)) (fun q _ h => hA q (Nat.le_trans hS.1 h)) (fun E ce q9 _ t H locs ht hvm hpx hBX hz hk hS hcell hv hcl => ?_) (fun u t H locs ht hvm hw hB hz hk hS => ?_)
  · have hBX : E = "java/lang/IndexOutOfBoundsException" := hBX
    subst hBX
    exact zOut (px := v < 0 ∨ 4 ≤ v) (E := "java/lang/IndexOutOfBoundsException") hnt hlocks hcell hv hcl hS hpx hS.2.2 (Nat.le_of_ble_eq_true rfl) (Nat.le_of_ble_eq_true rfl)
  have hP := zkn hP hk
  have w_2 : ¬ (v < 0 ∨ 4 ≤ v) := hw
  refine lv_iconst (v := 0) hx hb dX7_deal_4 (by decide) ?_
  refine lv_istore_n (lv' := [(2, .int 0), (0, .ref x), (1, .int v)]) hx hb dX7_deal_5 rfl hl (by decide) rfl (fun ls hl => ?_)
  refine lv_aload_n hx hb dX7_deal_6 rfl (lv_at hl 1 rfl) ?_
  refine va_get (D := (dC, dI)) (ci := 10) (v := .ref (ax 1)) (C := RX7) (T := TX7) (N := 12) hx hb hts (fun w h => List.mem_cons_of_mem _ (List.mem_append_right _ (List.mem_append_right _ (List.mem_append_left _ h)))) hown hK hP 0 rfl rfl 1 (by decide) (hts (.fieldLink RX7 15 "Spotbeat" "spotRow" "[LSpotbeat$Spot;") (by decide +kernel)) (fun _ h9 => h9) rfl dX7_deal_7 ?_
  refine lv_astore_n (lv' := [(3, .ref (ax 1)), (2, .int 0), (0, .ref x), (1, .int v)]) hx hb dX7_deal_10 rfl hl (by decide) rfl (fun ls hl => ?_)
  refine lv_aload_n hx hb dX7_deal_11 rfl (lv_at hl 0 rfl) ?_
  refine va_alen (v := 24) hx hb hK hP 2 1 rfl rfl rfl dX7_deal_12 ?_
  refine lv_istore (lv' := [(4, .int 24), (3, .ref (ax 1)), (2, .int 0), (0, .ref x), (1, .int v)]) hx hb dX7_deal_13 hl (by decide) rfl (fun ls hl => ?_)
  refine lv_iconst (v := 0) hx hb dX7_deal_15 (by decide) ?_
  refine lv_istore (lv' := [(5, .int 0), (4, .int 24), (3, .ref (ax 1)), (2, .int 0), (0, .ref x), (1, .int v)]) hx hb dX7_deal_16 hl (by decide) rfl (fun ls hl => ?_)
  refine zloop (N := 24) (fun i H locs ls => va_P (dC, dI) vwCl (xW x ax kx) H ∧ va_S (fun q : Nat => s.heap.size ≤ q) s.heap H locs ∧ lv_has ls 7 [(5, .int (nI i)), (4, .int 24), (3, .ref (ax 1)), (2, .int 0), (0, .ref x), (1, .int v)]) (fun i H locs ls hiN hI next0 => ?_) 0 _ _ _ (Nat.zero_le _) ⟨hP, hS, hl⟩
  obtain ⟨hP, hS, hl⟩ := hI
  refine lv_iload hx hb dX7_deal_18 (lv_at hl 0 rfl) ?_
  refine lv_iload hx hb dX7_deal_20 (lv_at hl 1 rfl) ?_
  refine lv_icmp_ge (tgt := 60) hx hb dX7_deal_22 (by decide) (fun c_3 => ?_) (fun c_3 => ?_)
  · refine lv_iload_n hx hb dX7_deal_60 rfl (lv_at hl 3 rfl) ?_
    refine W.widen (k := 1) (n := 6) (Nat.le_of_ble_eq_true rfl) (Nat.le_of_ble_eq_true rfl) ?_
    exact vx_ret (W.iret (v := 0) hx hb hr (fun t ht hW => ⟨⟨0, (), rfl, ⟨rfl, w_2⟩, trivial⟩, hS.F ht⟩) hS.2.2 dX7_deal_61)
  · have hlt0 : i < 24 := by
      rcases Nat.lt_or_ge i 24 with q | q
      · exact q
      · exact absurd (nI_le q (by omega)) c_3
    have next0 := next0 hlt0
    refine lv_aload_n hx hb dX7_deal_25 rfl (lv_at hl 2 rfl) ?_
    refine lv_iload hx hb dX7_deal_26 (lv_at hl 0 rfl) ?_
    refine va_aldq hx hb hK hP 2 1 rfl rfl (vp_in_nI hlt0 (by decide)) dX7_deal_28 ?_
    refine W.eq (g2 := F0 m 29 ls [.null]) rfl ?_
    refine lv_astoreN (lv' := [(6, .null), (5, .int (nI i)), (4, .int 24), (3, .ref (ax 1)), (2, .int 0), (0, .ref x), (1, .int v)]) hx hb dX7_deal_29 hl (by decide) rfl (fun ls hl => ?_)
    refine lv_aload_n hx hb dX7_deal_31 rfl (lv_at hl 5 rfl) ?_
    refine lv_aloadN hx hb dX7_deal_32 (lv_at hl 0 rfl) ?_
    refine lv_iload_n hx hb dX7_deal_34 rfl (lv_at hl 6 rfl) ?_
    refine va_calli (va_runV (As := [.null, .int v]) (rest := []) ⟨hx, hb, hml, hown, hts⟩ (c_X7_isUncovered l dC dI H.size x ax kx v) (cwV 2 hts (goodIn_app (goodIn_of _ (by decide +kernel)) (goodIn_sub ((fun w h => List.mem_cons_of_mem _ (List.mem_append_right _ (List.mem_append_right _ (List.mem_append_right _ (h)))))) zgX7_isUncovered)) rfl rfl rfl (by decide +kernel) ⟨Nat.le_of_ble_eq_true rfl, Nat.le_of_ble_eq_true rfl⟩) ⟨xPc_blind, va_recv hK hP (ci := 10) (q0 := 0) rfl rfl, xPc_pass hP hK hE hS (fun q h => hA q (Nat.le_trans hS.1 h))⟩ rfl rfl hl.1 rfl (lv_room (Nat.le_of_ble_eq_true rfl)) dX7_deal_35 ⟨Nat.le_of_ble_eq_true rfl, Nat.le_of_ble_eq_true rfl⟩) hS (fun q _ h => hA q (Nat.le_trans hS.1 h)) (fun q h => hA q (Nat.le_trans hS.1 h)) (fun r_4 u t H locs ht hvm hw hB hz hk hS => ?_)
    have hP := zkn hP hk
    have hw : r_4 = 0 := hw
    subst hw
    refine lv_if_eq (tgt := 54) hx hb dX7_deal_38 (by decide) (fun _ => ?_) (fun c_5 => absurd c_5 (by decide))
    refine lv_iinc (v := nI (i + 1)) (lv' := [(5, .int (nI (i + 1))), (6, .null), (4, .int 24), (3, .ref (ax 1)), (2, .int 0), (0, .ref x), (1, .int v)]) hx hb dX7_deal_54 hl (k := 1) rfl ((rfl : nI i + Int32.ofInt 1 = nI i + 1).trans (nI_1 i)) (by decide) rfl (fun ls hl => ?_)
    refine lv_goto (tgt := 18) hx hb dX7_deal_57 (by decide) ?_
    exact next0 _ _ _ ⟨hP, hS, lv_sub hl [0, 2, 3, 4, 5, 6] rfl⟩

def zwX7_beat : List Cond := .code yX7_beat cX7_beat 4 (some .int) :: (([.fieldLink RX7 107 "Spotbeat" "stationCount" "I", .classLink RX7 76 "java/lang/UnsupportedOperationException", .initialized "java/lang/UnsupportedOperationException"] : List Cond) ++ (wsX70 ++ (((vx_atS RX7 80 "java/lang/UnsupportedOperationException" zNames).filter goodWord))))
theorem zgX7_beat : zwX7_beat.all goodWord = true := zgo rfl (zga (by decide +kernel) (zga zgcX7 ((zgf _))))
set_option maxHeartbeats 4000000 in
set_option maxRecDepth 100000 in
theorem c_X7_beat (l : Launch) (hst : l.stackTraces = false) (dC : Nat → ClassId) (dI : Nat → Nat → Nat) (sz : Nat) (x : Nat) (ax : Nat → Nat) (kx : Nat → ClassId) : vx_Met l yX7_beat zwX7_beat ({ frames := 6, cells := 1, slots := 6, locals := 82 }) (xPc dC dI sz x ax kx [.ref x]) (va_Qi (fun (r : Int32) (_ : Unit) => False) (fun _ _ => True) (fun q : Nat => sz ≤ q)) (zX (True) "java/lang/UnsupportedOperationException" (fun q : Nat => sz ≤ q)) 1 6 (fun q : Nat => sz ≤ q) := by
  refine vx_ofW (cc := cX7_beat) (maxL := 4) (ret := (some .int)) (by decide) rfl ?_
  intro p e s m args below meth c s₁ B hml hnt hv
  obtain ⟨rfl, hsz, hP, hK, hE⟩ := hv
  have hx := B.exec
  have hb := B.bytes
  have hr := B.returns
  have hts := atoms_spec (ws := zwX7_beat) B.pre
  have hown : s.vm.findClass RX7 = some m.cls := findClass_of_methodNamed B.named
  have hlocks := B.notSynchronized
  subst hsz
  have hA : ∀ q : Nat, s.heap.size ≤ q → s.heap.size ≤ q := fun _ h => h
  have hS : va_S (fun q : Nat => s.heap.size ≤ q) s.heap s.heap [] := va_S.rf
  have hl := lv_entry ([.ref x]) (n := 4) (Nat.le_of_ble_eq_true rfl)
  rw [lg_entry_eq]
  generalize (lg_sl ([.ref x]) ++ List.replicate (4 - (lg_sl ([.ref x])).length) Slot.unset).toArray = ls at hl ⊢
  have hl : lv_has ls 4 [(0, .ref x)] := hl
  refine lv_aload_n hx hb dX7_beat_0 rfl (lv_at hl 0 rfl) ?_
  refine va_get (D := (dC, dI)) (ci := 10) (v := .int 0) (C := RX7) (T := TX7) (N := 12) hx hb hts (fun w h => List.mem_cons_of_mem _ (List.mem_append_right _ (List.mem_append_left _ h))) hown hK hP 0 rfl rfl 8 (by decide) (hts (.fieldLink RX7 107 "Spotbeat" "stationCount" "I") (by decide +kernel)) (fun _ h9 => h9) rfl dX7_beat_1 ?_
  refine lv_if_ne (tgt := 18) hx hb dX7_beat_4 (by decide) (fun c_1 => absurd c_1 (by decide)) (fun _ => ?_)
  exact zThrowW (Ts := zwX7_beat) (px := True) (E := "java/lang/UnsupportedOperationException") (ik := 76) (is := 289) (ic := 80) hx hb hst hown hts hE hS (hl.1.trans hml.symm) (by decide) (by decide +kernel) (text := "no stations") (by decide) (by decide +kernel) (by decide +kernel) (fun w h => List.mem_cons_of_mem _ (List.mem_append_right _ (List.mem_append_right _ (h)))) (by decide +kernel) (by decide +kernel) dX7_beat_7 dX7_beat_10 dX7_beat_11 dX7_beat_14 dX7_beat_17 hnt (Nat.le_of_ble_eq_true rfl) (Nat.le_of_ble_eq_true rfl) (Nat.le_of_ble_eq_true rfl) (Nat.le_of_ble_eq_true rfl) hlocks trivial hS.2.2 (Nat.le_of_ble_eq_true rfl) (Nat.le_of_ble_eq_true rfl)

def zwX7_beats : List Cond := .code yX7_beats cX7_beats 1 (some .int) :: (([.fieldLink RX7 112 "Spotbeat" "beatCount" "I"] : List Cond) ++ (wsX70))
theorem zgX7_beats : zwX7_beats.all goodWord = true := zgo rfl (zga (by decide +kernel) (zgcX7))
set_option maxHeartbeats 4000000 in
set_option maxRecDepth 100000 in
theorem c_X7_beats (l : Launch) (dC : Nat → ClassId) (dI : Nat → Nat → Nat) (sz : Nat) (x : Nat) (ax : Nat → Nat) (kx : Nat → ClassId) : Met l yX7_beats zwX7_beats ({ frames := 0, cells := 0, slots := 0, locals := 0 }) (xPc dC dI sz x ax kx [.ref x]) (va_Qi (fun (r : Int32) (_ : Unit) => r = 0) (fun _ _ => True) (fun q : Nat => sz ≤ q)) 0 0 (fun q : Nat => sz ≤ q) := by
  refine Met.ofW (cc := cX7_beats) (maxL := 1) (ret := (some .int)) (by decide) rfl ?_
  intro p e s m args below meth c s₁ B hml hv
  obtain ⟨rfl, hsz, hP, hK, hE⟩ := hv
  have hx := B.exec
  have hb := B.bytes
  have hr := B.returns
  have hts := atoms_spec (ws := zwX7_beats) B.pre
  have hown : s.vm.findClass RX7 = some m.cls := findClass_of_methodNamed B.named
  have hlocks := B.notSynchronized
  subst hsz
  have hA : ∀ q : Nat, s.heap.size ≤ q → s.heap.size ≤ q := fun _ h => h
  have hS : va_S (fun q : Nat => s.heap.size ≤ q) s.heap s.heap [] := va_S.rf
  have hl := lv_entry ([.ref x]) (n := 1) (Nat.le_of_ble_eq_true rfl)
  rw [lg_entry_eq]
  generalize (lg_sl ([.ref x]) ++ List.replicate (1 - (lg_sl ([.ref x])).length) Slot.unset).toArray = ls at hl ⊢
  have hl : lv_has ls 1 [(0, .ref x)] := hl
  refine lv_aload_n hx hb dX7_beats_0 rfl (lv_at hl 0 rfl) ?_
  refine va_get (D := (dC, dI)) (ci := 10) (v := .int 0) (C := RX7) (T := TX7) (N := 12) hx hb hts (fun w h => List.mem_cons_of_mem _ (List.mem_append_right _ (h))) hown hK hP 0 rfl rfl 11 (by decide) (hts (.fieldLink RX7 112 "Spotbeat" "beatCount" "I") (by decide +kernel)) (fun _ h9 => h9) rfl dX7_beats_1 ?_
  refine W.widen (k := 0) (n := 0) (Nat.le_of_ble_eq_true rfl) (Nat.le_of_ble_eq_true rfl) ?_
  exact W.iret (v := 0) hx hb hr (fun t ht hW => ⟨⟨0, (), rfl, rfl, trivial⟩, hS.F ht⟩) hS.2.2 dX7_beats_4

def zwX7_at : List Cond := .code yX7_at cX7_at 3 (some .int) :: (([.methodLink RX7 118 yX7_requireStation, .instanceMethod yX7_requireStation, .selects RX7 yX7_requireStation yX7_requireStation, .initialized RX7] : List Cond) ++ (zwX7_requireStation))
theorem zgX7_at : zwX7_at.all goodWord = true := zgo rfl (zga (by decide +kernel) (zgX7_requireStation))
set_option maxHeartbeats 4000000 in
set_option maxRecDepth 100000 in
theorem c_X7_at (l : Launch) (hst : l.stackTraces = false) (dC : Nat → ClassId) (dI : Nat → Nat → Nat) (sz : Nat) (x : Nat) (ax : Nat → Nat) (kx : Nat → ClassId) (a : Int32) : vx_Met l yX7_at zwX7_at ({ frames := 7, cells := 1, slots := 6, locals := 104 }) (xPc dC dI sz x ax kx [.ref x, .int a]) (va_Qi (fun (r : Int32) (_ : Unit) => False) (fun _ _ => True) (fun q : Nat => sz ≤ q)) (zX (True) "java/lang/IndexOutOfBoundsException" (fun q : Nat => sz ≤ q)) 1 6 (fun q : Nat => sz ≤ q) := by
  refine vx_ofW (cc := cX7_at) (maxL := 3) (ret := (some .int)) (by decide) rfl ?_
  intro p e s m args below meth c s₁ B hml hnt hv
  obtain ⟨rfl, hsz, hP, hK, hE⟩ := hv
  have hx := B.exec
  have hb := B.bytes
  have hr := B.returns
  have hts := atoms_spec (ws := zwX7_at) B.pre
  have hown : s.vm.findClass RX7 = some m.cls := findClass_of_methodNamed B.named
  have hlocks := B.notSynchronized
  subst hsz
  have hA : ∀ q : Nat, s.heap.size ≤ q → s.heap.size ≤ q := fun _ h => h
  have hS : va_S (fun q : Nat => s.heap.size ≤ q) s.heap s.heap [] := va_S.rf
  have hl := lv_entry ([.ref x, .int a]) (n := 3) (Nat.le_of_ble_eq_true rfl)
  rw [lg_entry_eq]
  generalize (lg_sl ([.ref x, .int a]) ++ List.replicate (3 - (lg_sl ([.ref x, .int a])).length) Slot.unset).toArray = ls at hl ⊢
  have hl : lv_has ls 3 [(0, .ref x), (1, .int a)] := hl
  refine lv_aload_n hx hb dX7_at_0 rfl (lv_at hl 0 rfl) ?_
  refine lv_iload_n hx hb dX7_at_1 rfl (lv_at hl 1 rfl) ?_
  refine vx_calli (vx_runV (As := [.int a]) (rest := []) ⟨hx, hb, hml, hown, hts⟩ (c_X7_requireStation l hst dC dI s.heap.size x ax kx a) (cwV 1 hts (goodIn_app (goodIn_of _ (by decide +kernel)) (goodIn_sub ((fun w h => List.mem_cons_of_mem _ (List.mem_append_right _ (h)))) zgX7_requireStation)) rfl rfl rfl (by decide +kernel) ⟨Nat.le_of_ble_eq_true rfl, Nat.le_of_ble_eq_true rfl⟩) ⟨xPc_blind, va_recv hK hP (ci := 10) (q0 := 0) rfl rfl, xPc_pass hP hK hE hS (fun q h => hA q (Nat.le_trans hS.1 h))⟩ rfl rfl hl.1 rfl (lv_room (Nat.le_of_ble_eq_true rfl)) dX7_at_2 ⟨Nat.le_of_ble_eq_true rfl, Nat.le_of_ble_eq_true rfl⟩) hS (fun q _ h => hA q (Nat.le_trans hS.1 h)) (fun q h => hA q (Nat.le_trans hS.1 h)) (fun q _ h => hA q (Nat.le_trans hS.1 h)) (fun E ce q9 _ t H locs ht hvm hpx hBX hz hk hS hcell hv hcl => ?_) (fun r_1 u t H locs ht hvm hw hB hz hk hS => ?_)
  · have hBX : E = "java/lang/IndexOutOfBoundsException" := hBX
    subst hBX
    exact zOut (px := True) (E := "java/lang/IndexOutOfBoundsException") hnt hlocks hcell hv hcl hS trivial hS.2.2 (Nat.le_of_ble_eq_true rfl) (Nat.le_of_ble_eq_true rfl)
  have hP := zkn hP hk
  exact hw.elim

def zwX7_where : List Cond := .code yX7_where cX7_where 2 (some .int) :: (([.methodLink RX7 308 yX7_requireBody, .instanceMethod yX7_requireBody, .selects RX7 yX7_requireBody yX7_requireBody, .initialized RX7] : List Cond) ++ (zwX7_requireBody))
theorem zgX7_where : zwX7_where.all goodWord = true := zgo rfl (zga (by decide +kernel) (zgX7_requireBody))
set_option maxHeartbeats 4000000 in
set_option maxRecDepth 100000 in
theorem c_X7_where (l : Launch) (hst : l.stackTraces = false) (dC : Nat → ClassId) (dI : Nat → Nat → Nat) (sz : Nat) (x : Nat) (ax : Nat → Nat) (kx : Nat → ClassId) (a : Int32) : vx_Met l yX7_where zwX7_where ({ frames := 7, cells := 1, slots := 6, locals := 104 }) (xPc dC dI sz x ax kx [.ref x, .int a]) (va_Qi (fun (r : Int32) (_ : Unit) => False) (fun _ _ => True) (fun q : Nat => sz ≤ q)) (zX (True) "java/lang/IndexOutOfBoundsException" (fun q : Nat => sz ≤ q)) 1 6 (fun q : Nat => sz ≤ q) := by
  refine vx_ofW (cc := cX7_where) (maxL := 2) (ret := (some .int)) (by decide) rfl ?_
  intro p e s m args below meth c s₁ B hml hnt hv
  obtain ⟨rfl, hsz, hP, hK, hE⟩ := hv
  have hx := B.exec
  have hb := B.bytes
  have hr := B.returns
  have hts := atoms_spec (ws := zwX7_where) B.pre
  have hown : s.vm.findClass RX7 = some m.cls := findClass_of_methodNamed B.named
  have hlocks := B.notSynchronized
  subst hsz
  have hA : ∀ q : Nat, s.heap.size ≤ q → s.heap.size ≤ q := fun _ h => h
  have hS : va_S (fun q : Nat => s.heap.size ≤ q) s.heap s.heap [] := va_S.rf
  have hl := lv_entry ([.ref x, .int a]) (n := 2) (Nat.le_of_ble_eq_true rfl)
  rw [lg_entry_eq]
  generalize (lg_sl ([.ref x, .int a]) ++ List.replicate (2 - (lg_sl ([.ref x, .int a])).length) Slot.unset).toArray = ls at hl ⊢
  have hl : lv_has ls 2 [(0, .ref x), (1, .int a)] := hl
  refine lv_aload_n hx hb dX7_where_0 rfl (lv_at hl 0 rfl) ?_
  refine lv_iload_n hx hb dX7_where_1 rfl (lv_at hl 1 rfl) ?_
  refine vx_calli (vx_runV (As := [.int a]) (rest := []) ⟨hx, hb, hml, hown, hts⟩ (c_X7_requireBody l hst dC dI s.heap.size x ax kx a) (cwV 1 hts (goodIn_app (goodIn_of _ (by decide +kernel)) (goodIn_sub ((fun w h => List.mem_cons_of_mem _ (List.mem_append_right _ (h)))) zgX7_requireBody)) rfl rfl rfl (by decide +kernel) ⟨Nat.le_of_ble_eq_true rfl, Nat.le_of_ble_eq_true rfl⟩) ⟨xPc_blind, va_recv hK hP (ci := 10) (q0 := 0) rfl rfl, xPc_pass hP hK hE hS (fun q h => hA q (Nat.le_trans hS.1 h))⟩ rfl rfl hl.1 rfl (lv_room (Nat.le_of_ble_eq_true rfl)) dX7_where_2 ⟨Nat.le_of_ble_eq_true rfl, Nat.le_of_ble_eq_true rfl⟩) hS (fun q _ h => hA q (Nat.le_trans hS.1 h)) (fun q h => hA q (Nat.le_trans hS.1 h)) (fun q _ h => hA q (Nat.le_trans hS.1 h)) (fun E ce q9 _ t H locs ht hvm hpx hBX hz hk hS hcell hv hcl => ?_) (fun r_1 u t H locs ht hvm hw hB hz hk hS => ?_)
  · have hBX : E = "java/lang/IndexOutOfBoundsException" := hBX
    subst hBX
    exact zOut (px := True) (E := "java/lang/IndexOutOfBoundsException") hnt hlocks hcell hv hcl hS trivial hS.2.2 (Nat.le_of_ble_eq_true rfl) (Nat.le_of_ble_eq_true rfl)
  have hP := zkn hP hk
  exact hw.elim

def zwX7_waiting : List Cond := .code yX7_waiting cX7_waiting 1 (some .int) :: (([.methodLink RX7 314 yX7_countAt, .instanceMethod yX7_countAt, .selects RX7 yX7_countAt yX7_countAt, .initialized RX7] : List Cond) ++ (zwX7_countAt))
theorem zgX7_waiting : zwX7_waiting.all goodWord = true := zgo rfl (zga (by decide +kernel) (zgX7_countAt))
set_option maxHeartbeats 4000000 in
set_option maxRecDepth 100000 in
theorem c_X7_waiting (l : Launch) (dC : Nat → ClassId) (dI : Nat → Nat → Nat) (sz : Nat) (x : Nat) (ax : Nat → Nat) (kx : Nat → ClassId) : Met l yX7_waiting zwX7_waiting ({ frames := 1, cells := 0, slots := 0, locals := 26 }) (xPc dC dI sz x ax kx [.ref x]) (va_Qi (fun (r : Int32) (_ : Unit) => r = 0) (fun _ _ => True) (fun q : Nat => sz ≤ q)) 0 0 (fun q : Nat => sz ≤ q) := by
  refine Met.ofW (cc := cX7_waiting) (maxL := 1) (ret := (some .int)) (by decide) rfl ?_
  intro p e s m args below meth c s₁ B hml hv
  obtain ⟨rfl, hsz, hP, hK, hE⟩ := hv
  have hx := B.exec
  have hb := B.bytes
  have hr := B.returns
  have hts := atoms_spec (ws := zwX7_waiting) B.pre
  have hown : s.vm.findClass RX7 = some m.cls := findClass_of_methodNamed B.named
  have hlocks := B.notSynchronized
  subst hsz
  have hA : ∀ q : Nat, s.heap.size ≤ q → s.heap.size ≤ q := fun _ h => h
  have hS : va_S (fun q : Nat => s.heap.size ≤ q) s.heap s.heap [] := va_S.rf
  have hl := lv_entry ([.ref x]) (n := 1) (Nat.le_of_ble_eq_true rfl)
  rw [lg_entry_eq]
  generalize (lg_sl ([.ref x]) ++ List.replicate (1 - (lg_sl ([.ref x])).length) Slot.unset).toArray = ls at hl ⊢
  have hl : lv_has ls 1 [(0, .ref x)] := hl
  refine lv_aload_n hx hb dX7_waiting_0 rfl (lv_at hl 0 rfl) ?_
  refine lv_iconst (v := (-1)) hx hb dX7_waiting_1 (by decide) ?_
  refine va_calli (va_runV (As := [.int (-1)]) (rest := []) ⟨hx, hb, hml, hown, hts⟩ (c_X7_countAt l dC dI s.heap.size x ax kx (-1)) (cwV 1 hts (goodIn_app (goodIn_of _ (by decide +kernel)) (goodIn_sub ((fun w h => List.mem_cons_of_mem _ (List.mem_append_right _ (h)))) zgX7_countAt)) rfl rfl rfl (by decide +kernel) ⟨Nat.le_of_ble_eq_true rfl, Nat.le_of_ble_eq_true rfl⟩) ⟨xPc_blind, va_recv hK hP (ci := 10) (q0 := 0) rfl rfl, xPc_pass hP hK hE hS (fun q h => hA q (Nat.le_trans hS.1 h))⟩ rfl rfl hl.1 rfl (lv_room (Nat.le_of_ble_eq_true rfl)) dX7_waiting_2 ⟨Nat.le_of_ble_eq_true rfl, Nat.le_of_ble_eq_true rfl⟩) hS (fun q _ h => hA q (Nat.le_trans hS.1 h)) (fun q h => hA q (Nat.le_trans hS.1 h)) (fun r_1 u t H locs ht hvm hw hB hz hk hS => ?_)
  have hP := zkn hP hk
  have hw : r_1 = 0 := hw
  subst hw
  refine W.widen (k := 0) (n := 0) (Nat.le_of_ble_eq_true rfl) (Nat.le_of_ble_eq_true rfl) ?_
  exact W.iret (v := 0) hx hb hr (fun t ht hW => ⟨⟨0, (), rfl, rfl, trivial⟩, hS.F ht⟩) hS.2.2 dX7_waiting_5

def zwX7_stand : List Cond := .code yX7_stand cX7_stand 5 (some .boolean) :: (([.methodLink RX7 118 yX7_requireStation, .instanceMethod yX7_requireStation, .selects RX7 yX7_requireStation yX7_requireStation, .initialized RX7] : List Cond) ++ (zwX7_requireStation))
theorem zgX7_stand : zwX7_stand.all goodWord = true := zgo rfl (zga (by decide +kernel) (zgX7_requireStation))
set_option maxHeartbeats 4000000 in
set_option maxRecDepth 100000 in
theorem c_X7_stand (l : Launch) (hst : l.stackTraces = false) (dC : Nat → ClassId) (dI : Nat → Nat → Nat) (sz : Nat) (x : Nat) (ax : Nat → Nat) (kx : Nat → ClassId) (a : Int32) (b : Int32) : vx_Met l yX7_stand zwX7_stand ({ frames := 7, cells := 1, slots := 6, locals := 104 }) (xPc dC dI sz x ax kx [.ref x, .int a, .int b]) (va_Qi (fun (r : Int32) (_ : Unit) => False) (fun _ _ => True) (fun q : Nat => sz ≤ q)) (zX (True) "java/lang/IndexOutOfBoundsException" (fun q : Nat => sz ≤ q)) 1 6 (fun q : Nat => sz ≤ q) := by
  refine vx_ofW (cc := cX7_stand) (maxL := 5) (ret := (some .boolean)) (by decide) rfl ?_
  intro p e s m args below meth c s₁ B hml hnt hv
  obtain ⟨rfl, hsz, hP, hK, hE⟩ := hv
  have hx := B.exec
  have hb := B.bytes
  have hr := B.returns
  have hts := atoms_spec (ws := zwX7_stand) B.pre
  have hown : s.vm.findClass RX7 = some m.cls := findClass_of_methodNamed B.named
  have hlocks := B.notSynchronized
  subst hsz
  have hA : ∀ q : Nat, s.heap.size ≤ q → s.heap.size ≤ q := fun _ h => h
  have hS : va_S (fun q : Nat => s.heap.size ≤ q) s.heap s.heap [] := va_S.rf
  have hl := lv_entry ([.ref x, .int a, .int b]) (n := 5) (Nat.le_of_ble_eq_true rfl)
  rw [lg_entry_eq]
  generalize (lg_sl ([.ref x, .int a, .int b]) ++ List.replicate (5 - (lg_sl ([.ref x, .int a, .int b])).length) Slot.unset).toArray = ls at hl ⊢
  have hl : lv_has ls 5 [(0, .ref x), (1, .int a), (2, .int b)] := hl
  refine lv_aload_n hx hb dX7_stand_0 rfl (lv_at hl 0 rfl) ?_
  refine lv_iload_n hx hb dX7_stand_1 rfl (lv_at hl 1 rfl) ?_
  refine vx_calli (vx_runV (As := [.int a]) (rest := []) ⟨hx, hb, hml, hown, hts⟩ (c_X7_requireStation l hst dC dI s.heap.size x ax kx a) (cwV 1 hts (goodIn_app (goodIn_of _ (by decide +kernel)) (goodIn_sub ((fun w h => List.mem_cons_of_mem _ (List.mem_append_right _ (h)))) zgX7_requireStation)) rfl rfl rfl (by decide +kernel) ⟨Nat.le_of_ble_eq_true rfl, Nat.le_of_ble_eq_true rfl⟩) ⟨xPc_blind, va_recv hK hP (ci := 10) (q0 := 0) rfl rfl, xPc_pass hP hK hE hS (fun q h => hA q (Nat.le_trans hS.1 h))⟩ rfl rfl hl.1 rfl (lv_room (Nat.le_of_ble_eq_true rfl)) dX7_stand_2 ⟨Nat.le_of_ble_eq_true rfl, Nat.le_of_ble_eq_true rfl⟩) hS (fun q _ h => hA q (Nat.le_trans hS.1 h)) (fun q h => hA q (Nat.le_trans hS.1 h)) (fun q _ h => hA q (Nat.le_trans hS.1 h)) (fun E ce q9 _ t H locs ht hvm hpx hBX hz hk hS hcell hv hcl => ?_) (fun r_1 u t H locs ht hvm hw hB hz hk hS => ?_)
  · have hBX : E = "java/lang/IndexOutOfBoundsException" := hBX
    subst hBX
    exact zOut (px := True) (E := "java/lang/IndexOutOfBoundsException") hnt hlocks hcell hv hcl hS trivial hS.2.2 (Nat.le_of_ble_eq_true rfl) (Nat.le_of_ble_eq_true rfl)
  have hP := zkn hP hk
  exact hw.elim

def zwX7_letters : List Cond := .code yX7_letters cX7_letters 4 (some .int) :: (([.methodLink RX7 118 yX7_requireStation, .instanceMethod yX7_requireStation, .selects RX7 yX7_requireStation yX7_requireStation, .initialized RX7] : List Cond) ++ (zwX7_requireStation))
theorem zgX7_letters : zwX7_letters.all goodWord = true := zgo rfl (zga (by decide +kernel) (zgX7_requireStation))
set_option maxHeartbeats 4000000 in
set_option maxRecDepth 100000 in
theorem c_X7_letters (l : Launch) (hst : l.stackTraces = false) (dC : Nat → ClassId) (dI : Nat → Nat → Nat) (sz : Nat) (x : Nat) (ax : Nat → Nat) (kx : Nat → ClassId) (a : Int32) (b : Int32) : vx_Met l yX7_letters zwX7_letters ({ frames := 7, cells := 1, slots := 6, locals := 104 }) (xPc dC dI sz x ax kx [.ref x, .int a, .int b]) (va_Qi (fun (r : Int32) (_ : Unit) => False) (fun _ _ => True) (fun q : Nat => sz ≤ q)) (zX (True) "java/lang/IndexOutOfBoundsException" (fun q : Nat => sz ≤ q)) 1 6 (fun q : Nat => sz ≤ q) := by
  refine vx_ofW (cc := cX7_letters) (maxL := 4) (ret := (some .int)) (by decide) rfl ?_
  intro p e s m args below meth c s₁ B hml hnt hv
  obtain ⟨rfl, hsz, hP, hK, hE⟩ := hv
  have hx := B.exec
  have hb := B.bytes
  have hr := B.returns
  have hts := atoms_spec (ws := zwX7_letters) B.pre
  have hown : s.vm.findClass RX7 = some m.cls := findClass_of_methodNamed B.named
  have hlocks := B.notSynchronized
  subst hsz
  have hA : ∀ q : Nat, s.heap.size ≤ q → s.heap.size ≤ q := fun _ h => h
  have hS : va_S (fun q : Nat => s.heap.size ≤ q) s.heap s.heap [] := va_S.rf
  have hl := lv_entry ([.ref x, .int a, .int b]) (n := 4) (Nat.le_of_ble_eq_true rfl)
  rw [lg_entry_eq]
  generalize (lg_sl ([.ref x, .int a, .int b]) ++ List.replicate (4 - (lg_sl ([.ref x, .int a, .int b])).length) Slot.unset).toArray = ls at hl ⊢
  have hl : lv_has ls 4 [(0, .ref x), (1, .int a), (2, .int b)] := hl
  refine lv_aload_n hx hb dX7_letters_0 rfl (lv_at hl 0 rfl) ?_
  refine lv_iload_n hx hb dX7_letters_1 rfl (lv_at hl 1 rfl) ?_
  refine vx_calli (vx_runV (As := [.int a]) (rest := []) ⟨hx, hb, hml, hown, hts⟩ (c_X7_requireStation l hst dC dI s.heap.size x ax kx a) (cwV 1 hts (goodIn_app (goodIn_of _ (by decide +kernel)) (goodIn_sub ((fun w h => List.mem_cons_of_mem _ (List.mem_append_right _ (h)))) zgX7_requireStation)) rfl rfl rfl (by decide +kernel) ⟨Nat.le_of_ble_eq_true rfl, Nat.le_of_ble_eq_true rfl⟩) ⟨xPc_blind, va_recv hK hP (ci := 10) (q0 := 0) rfl rfl, xPc_pass hP hK hE hS (fun q h => hA q (Nat.le_trans hS.1 h))⟩ rfl rfl hl.1 rfl (lv_room (Nat.le_of_ble_eq_true rfl)) dX7_letters_2 ⟨Nat.le_of_ble_eq_true rfl, Nat.le_of_ble_eq_true rfl⟩) hS (fun q _ h => hA q (Nat.le_trans hS.1 h)) (fun q h => hA q (Nat.le_trans hS.1 h)) (fun q _ h => hA q (Nat.le_trans hS.1 h)) (fun E ce q9 _ t H locs ht hvm hpx hBX hz hk hS hcell hv hcl => ?_) (fun r_1 u t H locs ht hvm hw hB hz hk hS => ?_)
  · have hBX : E = "java/lang/IndexOutOfBoundsException" := hBX
    subst hBX
    exact zOut (px := True) (E := "java/lang/IndexOutOfBoundsException") hnt hlocks hcell hv hcl hS trivial hS.2.2 (Nat.le_of_ble_eq_true rfl) (Nat.le_of_ble_eq_true rfl)
  have hP := zkn hP hk
  exact hw.elim

def zwX7_die : List Cond := .code yX7_die cX7_die 5 (some .boolean) :: (([.methodLink RX7 143 yX7_requireRobot, .instanceMethod yX7_requireRobot, .selects RX7 yX7_requireRobot yX7_requireRobot, .initialized RX7] : List Cond) ++ (zwX7_requireRobot))
theorem zgX7_die : zwX7_die.all goodWord = true := zgo rfl (zga (by decide +kernel) (zgX7_requireRobot))
set_option maxHeartbeats 4000000 in
set_option maxRecDepth 100000 in
theorem c_X7_die (l : Launch) (hst : l.stackTraces = false) (dC : Nat → ClassId) (dI : Nat → Nat → Nat) (sz : Nat) (x : Nat) (ax : Nat → Nat) (kx : Nat → ClassId) (a : Int32) (b : Int32) : vx_Met l yX7_die zwX7_die ({ frames := 7, cells := 1, slots := 6, locals := 104 }) (xPc dC dI sz x ax kx [.ref x, .int a, .int b]) (va_Qi (fun (r : Int32) (_ : Unit) => False) (fun _ _ => True) (fun q : Nat => sz ≤ q)) (zX (True) "java/lang/IndexOutOfBoundsException" (fun q : Nat => sz ≤ q)) 1 6 (fun q : Nat => sz ≤ q) := by
  refine vx_ofW (cc := cX7_die) (maxL := 5) (ret := (some .boolean)) (by decide) rfl ?_
  intro p e s m args below meth c s₁ B hml hnt hv
  obtain ⟨rfl, hsz, hP, hK, hE⟩ := hv
  have hx := B.exec
  have hb := B.bytes
  have hr := B.returns
  have hts := atoms_spec (ws := zwX7_die) B.pre
  have hown : s.vm.findClass RX7 = some m.cls := findClass_of_methodNamed B.named
  have hlocks := B.notSynchronized
  subst hsz
  have hA : ∀ q : Nat, s.heap.size ≤ q → s.heap.size ≤ q := fun _ h => h
  have hS : va_S (fun q : Nat => s.heap.size ≤ q) s.heap s.heap [] := va_S.rf
  have hl := lv_entry ([.ref x, .int a, .int b]) (n := 5) (Nat.le_of_ble_eq_true rfl)
  rw [lg_entry_eq]
  generalize (lg_sl ([.ref x, .int a, .int b]) ++ List.replicate (5 - (lg_sl ([.ref x, .int a, .int b])).length) Slot.unset).toArray = ls at hl ⊢
  have hl : lv_has ls 5 [(0, .ref x), (1, .int a), (2, .int b)] := hl
  refine lv_aload_n hx hb dX7_die_0 rfl (lv_at hl 0 rfl) ?_
  refine lv_iload_n hx hb dX7_die_1 rfl (lv_at hl 1 rfl) ?_
  refine vx_calli (vx_runV (As := [.int a]) (rest := []) ⟨hx, hb, hml, hown, hts⟩ (c_X7_requireRobot l hst dC dI s.heap.size x ax kx a) (cwV 1 hts (goodIn_app (goodIn_of _ (by decide +kernel)) (goodIn_sub ((fun w h => List.mem_cons_of_mem _ (List.mem_append_right _ (h)))) zgX7_requireRobot)) rfl rfl rfl (by decide +kernel) ⟨Nat.le_of_ble_eq_true rfl, Nat.le_of_ble_eq_true rfl⟩) ⟨xPc_blind, va_recv hK hP (ci := 10) (q0 := 0) rfl rfl, xPc_pass hP hK hE hS (fun q h => hA q (Nat.le_trans hS.1 h))⟩ rfl rfl hl.1 rfl (lv_room (Nat.le_of_ble_eq_true rfl)) dX7_die_2 ⟨Nat.le_of_ble_eq_true rfl, Nat.le_of_ble_eq_true rfl⟩) hS (fun q _ h => hA q (Nat.le_trans hS.1 h)) (fun q h => hA q (Nat.le_trans hS.1 h)) (fun q _ h => hA q (Nat.le_trans hS.1 h)) (fun E ce q9 _ t H locs ht hvm hpx hBX hz hk hS hcell hv hcl => ?_) (fun r_1 u t H locs ht hvm hw hB hz hk hS => ?_)
  · have hBX : E = "java/lang/IndexOutOfBoundsException" := hBX
    subst hBX
    exact zOut (px := True) (E := "java/lang/IndexOutOfBoundsException") hnt hlocks hcell hv hcl hS trivial hS.2.2 (Nat.le_of_ble_eq_true rfl) (Nat.le_of_ble_eq_true rfl)
  have hP := zkn hP hk
  exact hw.elim

def zwX7_standIn : List Cond := .code yX7_standIn cX7_standIn 5 (some .int) :: (([.methodLink RX7 143 yX7_requireRobot, .instanceMethod yX7_requireRobot, .selects RX7 yX7_requireRobot yX7_requireRobot, .initialized RX7] : List Cond) ++ (zwX7_requireRobot))
theorem zgX7_standIn : zwX7_standIn.all goodWord = true := zgo rfl (zga (by decide +kernel) (zgX7_requireRobot))
set_option maxHeartbeats 4000000 in
set_option maxRecDepth 100000 in
theorem c_X7_standIn (l : Launch) (hst : l.stackTraces = false) (dC : Nat → ClassId) (dI : Nat → Nat → Nat) (sz : Nat) (x : Nat) (ax : Nat → Nat) (kx : Nat → ClassId) (a : Int32) (b : Int32) : vx_Met l yX7_standIn zwX7_standIn ({ frames := 7, cells := 1, slots := 6, locals := 104 }) (xPc dC dI sz x ax kx [.ref x, .int a, .int b]) (va_Qi (fun (r : Int32) (_ : Unit) => False) (fun _ _ => True) (fun q : Nat => sz ≤ q)) (zX (True) "java/lang/IndexOutOfBoundsException" (fun q : Nat => sz ≤ q)) 1 6 (fun q : Nat => sz ≤ q) := by
  refine vx_ofW (cc := cX7_standIn) (maxL := 5) (ret := (some .int)) (by decide) rfl ?_
  intro p e s m args below meth c s₁ B hml hnt hv
  obtain ⟨rfl, hsz, hP, hK, hE⟩ := hv
  have hx := B.exec
  have hb := B.bytes
  have hr := B.returns
  have hts := atoms_spec (ws := zwX7_standIn) B.pre
  have hown : s.vm.findClass RX7 = some m.cls := findClass_of_methodNamed B.named
  have hlocks := B.notSynchronized
  subst hsz
  have hA : ∀ q : Nat, s.heap.size ≤ q → s.heap.size ≤ q := fun _ h => h
  have hS : va_S (fun q : Nat => s.heap.size ≤ q) s.heap s.heap [] := va_S.rf
  have hl := lv_entry ([.ref x, .int a, .int b]) (n := 5) (Nat.le_of_ble_eq_true rfl)
  rw [lg_entry_eq]
  generalize (lg_sl ([.ref x, .int a, .int b]) ++ List.replicate (5 - (lg_sl ([.ref x, .int a, .int b])).length) Slot.unset).toArray = ls at hl ⊢
  have hl : lv_has ls 5 [(0, .ref x), (1, .int a), (2, .int b)] := hl
  refine lv_aload_n hx hb dX7_standIn_0 rfl (lv_at hl 0 rfl) ?_
  refine lv_iload_n hx hb dX7_standIn_1 rfl (lv_at hl 1 rfl) ?_
  refine vx_calli (vx_runV (As := [.int a]) (rest := []) ⟨hx, hb, hml, hown, hts⟩ (c_X7_requireRobot l hst dC dI s.heap.size x ax kx a) (cwV 1 hts (goodIn_app (goodIn_of _ (by decide +kernel)) (goodIn_sub ((fun w h => List.mem_cons_of_mem _ (List.mem_append_right _ (h)))) zgX7_requireRobot)) rfl rfl rfl (by decide +kernel) ⟨Nat.le_of_ble_eq_true rfl, Nat.le_of_ble_eq_true rfl⟩) ⟨xPc_blind, va_recv hK hP (ci := 10) (q0 := 0) rfl rfl, xPc_pass hP hK hE hS (fun q h => hA q (Nat.le_trans hS.1 h))⟩ rfl rfl hl.1 rfl (lv_room (Nat.le_of_ble_eq_true rfl)) dX7_standIn_2 ⟨Nat.le_of_ble_eq_true rfl, Nat.le_of_ble_eq_true rfl⟩) hS (fun q _ h => hA q (Nat.le_trans hS.1 h)) (fun q h => hA q (Nat.le_trans hS.1 h)) (fun q _ h => hA q (Nat.le_trans hS.1 h)) (fun E ce q9 _ t H locs ht hvm hpx hBX hz hk hS hcell hv hcl => ?_) (fun r_1 u t H locs ht hvm hw hB hz hk hS => ?_)
  · have hBX : E = "java/lang/IndexOutOfBoundsException" := hBX
    subst hBX
    exact zOut (px := True) (E := "java/lang/IndexOutOfBoundsException") hnt hlocks hcell hv hcl hS trivial hS.2.2 (Nat.le_of_ble_eq_true rfl) (Nat.le_of_ble_eq_true rfl)
  have hP := zkn hP hk
  exact hw.elim

def zwX7_wear : List Cond := .code yX7_wear cX7_wear 2 (some .int) :: (([.methodLink RX7 143 yX7_requireRobot, .instanceMethod yX7_requireRobot, .selects RX7 yX7_requireRobot yX7_requireRobot, .initialized RX7] : List Cond) ++ (zwX7_requireRobot))
theorem zgX7_wear : zwX7_wear.all goodWord = true := zgo rfl (zga (by decide +kernel) (zgX7_requireRobot))
set_option maxHeartbeats 4000000 in
set_option maxRecDepth 100000 in
theorem c_X7_wear (l : Launch) (hst : l.stackTraces = false) (dC : Nat → ClassId) (dI : Nat → Nat → Nat) (sz : Nat) (x : Nat) (ax : Nat → Nat) (kx : Nat → ClassId) (a : Int32) : vx_Met l yX7_wear zwX7_wear ({ frames := 7, cells := 1, slots := 6, locals := 104 }) (xPc dC dI sz x ax kx [.ref x, .int a]) (va_Qi (fun (r : Int32) (_ : Unit) => False) (fun _ _ => True) (fun q : Nat => sz ≤ q)) (zX (True) "java/lang/IndexOutOfBoundsException" (fun q : Nat => sz ≤ q)) 1 6 (fun q : Nat => sz ≤ q) := by
  refine vx_ofW (cc := cX7_wear) (maxL := 2) (ret := (some .int)) (by decide) rfl ?_
  intro p e s m args below meth c s₁ B hml hnt hv
  obtain ⟨rfl, hsz, hP, hK, hE⟩ := hv
  have hx := B.exec
  have hb := B.bytes
  have hr := B.returns
  have hts := atoms_spec (ws := zwX7_wear) B.pre
  have hown : s.vm.findClass RX7 = some m.cls := findClass_of_methodNamed B.named
  have hlocks := B.notSynchronized
  subst hsz
  have hA : ∀ q : Nat, s.heap.size ≤ q → s.heap.size ≤ q := fun _ h => h
  have hS : va_S (fun q : Nat => s.heap.size ≤ q) s.heap s.heap [] := va_S.rf
  have hl := lv_entry ([.ref x, .int a]) (n := 2) (Nat.le_of_ble_eq_true rfl)
  rw [lg_entry_eq]
  generalize (lg_sl ([.ref x, .int a]) ++ List.replicate (2 - (lg_sl ([.ref x, .int a])).length) Slot.unset).toArray = ls at hl ⊢
  have hl : lv_has ls 2 [(0, .ref x), (1, .int a)] := hl
  refine lv_aload_n hx hb dX7_wear_0 rfl (lv_at hl 0 rfl) ?_
  refine lv_iload_n hx hb dX7_wear_1 rfl (lv_at hl 1 rfl) ?_
  refine vx_calli (vx_runV (As := [.int a]) (rest := []) ⟨hx, hb, hml, hown, hts⟩ (c_X7_requireRobot l hst dC dI s.heap.size x ax kx a) (cwV 1 hts (goodIn_app (goodIn_of _ (by decide +kernel)) (goodIn_sub ((fun w h => List.mem_cons_of_mem _ (List.mem_append_right _ (h)))) zgX7_requireRobot)) rfl rfl rfl (by decide +kernel) ⟨Nat.le_of_ble_eq_true rfl, Nat.le_of_ble_eq_true rfl⟩) ⟨xPc_blind, va_recv hK hP (ci := 10) (q0 := 0) rfl rfl, xPc_pass hP hK hE hS (fun q h => hA q (Nat.le_trans hS.1 h))⟩ rfl rfl hl.1 rfl (lv_room (Nat.le_of_ble_eq_true rfl)) dX7_wear_2 ⟨Nat.le_of_ble_eq_true rfl, Nat.le_of_ble_eq_true rfl⟩) hS (fun q _ h => hA q (Nat.le_trans hS.1 h)) (fun q h => hA q (Nat.le_trans hS.1 h)) (fun q _ h => hA q (Nat.le_trans hS.1 h)) (fun E ce q9 _ t H locs ht hvm hpx hBX hz hk hS hcell hv hcl => ?_) (fun r_1 u t H locs ht hvm hw hB hz hk hS => ?_)
  · have hBX : E = "java/lang/IndexOutOfBoundsException" := hBX
    subst hBX
    exact zOut (px := True) (E := "java/lang/IndexOutOfBoundsException") hnt hlocks hcell hv hcl hS trivial hS.2.2 (Nat.le_of_ble_eq_true rfl) (Nat.le_of_ble_eq_true rfl)
  have hP := zkn hP hk
  exact hw.elim

def zwX7_dress : List Cond := .code yX7_dress cX7_dress 3 (some .int) :: (([.methodLink RX7 143 yX7_requireRobot, .instanceMethod yX7_requireRobot, .selects RX7 yX7_requireRobot yX7_requireRobot, .initialized RX7] : List Cond) ++ (zwX7_requireRobot))
theorem zgX7_dress : zwX7_dress.all goodWord = true := zgo rfl (zga (by decide +kernel) (zgX7_requireRobot))
set_option maxHeartbeats 4000000 in
set_option maxRecDepth 100000 in
theorem c_X7_dress (l : Launch) (hst : l.stackTraces = false) (dC : Nat → ClassId) (dI : Nat → Nat → Nat) (sz : Nat) (x : Nat) (ax : Nat → Nat) (kx : Nat → ClassId) (a : Int32) : vx_Met l yX7_dress zwX7_dress ({ frames := 7, cells := 1, slots := 6, locals := 104 }) (xPc dC dI sz x ax kx [.ref x, .int a]) (va_Qi (fun (r : Int32) (_ : Unit) => False) (fun _ _ => True) (fun q : Nat => sz ≤ q)) (zX (True) "java/lang/IndexOutOfBoundsException" (fun q : Nat => sz ≤ q)) 1 6 (fun q : Nat => sz ≤ q) := by
  refine vx_ofW (cc := cX7_dress) (maxL := 3) (ret := (some .int)) (by decide) rfl ?_
  intro p e s m args below meth c s₁ B hml hnt hv
  obtain ⟨rfl, hsz, hP, hK, hE⟩ := hv
  have hx := B.exec
  have hb := B.bytes
  have hr := B.returns
  have hts := atoms_spec (ws := zwX7_dress) B.pre
  have hown : s.vm.findClass RX7 = some m.cls := findClass_of_methodNamed B.named
  have hlocks := B.notSynchronized
  subst hsz
  have hA : ∀ q : Nat, s.heap.size ≤ q → s.heap.size ≤ q := fun _ h => h
  have hS : va_S (fun q : Nat => s.heap.size ≤ q) s.heap s.heap [] := va_S.rf
  have hl := lv_entry ([.ref x, .int a]) (n := 3) (Nat.le_of_ble_eq_true rfl)
  rw [lg_entry_eq]
  generalize (lg_sl ([.ref x, .int a]) ++ List.replicate (3 - (lg_sl ([.ref x, .int a])).length) Slot.unset).toArray = ls at hl ⊢
  have hl : lv_has ls 3 [(0, .ref x), (1, .int a)] := hl
  refine lv_aload_n hx hb dX7_dress_0 rfl (lv_at hl 0 rfl) ?_
  refine lv_iload_n hx hb dX7_dress_1 rfl (lv_at hl 1 rfl) ?_
  refine vx_calli (vx_runV (As := [.int a]) (rest := []) ⟨hx, hb, hml, hown, hts⟩ (c_X7_requireRobot l hst dC dI s.heap.size x ax kx a) (cwV 1 hts (goodIn_app (goodIn_of _ (by decide +kernel)) (goodIn_sub ((fun w h => List.mem_cons_of_mem _ (List.mem_append_right _ (h)))) zgX7_requireRobot)) rfl rfl rfl (by decide +kernel) ⟨Nat.le_of_ble_eq_true rfl, Nat.le_of_ble_eq_true rfl⟩) ⟨xPc_blind, va_recv hK hP (ci := 10) (q0 := 0) rfl rfl, xPc_pass hP hK hE hS (fun q h => hA q (Nat.le_trans hS.1 h))⟩ rfl rfl hl.1 rfl (lv_room (Nat.le_of_ble_eq_true rfl)) dX7_dress_2 ⟨Nat.le_of_ble_eq_true rfl, Nat.le_of_ble_eq_true rfl⟩) hS (fun q _ h => hA q (Nat.le_trans hS.1 h)) (fun q h => hA q (Nat.le_trans hS.1 h)) (fun q _ h => hA q (Nat.le_trans hS.1 h)) (fun E ce q9 _ t H locs ht hvm hpx hBX hz hk hS hcell hv hcl => ?_) (fun r_1 u t H locs ht hvm hw hB hz hk hS => ?_)
  · have hBX : E = "java/lang/IndexOutOfBoundsException" := hBX
    subst hBX
    exact zOut (px := True) (E := "java/lang/IndexOutOfBoundsException") hnt hlocks hcell hv hcl hS trivial hS.2.2 (Nat.le_of_ble_eq_true rfl) (Nat.le_of_ble_eq_true rfl)
  have hP := zkn hP hk
  exact hw.elim

def zwX7_change : List Cond := .code yX7_change cX7_change 4 (some .int) :: (([.methodLink RX7 143 yX7_requireRobot, .instanceMethod yX7_requireRobot, .selects RX7 yX7_requireRobot yX7_requireRobot, .initialized RX7] : List Cond) ++ (zwX7_requireRobot))
theorem zgX7_change : zwX7_change.all goodWord = true := zgo rfl (zga (by decide +kernel) (zgX7_requireRobot))
set_option maxHeartbeats 4000000 in
set_option maxRecDepth 100000 in
theorem c_X7_change (l : Launch) (hst : l.stackTraces = false) (dC : Nat → ClassId) (dI : Nat → Nat → Nat) (sz : Nat) (x : Nat) (ax : Nat → Nat) (kx : Nat → ClassId) (a : Int32) : vx_Met l yX7_change zwX7_change ({ frames := 7, cells := 1, slots := 6, locals := 104 }) (xPc dC dI sz x ax kx [.ref x, .int a]) (va_Qi (fun (r : Int32) (_ : Unit) => False) (fun _ _ => True) (fun q : Nat => sz ≤ q)) (zX (True) "java/lang/IndexOutOfBoundsException" (fun q : Nat => sz ≤ q)) 1 6 (fun q : Nat => sz ≤ q) := by
  refine vx_ofW (cc := cX7_change) (maxL := 4) (ret := (some .int)) (by decide) rfl ?_
  intro p e s m args below meth c s₁ B hml hnt hv
  obtain ⟨rfl, hsz, hP, hK, hE⟩ := hv
  have hx := B.exec
  have hb := B.bytes
  have hr := B.returns
  have hts := atoms_spec (ws := zwX7_change) B.pre
  have hown : s.vm.findClass RX7 = some m.cls := findClass_of_methodNamed B.named
  have hlocks := B.notSynchronized
  subst hsz
  have hA : ∀ q : Nat, s.heap.size ≤ q → s.heap.size ≤ q := fun _ h => h
  have hS : va_S (fun q : Nat => s.heap.size ≤ q) s.heap s.heap [] := va_S.rf
  have hl := lv_entry ([.ref x, .int a]) (n := 4) (Nat.le_of_ble_eq_true rfl)
  rw [lg_entry_eq]
  generalize (lg_sl ([.ref x, .int a]) ++ List.replicate (4 - (lg_sl ([.ref x, .int a])).length) Slot.unset).toArray = ls at hl ⊢
  have hl : lv_has ls 4 [(0, .ref x), (1, .int a)] := hl
  refine lv_aload_n hx hb dX7_change_0 rfl (lv_at hl 0 rfl) ?_
  refine lv_iload_n hx hb dX7_change_1 rfl (lv_at hl 1 rfl) ?_
  refine vx_calli (vx_runV (As := [.int a]) (rest := []) ⟨hx, hb, hml, hown, hts⟩ (c_X7_requireRobot l hst dC dI s.heap.size x ax kx a) (cwV 1 hts (goodIn_app (goodIn_of _ (by decide +kernel)) (goodIn_sub ((fun w h => List.mem_cons_of_mem _ (List.mem_append_right _ (h)))) zgX7_requireRobot)) rfl rfl rfl (by decide +kernel) ⟨Nat.le_of_ble_eq_true rfl, Nat.le_of_ble_eq_true rfl⟩) ⟨xPc_blind, va_recv hK hP (ci := 10) (q0 := 0) rfl rfl, xPc_pass hP hK hE hS (fun q h => hA q (Nat.le_trans hS.1 h))⟩ rfl rfl hl.1 rfl (lv_room (Nat.le_of_ble_eq_true rfl)) dX7_change_2 ⟨Nat.le_of_ble_eq_true rfl, Nat.le_of_ble_eq_true rfl⟩) hS (fun q _ h => hA q (Nat.le_trans hS.1 h)) (fun q h => hA q (Nat.le_trans hS.1 h)) (fun q _ h => hA q (Nat.le_trans hS.1 h)) (fun E ce q9 _ t H locs ht hvm hpx hBX hz hk hS hcell hv hcl => ?_) (fun r_1 u t H locs ht hvm hw hB hz hk hS => ?_)
  · have hBX : E = "java/lang/IndexOutOfBoundsException" := hBX
    subst hBX
    exact zOut (px := True) (E := "java/lang/IndexOutOfBoundsException") hnt hlocks hcell hv hcl hS trivial hS.2.2 (Nat.le_of_ble_eq_true rfl) (Nat.le_of_ble_eq_true rfl)
  have hP := zkn hP hk
  exact hw.elim

def zwX7_made : List Cond := .code yX7_made cX7_made 2 (some .int) :: (([.methodLink RX7 143 yX7_requireRobot, .instanceMethod yX7_requireRobot, .selects RX7 yX7_requireRobot yX7_requireRobot, .initialized RX7] : List Cond) ++ (zwX7_requireRobot))
theorem zgX7_made : zwX7_made.all goodWord = true := zgo rfl (zga (by decide +kernel) (zgX7_requireRobot))
set_option maxHeartbeats 4000000 in
set_option maxRecDepth 100000 in
theorem c_X7_made (l : Launch) (hst : l.stackTraces = false) (dC : Nat → ClassId) (dI : Nat → Nat → Nat) (sz : Nat) (x : Nat) (ax : Nat → Nat) (kx : Nat → ClassId) (a : Int32) : vx_Met l yX7_made zwX7_made ({ frames := 7, cells := 1, slots := 6, locals := 104 }) (xPc dC dI sz x ax kx [.ref x, .int a]) (va_Qi (fun (r : Int32) (_ : Unit) => False) (fun _ _ => True) (fun q : Nat => sz ≤ q)) (zX (True) "java/lang/IndexOutOfBoundsException" (fun q : Nat => sz ≤ q)) 1 6 (fun q : Nat => sz ≤ q) := by
  refine vx_ofW (cc := cX7_made) (maxL := 2) (ret := (some .int)) (by decide) rfl ?_
  intro p e s m args below meth c s₁ B hml hnt hv
  obtain ⟨rfl, hsz, hP, hK, hE⟩ := hv
  have hx := B.exec
  have hb := B.bytes
  have hr := B.returns
  have hts := atoms_spec (ws := zwX7_made) B.pre
  have hown : s.vm.findClass RX7 = some m.cls := findClass_of_methodNamed B.named
  have hlocks := B.notSynchronized
  subst hsz
  have hA : ∀ q : Nat, s.heap.size ≤ q → s.heap.size ≤ q := fun _ h => h
  have hS : va_S (fun q : Nat => s.heap.size ≤ q) s.heap s.heap [] := va_S.rf
  have hl := lv_entry ([.ref x, .int a]) (n := 2) (Nat.le_of_ble_eq_true rfl)
  rw [lg_entry_eq]
  generalize (lg_sl ([.ref x, .int a]) ++ List.replicate (2 - (lg_sl ([.ref x, .int a])).length) Slot.unset).toArray = ls at hl ⊢
  have hl : lv_has ls 2 [(0, .ref x), (1, .int a)] := hl
  refine lv_aload_n hx hb dX7_made_0 rfl (lv_at hl 0 rfl) ?_
  refine lv_iload_n hx hb dX7_made_1 rfl (lv_at hl 1 rfl) ?_
  refine vx_calli (vx_runV (As := [.int a]) (rest := []) ⟨hx, hb, hml, hown, hts⟩ (c_X7_requireRobot l hst dC dI s.heap.size x ax kx a) (cwV 1 hts (goodIn_app (goodIn_of _ (by decide +kernel)) (goodIn_sub ((fun w h => List.mem_cons_of_mem _ (List.mem_append_right _ (h)))) zgX7_requireRobot)) rfl rfl rfl (by decide +kernel) ⟨Nat.le_of_ble_eq_true rfl, Nat.le_of_ble_eq_true rfl⟩) ⟨xPc_blind, va_recv hK hP (ci := 10) (q0 := 0) rfl rfl, xPc_pass hP hK hE hS (fun q h => hA q (Nat.le_trans hS.1 h))⟩ rfl rfl hl.1 rfl (lv_room (Nat.le_of_ble_eq_true rfl)) dX7_made_2 ⟨Nat.le_of_ble_eq_true rfl, Nat.le_of_ble_eq_true rfl⟩) hS (fun q _ h => hA q (Nat.le_trans hS.1 h)) (fun q h => hA q (Nat.le_trans hS.1 h)) (fun q _ h => hA q (Nat.le_trans hS.1 h)) (fun E ce q9 _ t H locs ht hvm hpx hBX hz hk hS hcell hv hcl => ?_) (fun r_1 u t H locs ht hvm hw hB hz hk hS => ?_)
  · have hBX : E = "java/lang/IndexOutOfBoundsException" := hBX
    subst hBX
    exact zOut (px := True) (E := "java/lang/IndexOutOfBoundsException") hnt hlocks hcell hv hcl hS trivial hS.2.2 (Nat.le_of_ble_eq_true rfl) (Nat.le_of_ble_eq_true rfl)
  have hP := zkn hP hk
  exact hw.elim

def zwX7_lacks : List Cond := .code yX7_lacks cX7_lacks 2 (some .int) :: (([.methodLink RX7 308 yX7_requireBody, .instanceMethod yX7_requireBody, .selects RX7 yX7_requireBody yX7_requireBody, .initialized RX7] : List Cond) ++ (zwX7_requireBody))
theorem zgX7_lacks : zwX7_lacks.all goodWord = true := zgo rfl (zga (by decide +kernel) (zgX7_requireBody))
set_option maxHeartbeats 4000000 in
set_option maxRecDepth 100000 in
theorem c_X7_lacks (l : Launch) (hst : l.stackTraces = false) (dC : Nat → ClassId) (dI : Nat → Nat → Nat) (sz : Nat) (x : Nat) (ax : Nat → Nat) (kx : Nat → ClassId) (a : Int32) : vx_Met l yX7_lacks zwX7_lacks ({ frames := 7, cells := 1, slots := 6, locals := 104 }) (xPc dC dI sz x ax kx [.ref x, .int a]) (va_Qi (fun (r : Int32) (_ : Unit) => False) (fun _ _ => True) (fun q : Nat => sz ≤ q)) (zX (True) "java/lang/IndexOutOfBoundsException" (fun q : Nat => sz ≤ q)) 1 6 (fun q : Nat => sz ≤ q) := by
  refine vx_ofW (cc := cX7_lacks) (maxL := 2) (ret := (some .int)) (by decide) rfl ?_
  intro p e s m args below meth c s₁ B hml hnt hv
  obtain ⟨rfl, hsz, hP, hK, hE⟩ := hv
  have hx := B.exec
  have hb := B.bytes
  have hr := B.returns
  have hts := atoms_spec (ws := zwX7_lacks) B.pre
  have hown : s.vm.findClass RX7 = some m.cls := findClass_of_methodNamed B.named
  have hlocks := B.notSynchronized
  subst hsz
  have hA : ∀ q : Nat, s.heap.size ≤ q → s.heap.size ≤ q := fun _ h => h
  have hS : va_S (fun q : Nat => s.heap.size ≤ q) s.heap s.heap [] := va_S.rf
  have hl := lv_entry ([.ref x, .int a]) (n := 2) (Nat.le_of_ble_eq_true rfl)
  rw [lg_entry_eq]
  generalize (lg_sl ([.ref x, .int a]) ++ List.replicate (2 - (lg_sl ([.ref x, .int a])).length) Slot.unset).toArray = ls at hl ⊢
  have hl : lv_has ls 2 [(0, .ref x), (1, .int a)] := hl
  refine lv_aload_n hx hb dX7_lacks_0 rfl (lv_at hl 0 rfl) ?_
  refine lv_aload_n hx hb dX7_lacks_1 rfl (lv_at hl 0 rfl) ?_
  refine lv_iload_n hx hb dX7_lacks_2 rfl (lv_at hl 1 rfl) ?_
  refine vx_calli (vx_runV (As := [.int a]) (rest := [.ref x]) ⟨hx, hb, hml, hown, hts⟩ (c_X7_requireBody l hst dC dI s.heap.size x ax kx a) (cwV 1 hts (goodIn_app (goodIn_of _ (by decide +kernel)) (goodIn_sub ((fun w h => List.mem_cons_of_mem _ (List.mem_append_right _ (h)))) zgX7_requireBody)) rfl rfl rfl (by decide +kernel) ⟨Nat.le_of_ble_eq_true rfl, Nat.le_of_ble_eq_true rfl⟩) ⟨xPc_blind, va_recv hK hP (ci := 10) (q0 := 0) rfl rfl, xPc_pass hP hK hE hS (fun q h => hA q (Nat.le_trans hS.1 h))⟩ rfl rfl hl.1 rfl (lv_room (Nat.le_of_ble_eq_true rfl)) dX7_lacks_3 ⟨Nat.le_of_ble_eq_true rfl, Nat.le_of_ble_eq_true rfl⟩) hS (fun q _ h => hA q (Nat.le_trans hS.1 h)) (fun q h => hA q (Nat.le_trans hS.1 h)) (fun q _ h => hA q (Nat.le_trans hS.1 h)) (fun E ce q9 _ t H locs ht hvm hpx hBX hz hk hS hcell hv hcl => ?_) (fun r_1 u t H locs ht hvm hw hB hz hk hS => ?_)
  · have hBX : E = "java/lang/IndexOutOfBoundsException" := hBX
    subst hBX
    exact zOut (px := True) (E := "java/lang/IndexOutOfBoundsException") hnt hlocks hcell hv hcl hS trivial hS.2.2 (Nat.le_of_ble_eq_true rfl) (Nat.le_of_ble_eq_true rfl)
  have hP := zkn hP hk
  exact hw.elim

def zwX7_firstLacking : List Cond := .code yX7_firstLacking cX7_firstLacking 7 (some .int) :: (([.methodLink RX7 308 yX7_requireBody, .instanceMethod yX7_requireBody, .selects RX7 yX7_requireBody yX7_requireBody, .initialized RX7] : List Cond) ++ (zwX7_requireBody))
theorem zgX7_firstLacking : zwX7_firstLacking.all goodWord = true := zgo rfl (zga (by decide +kernel) (zgX7_requireBody))
set_option maxHeartbeats 4000000 in
set_option maxRecDepth 100000 in
theorem c_X7_firstLacking (l : Launch) (hst : l.stackTraces = false) (dC : Nat → ClassId) (dI : Nat → Nat → Nat) (sz : Nat) (x : Nat) (ax : Nat → Nat) (kx : Nat → ClassId) (a : Int32) : vx_Met l yX7_firstLacking zwX7_firstLacking ({ frames := 7, cells := 1, slots := 6, locals := 104 }) (xPc dC dI sz x ax kx [.ref x, .int a]) (va_Qi (fun (r : Int32) (_ : Unit) => False) (fun _ _ => True) (fun q : Nat => sz ≤ q)) (zX (True) "java/lang/IndexOutOfBoundsException" (fun q : Nat => sz ≤ q)) 1 6 (fun q : Nat => sz ≤ q) := by
  refine vx_ofW (cc := cX7_firstLacking) (maxL := 7) (ret := (some .int)) (by decide) rfl ?_
  intro p e s m args below meth c s₁ B hml hnt hv
  obtain ⟨rfl, hsz, hP, hK, hE⟩ := hv
  have hx := B.exec
  have hb := B.bytes
  have hr := B.returns
  have hts := atoms_spec (ws := zwX7_firstLacking) B.pre
  have hown : s.vm.findClass RX7 = some m.cls := findClass_of_methodNamed B.named
  have hlocks := B.notSynchronized
  subst hsz
  have hA : ∀ q : Nat, s.heap.size ≤ q → s.heap.size ≤ q := fun _ h => h
  have hS : va_S (fun q : Nat => s.heap.size ≤ q) s.heap s.heap [] := va_S.rf
  have hl := lv_entry ([.ref x, .int a]) (n := 7) (Nat.le_of_ble_eq_true rfl)
  rw [lg_entry_eq]
  generalize (lg_sl ([.ref x, .int a]) ++ List.replicate (7 - (lg_sl ([.ref x, .int a])).length) Slot.unset).toArray = ls at hl ⊢
  have hl : lv_has ls 7 [(0, .ref x), (1, .int a)] := hl
  refine lv_aload_n hx hb dX7_firstLacking_0 rfl (lv_at hl 0 rfl) ?_
  refine lv_iload_n hx hb dX7_firstLacking_1 rfl (lv_at hl 1 rfl) ?_
  refine vx_calli (vx_runV (As := [.int a]) (rest := []) ⟨hx, hb, hml, hown, hts⟩ (c_X7_requireBody l hst dC dI s.heap.size x ax kx a) (cwV 1 hts (goodIn_app (goodIn_of _ (by decide +kernel)) (goodIn_sub ((fun w h => List.mem_cons_of_mem _ (List.mem_append_right _ (h)))) zgX7_requireBody)) rfl rfl rfl (by decide +kernel) ⟨Nat.le_of_ble_eq_true rfl, Nat.le_of_ble_eq_true rfl⟩) ⟨xPc_blind, va_recv hK hP (ci := 10) (q0 := 0) rfl rfl, xPc_pass hP hK hE hS (fun q h => hA q (Nat.le_trans hS.1 h))⟩ rfl rfl hl.1 rfl (lv_room (Nat.le_of_ble_eq_true rfl)) dX7_firstLacking_2 ⟨Nat.le_of_ble_eq_true rfl, Nat.le_of_ble_eq_true rfl⟩) hS (fun q _ h => hA q (Nat.le_trans hS.1 h)) (fun q h => hA q (Nat.le_trans hS.1 h)) (fun q _ h => hA q (Nat.le_trans hS.1 h)) (fun E ce q9 _ t H locs ht hvm hpx hBX hz hk hS hcell hv hcl => ?_) (fun r_1 u t H locs ht hvm hw hB hz hk hS => ?_)
  · have hBX : E = "java/lang/IndexOutOfBoundsException" := hBX
    subst hBX
    exact zOut (px := True) (E := "java/lang/IndexOutOfBoundsException") hnt hlocks hcell hv hcl hS trivial hS.2.2 (Nat.le_of_ble_eq_true rfl) (Nat.le_of_ble_eq_true rfl)
  have hP := zkn hP hk
  exact hw.elim

def zwX7_measure : List Cond := .code yX7_measure cX7_measure 3 (some .int) :: (([.methodLink RX7 308 yX7_requireBody, .instanceMethod yX7_requireBody, .selects RX7 yX7_requireBody yX7_requireBody, .initialized RX7] : List Cond) ++ (zwX7_requireBody))
theorem zgX7_measure : zwX7_measure.all goodWord = true := zgo rfl (zga (by decide +kernel) (zgX7_requireBody))
set_option maxHeartbeats 4000000 in
set_option maxRecDepth 100000 in
theorem c_X7_measure (l : Launch) (hst : l.stackTraces = false) (dC : Nat → ClassId) (dI : Nat → Nat → Nat) (sz : Nat) (x : Nat) (ax : Nat → Nat) (kx : Nat → ClassId) (a : Int32) : vx_Met l yX7_measure zwX7_measure ({ frames := 7, cells := 1, slots := 6, locals := 104 }) (xPc dC dI sz x ax kx [.ref x, .int a]) (va_Qi (fun (r : Int32) (_ : Unit) => False) (fun _ _ => True) (fun q : Nat => sz ≤ q)) (zX (True) "java/lang/IndexOutOfBoundsException" (fun q : Nat => sz ≤ q)) 1 6 (fun q : Nat => sz ≤ q) := by
  refine vx_ofW (cc := cX7_measure) (maxL := 3) (ret := (some .int)) (by decide) rfl ?_
  intro p e s m args below meth c s₁ B hml hnt hv
  obtain ⟨rfl, hsz, hP, hK, hE⟩ := hv
  have hx := B.exec
  have hb := B.bytes
  have hr := B.returns
  have hts := atoms_spec (ws := zwX7_measure) B.pre
  have hown : s.vm.findClass RX7 = some m.cls := findClass_of_methodNamed B.named
  have hlocks := B.notSynchronized
  subst hsz
  have hA : ∀ q : Nat, s.heap.size ≤ q → s.heap.size ≤ q := fun _ h => h
  have hS : va_S (fun q : Nat => s.heap.size ≤ q) s.heap s.heap [] := va_S.rf
  have hl := lv_entry ([.ref x, .int a]) (n := 3) (Nat.le_of_ble_eq_true rfl)
  rw [lg_entry_eq]
  generalize (lg_sl ([.ref x, .int a]) ++ List.replicate (3 - (lg_sl ([.ref x, .int a])).length) Slot.unset).toArray = ls at hl ⊢
  have hl : lv_has ls 3 [(0, .ref x), (1, .int a)] := hl
  refine lv_aload_n hx hb dX7_measure_0 rfl (lv_at hl 0 rfl) ?_
  refine lv_iload_n hx hb dX7_measure_1 rfl (lv_at hl 1 rfl) ?_
  refine vx_calli (vx_runV (As := [.int a]) (rest := []) ⟨hx, hb, hml, hown, hts⟩ (c_X7_requireBody l hst dC dI s.heap.size x ax kx a) (cwV 1 hts (goodIn_app (goodIn_of _ (by decide +kernel)) (goodIn_sub ((fun w h => List.mem_cons_of_mem _ (List.mem_append_right _ (h)))) zgX7_requireBody)) rfl rfl rfl (by decide +kernel) ⟨Nat.le_of_ble_eq_true rfl, Nat.le_of_ble_eq_true rfl⟩) ⟨xPc_blind, va_recv hK hP (ci := 10) (q0 := 0) rfl rfl, xPc_pass hP hK hE hS (fun q h => hA q (Nat.le_trans hS.1 h))⟩ rfl rfl hl.1 rfl (lv_room (Nat.le_of_ble_eq_true rfl)) dX7_measure_2 ⟨Nat.le_of_ble_eq_true rfl, Nat.le_of_ble_eq_true rfl⟩) hS (fun q _ h => hA q (Nat.le_trans hS.1 h)) (fun q h => hA q (Nat.le_trans hS.1 h)) (fun q _ h => hA q (Nat.le_trans hS.1 h)) (fun E ce q9 _ t H locs ht hvm hpx hBX hz hk hS hcell hv hcl => ?_) (fun r_1 u t H locs ht hvm hw hB hz hk hS => ?_)
  · have hBX : E = "java/lang/IndexOutOfBoundsException" := hBX
    subst hBX
    exact zOut (px := True) (E := "java/lang/IndexOutOfBoundsException") hnt hlocks hcell hv hcl hS trivial hS.2.2 (Nat.le_of_ble_eq_true rfl) (Nat.le_of_ble_eq_true rfl)
  have hP := zkn hP hk
  exact hw.elim

def zwX7_isLacking : List Cond := .code yX7_isLacking cX7_isLacking 3 (some .boolean) :: (([.methodLink RX7 308 yX7_requireBody, .instanceMethod yX7_requireBody, .selects RX7 yX7_requireBody yX7_requireBody, .initialized RX7] : List Cond) ++ (zwX7_requireBody))
theorem zgX7_isLacking : zwX7_isLacking.all goodWord = true := zgo rfl (zga (by decide +kernel) (zgX7_requireBody))
set_option maxHeartbeats 4000000 in
set_option maxRecDepth 100000 in
theorem c_X7_isLacking (l : Launch) (hst : l.stackTraces = false) (dC : Nat → ClassId) (dI : Nat → Nat → Nat) (sz : Nat) (x : Nat) (ax : Nat → Nat) (kx : Nat → ClassId) (a : Int32) (b : Int32) : vx_Met l yX7_isLacking zwX7_isLacking ({ frames := 7, cells := 1, slots := 6, locals := 104 }) (xPc dC dI sz x ax kx [.ref x, .int a, .int b]) (va_Qi (fun (r : Int32) (_ : Unit) => False) (fun _ _ => True) (fun q : Nat => sz ≤ q)) (zX (True) "java/lang/IndexOutOfBoundsException" (fun q : Nat => sz ≤ q)) 1 6 (fun q : Nat => sz ≤ q) := by
  refine vx_ofW (cc := cX7_isLacking) (maxL := 3) (ret := (some .boolean)) (by decide) rfl ?_
  intro p e s m args below meth c s₁ B hml hnt hv
  obtain ⟨rfl, hsz, hP, hK, hE⟩ := hv
  have hx := B.exec
  have hb := B.bytes
  have hr := B.returns
  have hts := atoms_spec (ws := zwX7_isLacking) B.pre
  have hown : s.vm.findClass RX7 = some m.cls := findClass_of_methodNamed B.named
  have hlocks := B.notSynchronized
  subst hsz
  have hA : ∀ q : Nat, s.heap.size ≤ q → s.heap.size ≤ q := fun _ h => h
  have hS : va_S (fun q : Nat => s.heap.size ≤ q) s.heap s.heap [] := va_S.rf
  have hl := lv_entry ([.ref x, .int a, .int b]) (n := 3) (Nat.le_of_ble_eq_true rfl)
  rw [lg_entry_eq]
  generalize (lg_sl ([.ref x, .int a, .int b]) ++ List.replicate (3 - (lg_sl ([.ref x, .int a, .int b])).length) Slot.unset).toArray = ls at hl ⊢
  have hl : lv_has ls 3 [(0, .ref x), (1, .int a), (2, .int b)] := hl
  refine lv_aload_n hx hb dX7_isLacking_0 rfl (lv_at hl 0 rfl) ?_
  refine lv_iload_n hx hb dX7_isLacking_1 rfl (lv_at hl 1 rfl) ?_
  refine vx_calli (vx_runV (As := [.int a]) (rest := []) ⟨hx, hb, hml, hown, hts⟩ (c_X7_requireBody l hst dC dI s.heap.size x ax kx a) (cwV 1 hts (goodIn_app (goodIn_of _ (by decide +kernel)) (goodIn_sub ((fun w h => List.mem_cons_of_mem _ (List.mem_append_right _ (h)))) zgX7_requireBody)) rfl rfl rfl (by decide +kernel) ⟨Nat.le_of_ble_eq_true rfl, Nat.le_of_ble_eq_true rfl⟩) ⟨xPc_blind, va_recv hK hP (ci := 10) (q0 := 0) rfl rfl, xPc_pass hP hK hE hS (fun q h => hA q (Nat.le_trans hS.1 h))⟩ rfl rfl hl.1 rfl (lv_room (Nat.le_of_ble_eq_true rfl)) dX7_isLacking_2 ⟨Nat.le_of_ble_eq_true rfl, Nat.le_of_ble_eq_true rfl⟩) hS (fun q _ h => hA q (Nat.le_trans hS.1 h)) (fun q h => hA q (Nat.le_trans hS.1 h)) (fun q _ h => hA q (Nat.le_trans hS.1 h)) (fun E ce q9 _ t H locs ht hvm hpx hBX hz hk hS hcell hv hcl => ?_) (fun r_1 u t H locs ht hvm hw hB hz hk hS => ?_)
  · have hBX : E = "java/lang/IndexOutOfBoundsException" := hBX
    subst hBX
    exact zOut (px := True) (E := "java/lang/IndexOutOfBoundsException") hnt hlocks hcell hv hcl hS trivial hS.2.2 (Nat.le_of_ble_eq_true rfl) (Nat.le_of_ble_eq_true rfl)
  have hP := zkn hP hk
  exact hw.elim

def zwX7_mend : List Cond := .code yX7_mend cX7_mend 5 (some .int) :: (([.methodLink RX7 308 yX7_requireBody, .instanceMethod yX7_requireBody, .selects RX7 yX7_requireBody yX7_requireBody, .initialized RX7] : List Cond) ++ (zwX7_requireBody))
theorem zgX7_mend : zwX7_mend.all goodWord = true := zgo rfl (zga (by decide +kernel) (zgX7_requireBody))
set_option maxHeartbeats 4000000 in
set_option maxRecDepth 100000 in
theorem c_X7_mend (l : Launch) (hst : l.stackTraces = false) (dC : Nat → ClassId) (dI : Nat → Nat → Nat) (sz : Nat) (x : Nat) (ax : Nat → Nat) (kx : Nat → ClassId) (a : Int32) (b : Int32) : vx_Met l yX7_mend zwX7_mend ({ frames := 7, cells := 1, slots := 6, locals := 104 }) (xPc dC dI sz x ax kx [.ref x, .int a, .int b]) (va_Qi (fun (r : Int32) (_ : Unit) => False) (fun _ _ => True) (fun q : Nat => sz ≤ q)) (zX (True) "java/lang/IndexOutOfBoundsException" (fun q : Nat => sz ≤ q)) 1 6 (fun q : Nat => sz ≤ q) := by
  refine vx_ofW (cc := cX7_mend) (maxL := 5) (ret := (some .int)) (by decide) rfl ?_
  intro p e s m args below meth c s₁ B hml hnt hv
  obtain ⟨rfl, hsz, hP, hK, hE⟩ := hv
  have hx := B.exec
  have hb := B.bytes
  have hr := B.returns
  have hts := atoms_spec (ws := zwX7_mend) B.pre
  have hown : s.vm.findClass RX7 = some m.cls := findClass_of_methodNamed B.named
  have hlocks := B.notSynchronized
  subst hsz
  have hA : ∀ q : Nat, s.heap.size ≤ q → s.heap.size ≤ q := fun _ h => h
  have hS : va_S (fun q : Nat => s.heap.size ≤ q) s.heap s.heap [] := va_S.rf
  have hl := lv_entry ([.ref x, .int a, .int b]) (n := 5) (Nat.le_of_ble_eq_true rfl)
  rw [lg_entry_eq]
  generalize (lg_sl ([.ref x, .int a, .int b]) ++ List.replicate (5 - (lg_sl ([.ref x, .int a, .int b])).length) Slot.unset).toArray = ls at hl ⊢
  have hl : lv_has ls 5 [(0, .ref x), (1, .int a), (2, .int b)] := hl
  refine lv_aload_n hx hb dX7_mend_0 rfl (lv_at hl 0 rfl) ?_
  refine lv_iload_n hx hb dX7_mend_1 rfl (lv_at hl 1 rfl) ?_
  refine vx_calli (vx_runV (As := [.int a]) (rest := []) ⟨hx, hb, hml, hown, hts⟩ (c_X7_requireBody l hst dC dI s.heap.size x ax kx a) (cwV 1 hts (goodIn_app (goodIn_of _ (by decide +kernel)) (goodIn_sub ((fun w h => List.mem_cons_of_mem _ (List.mem_append_right _ (h)))) zgX7_requireBody)) rfl rfl rfl (by decide +kernel) ⟨Nat.le_of_ble_eq_true rfl, Nat.le_of_ble_eq_true rfl⟩) ⟨xPc_blind, va_recv hK hP (ci := 10) (q0 := 0) rfl rfl, xPc_pass hP hK hE hS (fun q h => hA q (Nat.le_trans hS.1 h))⟩ rfl rfl hl.1 rfl (lv_room (Nat.le_of_ble_eq_true rfl)) dX7_mend_2 ⟨Nat.le_of_ble_eq_true rfl, Nat.le_of_ble_eq_true rfl⟩) hS (fun q _ h => hA q (Nat.le_trans hS.1 h)) (fun q h => hA q (Nat.le_trans hS.1 h)) (fun q _ h => hA q (Nat.le_trans hS.1 h)) (fun E ce q9 _ t H locs ht hvm hpx hBX hz hk hS hcell hv hcl => ?_) (fun r_1 u t H locs ht hvm hw hB hz hk hS => ?_)
  · have hBX : E = "java/lang/IndexOutOfBoundsException" := hBX
    subst hBX
    exact zOut (px := True) (E := "java/lang/IndexOutOfBoundsException") hnt hlocks hcell hv hcl hS trivial hS.2.2 (Nat.le_of_ble_eq_true rfl) (Nat.le_of_ble_eq_true rfl)
  have hP := zkn hP hk
  exact hw.elim

def zwX7_maker : List Cond := .code yX7_maker cX7_maker 5 (some .int) :: (([.methodLink RX7 308 yX7_requireBody, .instanceMethod yX7_requireBody, .selects RX7 yX7_requireBody yX7_requireBody, .initialized RX7] : List Cond) ++ (zwX7_requireBody))
theorem zgX7_maker : zwX7_maker.all goodWord = true := zgo rfl (zga (by decide +kernel) (zgX7_requireBody))
set_option maxHeartbeats 4000000 in
set_option maxRecDepth 100000 in
theorem c_X7_maker (l : Launch) (hst : l.stackTraces = false) (dC : Nat → ClassId) (dI : Nat → Nat → Nat) (sz : Nat) (x : Nat) (ax : Nat → Nat) (kx : Nat → ClassId) (a : Int32) (b : Int32) : vx_Met l yX7_maker zwX7_maker ({ frames := 7, cells := 1, slots := 6, locals := 104 }) (xPc dC dI sz x ax kx [.ref x, .int a, .int b]) (va_Qi (fun (r : Int32) (_ : Unit) => False) (fun _ _ => True) (fun q : Nat => sz ≤ q)) (zX (True) "java/lang/IndexOutOfBoundsException" (fun q : Nat => sz ≤ q)) 1 6 (fun q : Nat => sz ≤ q) := by
  refine vx_ofW (cc := cX7_maker) (maxL := 5) (ret := (some .int)) (by decide) rfl ?_
  intro p e s m args below meth c s₁ B hml hnt hv
  obtain ⟨rfl, hsz, hP, hK, hE⟩ := hv
  have hx := B.exec
  have hb := B.bytes
  have hr := B.returns
  have hts := atoms_spec (ws := zwX7_maker) B.pre
  have hown : s.vm.findClass RX7 = some m.cls := findClass_of_methodNamed B.named
  have hlocks := B.notSynchronized
  subst hsz
  have hA : ∀ q : Nat, s.heap.size ≤ q → s.heap.size ≤ q := fun _ h => h
  have hS : va_S (fun q : Nat => s.heap.size ≤ q) s.heap s.heap [] := va_S.rf
  have hl := lv_entry ([.ref x, .int a, .int b]) (n := 5) (Nat.le_of_ble_eq_true rfl)
  rw [lg_entry_eq]
  generalize (lg_sl ([.ref x, .int a, .int b]) ++ List.replicate (5 - (lg_sl ([.ref x, .int a, .int b])).length) Slot.unset).toArray = ls at hl ⊢
  have hl : lv_has ls 5 [(0, .ref x), (1, .int a), (2, .int b)] := hl
  refine lv_aload_n hx hb dX7_maker_0 rfl (lv_at hl 0 rfl) ?_
  refine lv_iload_n hx hb dX7_maker_1 rfl (lv_at hl 1 rfl) ?_
  refine vx_calli (vx_runV (As := [.int a]) (rest := []) ⟨hx, hb, hml, hown, hts⟩ (c_X7_requireBody l hst dC dI s.heap.size x ax kx a) (cwV 1 hts (goodIn_app (goodIn_of _ (by decide +kernel)) (goodIn_sub ((fun w h => List.mem_cons_of_mem _ (List.mem_append_right _ (h)))) zgX7_requireBody)) rfl rfl rfl (by decide +kernel) ⟨Nat.le_of_ble_eq_true rfl, Nat.le_of_ble_eq_true rfl⟩) ⟨xPc_blind, va_recv hK hP (ci := 10) (q0 := 0) rfl rfl, xPc_pass hP hK hE hS (fun q h => hA q (Nat.le_trans hS.1 h))⟩ rfl rfl hl.1 rfl (lv_room (Nat.le_of_ble_eq_true rfl)) dX7_maker_2 ⟨Nat.le_of_ble_eq_true rfl, Nat.le_of_ble_eq_true rfl⟩) hS (fun q _ h => hA q (Nat.le_trans hS.1 h)) (fun q h => hA q (Nat.le_trans hS.1 h)) (fun q _ h => hA q (Nat.le_trans hS.1 h)) (fun E ce q9 _ t H locs ht hvm hpx hBX hz hk hS hcell hv hcl => ?_) (fun r_1 u t H locs ht hvm hw hB hz hk hS => ?_)
  · have hBX : E = "java/lang/IndexOutOfBoundsException" := hBX
    subst hBX
    exact zOut (px := True) (E := "java/lang/IndexOutOfBoundsException") hnt hlocks hcell hv hcl hS trivial hS.2.2 (Nat.le_of_ble_eq_true rfl) (Nat.le_of_ble_eq_true rfl)
  have hP := zkn hP hk
  exact hw.elim

def zwX7_whole : List Cond := .code yX7_whole cX7_whole 6 (some .int) :: (([.fieldLink RX7 33 "Spotbeat" "bodyRow" "[LSpotbeat$Body;"] : List Cond) ++ (wsX70))
theorem zgX7_whole : zwX7_whole.all goodWord = true := zgo rfl (zga (by decide +kernel) (zgcX7))
set_option maxHeartbeats 4000000 in
set_option maxRecDepth 100000 in
theorem c_X7_whole (l : Launch) (dC : Nat → ClassId) (dI : Nat → Nat → Nat) (sz : Nat) (x : Nat) (ax : Nat → Nat) (kx : Nat → ClassId) : Met l yX7_whole zwX7_whole ({ frames := 0, cells := 0, slots := 0, locals := 0 }) (xPc dC dI sz x ax kx [.ref x]) (va_Qi (fun (r : Int32) (_ : Unit) => r = 0) (fun _ _ => True) (fun q : Nat => sz ≤ q)) 0 0 (fun q : Nat => sz ≤ q) := by
  refine Met.ofW (cc := cX7_whole) (maxL := 6) (ret := (some .int)) (by decide) rfl ?_
  intro p e s m args below meth c s₁ B hml hv
  obtain ⟨rfl, hsz, hP, hK, hE⟩ := hv
  have hx := B.exec
  have hb := B.bytes
  have hr := B.returns
  have hts := atoms_spec (ws := zwX7_whole) B.pre
  have hown : s.vm.findClass RX7 = some m.cls := findClass_of_methodNamed B.named
  have hlocks := B.notSynchronized
  subst hsz
  have hA : ∀ q : Nat, s.heap.size ≤ q → s.heap.size ≤ q := fun _ h => h
  have hS : va_S (fun q : Nat => s.heap.size ≤ q) s.heap s.heap [] := va_S.rf
  have hl := lv_entry ([.ref x]) (n := 6) (Nat.le_of_ble_eq_true rfl)
  rw [lg_entry_eq]
  generalize (lg_sl ([.ref x]) ++ List.replicate (6 - (lg_sl ([.ref x])).length) Slot.unset).toArray = ls at hl ⊢
  have hl : lv_has ls 6 [(0, .ref x)] := hl
  refine lv_iconst (v := 0) hx hb dX7_whole_0 (by decide) ?_
  refine lv_istore_n (lv' := [(1, .int 0), (0, .ref x)]) hx hb dX7_whole_1 rfl hl (by decide) rfl (fun ls hl => ?_)
  refine lv_aload_n hx hb dX7_whole_2 rfl (lv_at hl 1 rfl) ?_
  refine va_get (D := (dC, dI)) (ci := 10) (v := .ref (ax 4)) (C := RX7) (T := TX7) (N := 12) hx hb hts (fun w h => List.mem_cons_of_mem _ (List.mem_append_right _ (h))) hown hK hP 0 rfl rfl 4 (by decide) (hts (.fieldLink RX7 33 "Spotbeat" "bodyRow" "[LSpotbeat$Body;") (by decide +kernel)) (fun _ h9 => h9) rfl dX7_whole_3 ?_
  refine lv_astore_n (lv' := [(2, .ref (ax 4)), (1, .int 0), (0, .ref x)]) hx hb dX7_whole_6 rfl hl (by decide) rfl (fun ls hl => ?_)
  refine lv_aload_n hx hb dX7_whole_7 rfl (lv_at hl 0 rfl) ?_
  refine va_alen (v := 40) hx hb hK hP 5 4 rfl rfl rfl dX7_whole_8 ?_
  refine lv_istore_n (lv' := [(3, .int 40), (2, .ref (ax 4)), (1, .int 0), (0, .ref x)]) hx hb dX7_whole_9 rfl hl (by decide) rfl (fun ls hl => ?_)
  refine lv_iconst (v := 0) hx hb dX7_whole_10 (by decide) ?_
  refine lv_istore (lv' := [(4, .int 0), (3, .int 40), (2, .ref (ax 4)), (1, .int 0), (0, .ref x)]) hx hb dX7_whole_11 hl (by decide) rfl (fun ls hl => ?_)
  refine zloop (N := 40) (fun i H locs ls => va_P (dC, dI) vwCl (xW x ax kx) H ∧ va_S (fun q : Nat => s.heap.size ≤ q) s.heap H locs ∧ lv_has ls 6 [(4, .int (nI i)), (3, .int 40), (2, .ref (ax 4)), (1, .int 0), (0, .ref x)]) (fun i H locs ls hiN hI next0 => ?_) 0 _ _ _ (Nat.zero_le _) ⟨hP, hS, hl⟩
  obtain ⟨hP, hS, hl⟩ := hI
  refine lv_iload hx hb dX7_whole_13 (lv_at hl 0 rfl) ?_
  refine lv_iload_n hx hb dX7_whole_15 rfl (lv_at hl 1 rfl) ?_
  refine lv_icmp_ge (tgt := 58) hx hb dX7_whole_16 (by decide) (fun c_1 => ?_) (fun c_1 => ?_)
  · refine lv_iload_n hx hb dX7_whole_58 rfl (lv_at hl 3 rfl) ?_
    refine W.widen (k := 0) (n := 0) (Nat.le_of_ble_eq_true rfl) (Nat.le_of_ble_eq_true rfl) ?_
    exact W.iret (v := 0) hx hb hr (fun t ht hW => ⟨⟨0, (), rfl, rfl, trivial⟩, hS.F ht⟩) hS.2.2 dX7_whole_59
  · have hlt0 : i < 40 := by
      rcases Nat.lt_or_ge i 40 with q | q
      · exact q
      · exact absurd (nI_le q (by omega)) c_1
    have next0 := next0 hlt0
    refine lv_aload_n hx hb dX7_whole_19 rfl (lv_at hl 2 rfl) ?_
    refine lv_iload hx hb dX7_whole_20 (lv_at hl 0 rfl) ?_
    refine va_aldq hx hb hK hP 5 4 rfl rfl (vp_in_nI hlt0 (by decide)) dX7_whole_22 ?_
    refine W.eq (g2 := F0 m 23 ls [.null]) rfl ?_
    refine lv_astoreN (lv' := [(5, .null), (4, .int (nI i)), (3, .int 40), (2, .ref (ax 4)), (1, .int 0), (0, .ref x)]) hx hb dX7_whole_23 hl (by decide) rfl (fun ls hl => ?_)
    refine lv_aloadN hx hb dX7_whole_25 (lv_at hl 0 rfl) ?_
    refine lv_ifnullN (tgt := 52) hx hb dX7_whole_27 (by decide) ?_
    refine lv_iinc (v := nI (i + 1)) (lv' := [(4, .int (nI (i + 1))), (5, .null), (3, .int 40), (2, .ref (ax 4)), (1, .int 0), (0, .ref x)]) hx hb dX7_whole_52 hl (k := 1) rfl ((rfl : nI i + Int32.ofInt 1 = nI i + 1).trans (nI_1 i)) (by decide) rfl (fun ls hl => ?_)
    refine lv_goto (tgt := 13) hx hb dX7_whole_55 (by decide) ?_
    exact next0 _ _ _ ⟨hP, hS, lv_sub hl [0, 2, 3, 4, 5] rfl⟩

def zwX7_offset : List Cond := .code yX7_offset cX7_offset 5 (some .int) :: (([.methodLink RX7 118 yX7_requireStation, .instanceMethod yX7_requireStation, .selects RX7 yX7_requireStation yX7_requireStation, .initialized RX7] : List Cond) ++ (zwX7_requireStation))
theorem zgX7_offset : zwX7_offset.all goodWord = true := zgo rfl (zga (by decide +kernel) (zgX7_requireStation))
set_option maxHeartbeats 4000000 in
set_option maxRecDepth 100000 in
theorem c_X7_offset (l : Launch) (hst : l.stackTraces = false) (dC : Nat → ClassId) (dI : Nat → Nat → Nat) (sz : Nat) (x : Nat) (ax : Nat → Nat) (kx : Nat → ClassId) (a : Int32) (b : Int32) : vx_Met l yX7_offset zwX7_offset ({ frames := 7, cells := 1, slots := 6, locals := 104 }) (xPc dC dI sz x ax kx [.ref x, .int a, .int b]) (va_Qi (fun (r : Int32) (_ : Unit) => False) (fun _ _ => True) (fun q : Nat => sz ≤ q)) (zX (True) "java/lang/IndexOutOfBoundsException" (fun q : Nat => sz ≤ q)) 1 6 (fun q : Nat => sz ≤ q) := by
  refine vx_ofW (cc := cX7_offset) (maxL := 5) (ret := (some .int)) (by decide) rfl ?_
  intro p e s m args below meth c s₁ B hml hnt hv
  obtain ⟨rfl, hsz, hP, hK, hE⟩ := hv
  have hx := B.exec
  have hb := B.bytes
  have hr := B.returns
  have hts := atoms_spec (ws := zwX7_offset) B.pre
  have hown : s.vm.findClass RX7 = some m.cls := findClass_of_methodNamed B.named
  have hlocks := B.notSynchronized
  subst hsz
  have hA : ∀ q : Nat, s.heap.size ≤ q → s.heap.size ≤ q := fun _ h => h
  have hS : va_S (fun q : Nat => s.heap.size ≤ q) s.heap s.heap [] := va_S.rf
  have hl := lv_entry ([.ref x, .int a, .int b]) (n := 5) (Nat.le_of_ble_eq_true rfl)
  rw [lg_entry_eq]
  generalize (lg_sl ([.ref x, .int a, .int b]) ++ List.replicate (5 - (lg_sl ([.ref x, .int a, .int b])).length) Slot.unset).toArray = ls at hl ⊢
  have hl : lv_has ls 5 [(0, .ref x), (1, .int a), (2, .int b)] := hl
  refine lv_aload_n hx hb dX7_offset_0 rfl (lv_at hl 0 rfl) ?_
  refine lv_iload_n hx hb dX7_offset_1 rfl (lv_at hl 1 rfl) ?_
  refine vx_calli (vx_runV (As := [.int a]) (rest := []) ⟨hx, hb, hml, hown, hts⟩ (c_X7_requireStation l hst dC dI s.heap.size x ax kx a) (cwV 1 hts (goodIn_app (goodIn_of _ (by decide +kernel)) (goodIn_sub ((fun w h => List.mem_cons_of_mem _ (List.mem_append_right _ (h)))) zgX7_requireStation)) rfl rfl rfl (by decide +kernel) ⟨Nat.le_of_ble_eq_true rfl, Nat.le_of_ble_eq_true rfl⟩) ⟨xPc_blind, va_recv hK hP (ci := 10) (q0 := 0) rfl rfl, xPc_pass hP hK hE hS (fun q h => hA q (Nat.le_trans hS.1 h))⟩ rfl rfl hl.1 rfl (lv_room (Nat.le_of_ble_eq_true rfl)) dX7_offset_2 ⟨Nat.le_of_ble_eq_true rfl, Nat.le_of_ble_eq_true rfl⟩) hS (fun q _ h => hA q (Nat.le_trans hS.1 h)) (fun q h => hA q (Nat.le_trans hS.1 h)) (fun q _ h => hA q (Nat.le_trans hS.1 h)) (fun E ce q9 _ t H locs ht hvm hpx hBX hz hk hS hcell hv hcl => ?_) (fun r_1 u t H locs ht hvm hw hB hz hk hS => ?_)
  · have hBX : E = "java/lang/IndexOutOfBoundsException" := hBX
    subst hBX
    exact zOut (px := True) (E := "java/lang/IndexOutOfBoundsException") hnt hlocks hcell hv hcl hS trivial hS.2.2 (Nat.le_of_ble_eq_true rfl) (Nat.le_of_ble_eq_true rfl)
  have hP := zkn hP hk
  exact hw.elim

def zwX7_feedBack : List Cond := .code yX7_feedBack cX7_feedBack 5 (some .int) :: (([.methodLink RX7 118 yX7_requireStation, .instanceMethod yX7_requireStation, .selects RX7 yX7_requireStation yX7_requireStation, .initialized RX7] : List Cond) ++ (zwX7_requireStation))
theorem zgX7_feedBack : zwX7_feedBack.all goodWord = true := zgo rfl (zga (by decide +kernel) (zgX7_requireStation))
set_option maxHeartbeats 4000000 in
set_option maxRecDepth 100000 in
theorem c_X7_feedBack (l : Launch) (hst : l.stackTraces = false) (dC : Nat → ClassId) (dI : Nat → Nat → Nat) (sz : Nat) (x : Nat) (ax : Nat → Nat) (kx : Nat → ClassId) (a : Int32) (b : Int32) : vx_Met l yX7_feedBack zwX7_feedBack ({ frames := 7, cells := 1, slots := 6, locals := 104 }) (xPc dC dI sz x ax kx [.ref x, .int a, .int b]) (va_Qi (fun (r : Int32) (_ : Unit) => False) (fun _ _ => True) (fun q : Nat => sz ≤ q)) (zX (True) "java/lang/IndexOutOfBoundsException" (fun q : Nat => sz ≤ q)) 1 6 (fun q : Nat => sz ≤ q) := by
  refine vx_ofW (cc := cX7_feedBack) (maxL := 5) (ret := (some .int)) (by decide) rfl ?_
  intro p e s m args below meth c s₁ B hml hnt hv
  obtain ⟨rfl, hsz, hP, hK, hE⟩ := hv
  have hx := B.exec
  have hb := B.bytes
  have hr := B.returns
  have hts := atoms_spec (ws := zwX7_feedBack) B.pre
  have hown : s.vm.findClass RX7 = some m.cls := findClass_of_methodNamed B.named
  have hlocks := B.notSynchronized
  subst hsz
  have hA : ∀ q : Nat, s.heap.size ≤ q → s.heap.size ≤ q := fun _ h => h
  have hS : va_S (fun q : Nat => s.heap.size ≤ q) s.heap s.heap [] := va_S.rf
  have hl := lv_entry ([.ref x, .int a, .int b]) (n := 5) (Nat.le_of_ble_eq_true rfl)
  rw [lg_entry_eq]
  generalize (lg_sl ([.ref x, .int a, .int b]) ++ List.replicate (5 - (lg_sl ([.ref x, .int a, .int b])).length) Slot.unset).toArray = ls at hl ⊢
  have hl : lv_has ls 5 [(0, .ref x), (1, .int a), (2, .int b)] := hl
  refine lv_aload_n hx hb dX7_feedBack_0 rfl (lv_at hl 0 rfl) ?_
  refine lv_iload_n hx hb dX7_feedBack_1 rfl (lv_at hl 1 rfl) ?_
  refine vx_calli (vx_runV (As := [.int a]) (rest := []) ⟨hx, hb, hml, hown, hts⟩ (c_X7_requireStation l hst dC dI s.heap.size x ax kx a) (cwV 1 hts (goodIn_app (goodIn_of _ (by decide +kernel)) (goodIn_sub ((fun w h => List.mem_cons_of_mem _ (List.mem_append_right _ (h)))) zgX7_requireStation)) rfl rfl rfl (by decide +kernel) ⟨Nat.le_of_ble_eq_true rfl, Nat.le_of_ble_eq_true rfl⟩) ⟨xPc_blind, va_recv hK hP (ci := 10) (q0 := 0) rfl rfl, xPc_pass hP hK hE hS (fun q h => hA q (Nat.le_trans hS.1 h))⟩ rfl rfl hl.1 rfl (lv_room (Nat.le_of_ble_eq_true rfl)) dX7_feedBack_2 ⟨Nat.le_of_ble_eq_true rfl, Nat.le_of_ble_eq_true rfl⟩) hS (fun q _ h => hA q (Nat.le_trans hS.1 h)) (fun q h => hA q (Nat.le_trans hS.1 h)) (fun q _ h => hA q (Nat.le_trans hS.1 h)) (fun E ce q9 _ t H locs ht hvm hpx hBX hz hk hS hcell hv hcl => ?_) (fun r_1 u t H locs ht hvm hw hB hz hk hS => ?_)
  · have hBX : E = "java/lang/IndexOutOfBoundsException" := hBX
    subst hBX
    exact zOut (px := True) (E := "java/lang/IndexOutOfBoundsException") hnt hlocks hcell hv hcl hS trivial hS.2.2 (Nat.le_of_ble_eq_true rfl) (Nat.le_of_ble_eq_true rfl)
  have hP := zkn hP hk
  exact hw.elim

def zwX7_checksum : List Cond := .code yX7_checksum cX7_checksum 7 (some .long) :: (([.constantLong RX7 443 (7), .fieldLink RX7 33 "Spotbeat" "bodyRow" "[LSpotbeat$Body;"] : List Cond) ++ (wsX70))
theorem zgX7_checksum : zwX7_checksum.all goodWord = true := zgo rfl (zga (by decide +kernel) (zgcX7))
set_option maxHeartbeats 4000000 in
set_option maxRecDepth 100000 in
theorem c_X7_checksum (l : Launch) (dC : Nat → ClassId) (dI : Nat → Nat → Nat) (sz : Nat) (x : Nat) (ax : Nat → Nat) (kx : Nat → ClassId) : Met l yX7_checksum zwX7_checksum ({ frames := 0, cells := 0, slots := 0, locals := 0 }) (xPc dC dI sz x ax kx [.ref x]) (va_Ql (fun (r : Int64) (_ : Unit) => r = 7) (fun _ _ => True) (fun q : Nat => sz ≤ q)) 0 0 (fun q : Nat => sz ≤ q) := by
  refine Met.ofW (cc := cX7_checksum) (maxL := 7) (ret := (some .long)) (by decide) rfl ?_
  intro p e s m args below meth c s₁ B hml hv
  obtain ⟨rfl, hsz, hP, hK, hE⟩ := hv
  have hx := B.exec
  have hb := B.bytes
  have hr := B.returns
  have hts := atoms_spec (ws := zwX7_checksum) B.pre
  have hown : s.vm.findClass RX7 = some m.cls := findClass_of_methodNamed B.named
  have hlocks := B.notSynchronized
  subst hsz
  have hA : ∀ q : Nat, s.heap.size ≤ q → s.heap.size ≤ q := fun _ h => h
  have hS : va_S (fun q : Nat => s.heap.size ≤ q) s.heap s.heap [] := va_S.rf
  have hl := lv_entry ([.ref x]) (n := 7) (Nat.le_of_ble_eq_true rfl)
  rw [lg_entry_eq]
  generalize (lg_sl ([.ref x]) ++ List.replicate (7 - (lg_sl ([.ref x])).length) Slot.unset).toArray = ls at hl ⊢
  have hl : lv_has ls 7 [(0, .ref x)] := hl
  refine lv_ldc2 (own := RX7) (v := 7) hx hb hown (hts (.constantLong RX7 443 (7)) (by decide +kernel)) dX7_checksum_0 ?_
  refine lv_lstore_n (lv' := [(1, .long 7), (0, .ref x)]) hx hb dX7_checksum_3 rfl hl (by decide) rfl (fun ls hl => ?_)
  refine lv_aload_n hx hb dX7_checksum_4 rfl (lv_at hl 1 rfl) ?_
  refine va_get (D := (dC, dI)) (ci := 10) (v := .ref (ax 4)) (C := RX7) (T := TX7) (N := 12) hx hb hts (fun w h => List.mem_cons_of_mem _ (List.mem_append_right _ (h))) hown hK hP 0 rfl rfl 4 (by decide) (hts (.fieldLink RX7 33 "Spotbeat" "bodyRow" "[LSpotbeat$Body;") (by decide +kernel)) (fun _ h9 => h9) rfl dX7_checksum_5 ?_
  refine lv_astore_n (lv' := [(3, .ref (ax 4)), (1, .long 7), (0, .ref x)]) hx hb dX7_checksum_8 rfl hl (by decide) rfl (fun ls hl => ?_)
  refine lv_aload_n hx hb dX7_checksum_9 rfl (lv_at hl 0 rfl) ?_
  refine va_alen (v := 40) hx hb hK hP 5 4 rfl rfl rfl dX7_checksum_10 ?_
  refine lv_istore (lv' := [(4, .int 40), (3, .ref (ax 4)), (1, .long 7), (0, .ref x)]) hx hb dX7_checksum_11 hl (by decide) rfl (fun ls hl => ?_)
  refine lv_iconst (v := 0) hx hb dX7_checksum_13 (by decide) ?_
  refine lv_istore (lv' := [(5, .int 0), (4, .int 40), (3, .ref (ax 4)), (1, .long 7), (0, .ref x)]) hx hb dX7_checksum_14 hl (by decide) rfl (fun ls hl => ?_)
  refine zloop (N := 40) (fun i H locs ls => va_P (dC, dI) vwCl (xW x ax kx) H ∧ va_S (fun q : Nat => s.heap.size ≤ q) s.heap H locs ∧ lv_has ls 7 [(5, .int (nI i)), (4, .int 40), (3, .ref (ax 4)), (1, .long 7), (0, .ref x)]) (fun i H locs ls hiN hI next0 => ?_) 0 _ _ _ (Nat.zero_le _) ⟨hP, hS, hl⟩
  obtain ⟨hP, hS, hl⟩ := hI
  refine lv_iload hx hb dX7_checksum_16 (lv_at hl 0 rfl) ?_
  refine lv_iload hx hb dX7_checksum_18 (lv_at hl 1 rfl) ?_
  refine lv_icmp_ge (tgt := 68) hx hb dX7_checksum_20 (by decide) (fun c_1 => ?_) (fun c_1 => ?_)
  · refine lv_lload_n hx hb dX7_checksum_68 rfl (lv_at hl 3 rfl) ?_
    refine W.widen (k := 0) (n := 0) (Nat.le_of_ble_eq_true rfl) (Nat.le_of_ble_eq_true rfl) ?_
    exact W.lret (v := 7) hx hb hr (fun t ht hW => ⟨⟨7, (), rfl, rfl, trivial⟩, hS.F ht⟩) hS.2.2 dX7_checksum_69
  · have hlt0 : i < 40 := by
      rcases Nat.lt_or_ge i 40 with q | q
      · exact q
      · exact absurd (nI_le q (by omega)) c_1
    have next0 := next0 hlt0
    refine lv_aload_n hx hb dX7_checksum_23 rfl (lv_at hl 2 rfl) ?_
    refine lv_iload hx hb dX7_checksum_24 (lv_at hl 0 rfl) ?_
    refine va_aldq hx hb hK hP 5 4 rfl rfl (vp_in_nI hlt0 (by decide)) dX7_checksum_26 ?_
    refine W.eq (g2 := F0 m 27 ls [.null]) rfl ?_
    refine lv_astoreN (lv' := [(6, .null), (5, .int (nI i)), (4, .int 40), (3, .ref (ax 4)), (1, .long 7), (0, .ref x)]) hx hb dX7_checksum_27 hl (by decide) rfl (fun ls hl => ?_)
    refine lv_aloadN hx hb dX7_checksum_29 (lv_at hl 0 rfl) ?_
    refine lv_ifnullN (tgt := 62) hx hb dX7_checksum_31 (by decide) ?_
    refine lv_iinc (v := nI (i + 1)) (lv' := [(5, .int (nI (i + 1))), (6, .null), (4, .int 40), (3, .ref (ax 4)), (1, .long 7), (0, .ref x)]) hx hb dX7_checksum_62 hl (k := 1) rfl ((rfl : nI i + Int32.ofInt 1 = nI i + 1).trans (nI_1 i)) (by decide) rfl (fun ls hl => ?_)
    refine lv_goto (tgt := 16) hx hb dX7_checksum_65 (by decide) ?_
    exact next0 _ _ _ ⟨hP, hS, lv_sub hl [0, 2, 3, 4, 5] rfl⟩

def zwX7_wholeShare : List Cond := .code yX7_wholeShare cX7_wholeShare 2 (some .float) :: (([.methodLink RX7 314 yX7_countAt, .instanceMethod yX7_countAt, .selects RX7 yX7_countAt yX7_countAt, .initialized RX7] : List Cond) ++ (zwX7_countAt))
theorem zgX7_wholeShare : zwX7_wholeShare.all goodWord = true := zgo rfl (zga (by decide +kernel) (zgX7_countAt))
set_option maxHeartbeats 4000000 in
set_option maxRecDepth 100000 in
theorem c_X7_wholeShare (l : Launch) (hst : l.stackTraces = false) (dC : Nat → ClassId) (dI : Nat → Nat → Nat) (sz : Nat) (x : Nat) (ax : Nat → Nat) (kx : Nat → ClassId) : vx_Met l yX7_wholeShare zwX7_wholeShare ({ frames := 6, cells := 1, slots := 6, locals := 82 }) (xPc dC dI sz x ax kx [.ref x]) (va_Qi (fun (r : Int32) (_ : Unit) => False) (fun _ _ => True) (fun q : Nat => sz ≤ q)) (zX (True) "java/util/NoSuchElementException" (fun q : Nat => sz ≤ q)) 1 6 (fun q : Nat => sz ≤ q) := by
  refine vx_ofW (cc := cX7_wholeShare) (maxL := 2) (ret := (some .float)) (by decide) rfl ?_
  intro p e s m args below meth c s₁ B hml hnt hv
  obtain ⟨rfl, hsz, hP, hK, hE⟩ := hv
  have hx := B.exec
  have hb := B.bytes
  have hr := B.returns
  have hts := atoms_spec (ws := zwX7_wholeShare) B.pre
  have hown : s.vm.findClass RX7 = some m.cls := findClass_of_methodNamed B.named
  have hlocks := B.notSynchronized
  subst hsz
  have hA : ∀ q : Nat, s.heap.size ≤ q → s.heap.size ≤ q := fun _ h => h
  have hS : va_S (fun q : Nat => s.heap.size ≤ q) s.heap s.heap [] := va_S.rf
  have hl := lv_entry ([.ref x]) (n := 2) (Nat.le_of_ble_eq_true rfl)
  rw [lg_entry_eq]
  generalize (lg_sl ([.ref x]) ++ List.replicate (2 - (lg_sl ([.ref x])).length) Slot.unset).toArray = ls at hl ⊢
  have hl : lv_has ls 2 [(0, .ref x)] := hl
  refine lv_aload_n hx hb dX7_wholeShare_0 rfl (lv_at hl 0 rfl) ?_
  refine lv_bipush (v := (-2)) hx hb dX7_wholeShare_1 (by decide) ?_
  refine va_calli (va_runV (As := [.int (-2)]) (rest := []) ⟨hx, hb, hml, hown, hts⟩ (c_X7_countAt l dC dI s.heap.size x ax kx (-2)) (cwV 1 hts (goodIn_app (goodIn_of _ (by decide +kernel)) (goodIn_sub ((fun w h => List.mem_cons_of_mem _ (List.mem_append_right _ (h)))) zgX7_countAt)) rfl rfl rfl (by decide +kernel) ⟨Nat.le_of_ble_eq_true rfl, Nat.le_of_ble_eq_true rfl⟩) ⟨xPc_blind, va_recv hK hP (ci := 10) (q0 := 0) rfl rfl, xPc_pass hP hK hE hS (fun q h => hA q (Nat.le_trans hS.1 h))⟩ rfl rfl hl.1 rfl (lv_room (Nat.le_of_ble_eq_true rfl)) dX7_wholeShare_3 ⟨Nat.le_of_ble_eq_true rfl, Nat.le_of_ble_eq_true rfl⟩) hS (fun q _ h => hA q (Nat.le_trans hS.1 h)) (fun q h => hA q (Nat.le_trans hS.1 h)) (fun r_1 u t H locs ht hvm hw hB hz hk hS => ?_)
  have hP := zkn hP hk
  have hw : r_1 = 0 := hw
  subst hw
  refine lv_istore_n (lv' := [(1, .int 0), (0, .ref x)]) hx hb dX7_wholeShare_6 rfl hl (by decide) rfl (fun ls hl => ?_)
  refine lv_iload_n hx hb dX7_wholeShare_7 rfl (lv_at hl 0 rfl) ?_
  refine lv_if_ne (tgt := 22) hx hb dX7_wholeShare_8 (by decide) (fun c_2 => absurd c_2 (by decide)) (fun _ => ?_)
  sorry

def zwX7_meanMeasure : List Cond := .code yX7_meanMeasure cX7_meanMeasure 7 (some .double) :: (([.methodLink RX7 314 yX7_countAt, .instanceMethod yX7_countAt, .selects RX7 yX7_countAt yX7_countAt, .initialized RX7] : List Cond) ++ (zwX7_countAt))
theorem zgX7_meanMeasure : zwX7_meanMeasure.all goodWord = true := zgo rfl (zga (by decide +kernel) (zgX7_countAt))
set_option maxHeartbeats 4000000 in
set_option maxRecDepth 100000 in
theorem c_X7_meanMeasure (l : Launch) (hst : l.stackTraces = false) (dC : Nat → ClassId) (dI : Nat → Nat → Nat) (sz : Nat) (x : Nat) (ax : Nat → Nat) (kx : Nat → ClassId) : vx_Met l yX7_meanMeasure zwX7_meanMeasure ({ frames := 6, cells := 1, slots := 6, locals := 82 }) (xPc dC dI sz x ax kx [.ref x]) (va_Qi (fun (r : Int32) (_ : Unit) => False) (fun _ _ => True) (fun q : Nat => sz ≤ q)) (zX (True) "java/util/NoSuchElementException" (fun q : Nat => sz ≤ q)) 1 6 (fun q : Nat => sz ≤ q) := by
  refine vx_ofW (cc := cX7_meanMeasure) (maxL := 7) (ret := (some .double)) (by decide) rfl ?_
  intro p e s m args below meth c s₁ B hml hnt hv
  obtain ⟨rfl, hsz, hP, hK, hE⟩ := hv
  have hx := B.exec
  have hb := B.bytes
  have hr := B.returns
  have hts := atoms_spec (ws := zwX7_meanMeasure) B.pre
  have hown : s.vm.findClass RX7 = some m.cls := findClass_of_methodNamed B.named
  have hlocks := B.notSynchronized
  subst hsz
  have hA : ∀ q : Nat, s.heap.size ≤ q → s.heap.size ≤ q := fun _ h => h
  have hS : va_S (fun q : Nat => s.heap.size ≤ q) s.heap s.heap [] := va_S.rf
  have hl := lv_entry ([.ref x]) (n := 7) (Nat.le_of_ble_eq_true rfl)
  rw [lg_entry_eq]
  generalize (lg_sl ([.ref x]) ++ List.replicate (7 - (lg_sl ([.ref x])).length) Slot.unset).toArray = ls at hl ⊢
  have hl : lv_has ls 7 [(0, .ref x)] := hl
  refine lv_aload_n hx hb dX7_meanMeasure_0 rfl (lv_at hl 0 rfl) ?_
  refine lv_bipush (v := (-2)) hx hb dX7_meanMeasure_1 (by decide) ?_
  refine va_calli (va_runV (As := [.int (-2)]) (rest := []) ⟨hx, hb, hml, hown, hts⟩ (c_X7_countAt l dC dI s.heap.size x ax kx (-2)) (cwV 1 hts (goodIn_app (goodIn_of _ (by decide +kernel)) (goodIn_sub ((fun w h => List.mem_cons_of_mem _ (List.mem_append_right _ (h)))) zgX7_countAt)) rfl rfl rfl (by decide +kernel) ⟨Nat.le_of_ble_eq_true rfl, Nat.le_of_ble_eq_true rfl⟩) ⟨xPc_blind, va_recv hK hP (ci := 10) (q0 := 0) rfl rfl, xPc_pass hP hK hE hS (fun q h => hA q (Nat.le_trans hS.1 h))⟩ rfl rfl hl.1 rfl (lv_room (Nat.le_of_ble_eq_true rfl)) dX7_meanMeasure_3 ⟨Nat.le_of_ble_eq_true rfl, Nat.le_of_ble_eq_true rfl⟩) hS (fun q _ h => hA q (Nat.le_trans hS.1 h)) (fun q h => hA q (Nat.le_trans hS.1 h)) (fun r_1 u t H locs ht hvm hw hB hz hk hS => ?_)
  have hP := zkn hP hk
  have hw : r_1 = 0 := hw
  subst hw
  refine lv_istore_n (lv' := [(1, .int 0), (0, .ref x)]) hx hb dX7_meanMeasure_6 rfl hl (by decide) rfl (fun ls hl => ?_)
  refine lv_iload_n hx hb dX7_meanMeasure_7 rfl (lv_at hl 0 rfl) ?_
  refine lv_if_ne (tgt := 22) hx hb dX7_meanMeasure_8 (by decide) (fun c_2 => absurd c_2 (by decide)) (fun _ => ?_)
  sorry

def zwX7_isSound : List Cond := .code yX7_isSound cX7_isSound 1 (some .boolean) :: (([.methodLink RX7 450 yX7_stationsAreSound, .instanceMethod yX7_stationsAreSound, .selects RX7 yX7_stationsAreSound yX7_stationsAreSound, .initialized RX7, .methodLink RX7 453 yX7_orderIsSound, .instanceMethod yX7_orderIsSound, .selects RX7 yX7_orderIsSound yX7_orderIsSound, .methodLink RX7 456 yX7_makersAreSound, .instanceMethod yX7_makersAreSound, .selects RX7 yX7_makersAreSound yX7_makersAreSound] : List Cond) ++ (zwX7_stationsAreSound ++ (zwX7_orderIsSound ++ (zwX7_makersAreSound))))
theorem zgX7_isSound : zwX7_isSound.all goodWord = true := zgo rfl (zga (by decide +kernel) (zga zgX7_stationsAreSound (zga zgX7_orderIsSound (zgX7_makersAreSound))))
set_option maxHeartbeats 4000000 in
set_option maxRecDepth 100000 in
theorem c_X7_isSound (l : Launch) (dC : Nat → ClassId) (dI : Nat → Nat → Nat) (sz : Nat) (x : Nat) (ax : Nat → Nat) (kx : Nat → ClassId) : Met l yX7_isSound zwX7_isSound ({ frames := 1, cells := 0, slots := 0, locals := 28 }) (xPc dC dI sz x ax kx [.ref x]) (va_Qi (fun (r : Int32) (_ : Unit) => r = 1) (fun _ _ => True) (fun q : Nat => sz ≤ q)) 0 0 (fun q : Nat => sz ≤ q) := by
  refine Met.ofW (cc := cX7_isSound) (maxL := 1) (ret := (some .boolean)) (by decide) rfl ?_
  intro p e s m args below meth c s₁ B hml hv
  obtain ⟨rfl, hsz, hP, hK, hE⟩ := hv
  have hx := B.exec
  have hb := B.bytes
  have hr := B.returns
  have hts := atoms_spec (ws := zwX7_isSound) B.pre
  have hown : s.vm.findClass RX7 = some m.cls := findClass_of_methodNamed B.named
  have hlocks := B.notSynchronized
  subst hsz
  have hA : ∀ q : Nat, s.heap.size ≤ q → s.heap.size ≤ q := fun _ h => h
  have hS : va_S (fun q : Nat => s.heap.size ≤ q) s.heap s.heap [] := va_S.rf
  have hl := lv_entry ([.ref x]) (n := 1) (Nat.le_of_ble_eq_true rfl)
  rw [lg_entry_eq]
  generalize (lg_sl ([.ref x]) ++ List.replicate (1 - (lg_sl ([.ref x])).length) Slot.unset).toArray = ls at hl ⊢
  have hl : lv_has ls 1 [(0, .ref x)] := hl
  refine lv_aload_n hx hb dX7_isSound_0 rfl (lv_at hl 0 rfl) ?_
  refine va_calli (va_runV (As := []) (rest := []) ⟨hx, hb, hml, hown, hts⟩ (c_X7_stationsAreSound l dC dI s.heap.size x ax kx) (cwV 0 hts (goodIn_app (goodIn_of _ (by decide +kernel)) (goodIn_sub ((fun w h => List.mem_cons_of_mem _ (List.mem_append_right _ (List.mem_append_left _ h)))) zgX7_stationsAreSound)) rfl rfl rfl (by decide +kernel) ⟨Nat.le_of_ble_eq_true rfl, Nat.le_of_ble_eq_true rfl⟩) ⟨xPc_blind, va_recv hK hP (ci := 10) (q0 := 0) rfl rfl, xPc_pass hP hK hE hS (fun q h => hA q (Nat.le_trans hS.1 h))⟩ rfl rfl hl.1 rfl (lv_room (Nat.le_of_ble_eq_true rfl)) dX7_isSound_1 ⟨Nat.le_of_ble_eq_true rfl, Nat.le_of_ble_eq_true rfl⟩) hS (fun q _ h => hA q (Nat.le_trans hS.1 h)) (fun q h => hA q (Nat.le_trans hS.1 h)) (fun r_1 u t H locs ht hvm hw hB hz hk hS => ?_)
  have hP := zkn hP hk
  have hw : r_1 = 1 := hw
  subst hw
  refine lv_if_eq (tgt := 25) hx hb dX7_isSound_4 (by decide) (fun c_2 => absurd c_2 (by decide)) (fun _ => ?_)
  refine lv_aload_n hx hb dX7_isSound_7 rfl (lv_at hl 0 rfl) ?_
  refine va_calli (va_runV (As := []) (rest := []) ⟨hx, hb, hml, hown, hts⟩ (c_X7_orderIsSound l dC dI H.size x ax kx) (cwV 0 hts (goodIn_app (goodIn_of _ (by decide +kernel)) (goodIn_sub ((fun w h => List.mem_cons_of_mem _ (List.mem_append_right _ (List.mem_append_right _ (List.mem_append_left _ h))))) zgX7_orderIsSound)) rfl rfl rfl (by decide +kernel) ⟨Nat.le_of_ble_eq_true rfl, Nat.le_of_ble_eq_true rfl⟩) ⟨xPc_blind, va_recv hK hP (ci := 10) (q0 := 0) rfl rfl, xPc_pass hP hK hE hS (fun q h => hA q (Nat.le_trans hS.1 h))⟩ rfl rfl hl.1 rfl (lv_room (Nat.le_of_ble_eq_true rfl)) dX7_isSound_8 ⟨Nat.le_of_ble_eq_true rfl, Nat.le_of_ble_eq_true rfl⟩) hS (fun q _ h => hA q (Nat.le_trans hS.1 h)) (fun q h => hA q (Nat.le_trans hS.1 h)) (fun r_3 u t H locs ht hvm hw hB hz hk hS => ?_)
  have hP := zkn hP hk
  have hw : r_3 = 1 := hw
  subst hw
  refine lv_if_eq (tgt := 25) hx hb dX7_isSound_11 (by decide) (fun c_4 => absurd c_4 (by decide)) (fun _ => ?_)
  refine lv_aload_n hx hb dX7_isSound_14 rfl (lv_at hl 0 rfl) ?_
  refine va_calli (va_runV (As := []) (rest := []) ⟨hx, hb, hml, hown, hts⟩ (c_X7_makersAreSound l dC dI H.size x ax kx) (cwV 0 hts (goodIn_app (goodIn_of _ (by decide +kernel)) (goodIn_sub ((fun w h => List.mem_cons_of_mem _ (List.mem_append_right _ (List.mem_append_right _ (List.mem_append_right _ (h)))))) zgX7_makersAreSound)) rfl rfl rfl (by decide +kernel) ⟨Nat.le_of_ble_eq_true rfl, Nat.le_of_ble_eq_true rfl⟩) ⟨xPc_blind, va_recv hK hP (ci := 10) (q0 := 0) rfl rfl, xPc_pass hP hK hE hS (fun q h => hA q (Nat.le_trans hS.1 h))⟩ rfl rfl hl.1 rfl (lv_room (Nat.le_of_ble_eq_true rfl)) dX7_isSound_15 ⟨Nat.le_of_ble_eq_true rfl, Nat.le_of_ble_eq_true rfl⟩) hS (fun q _ h => hA q (Nat.le_trans hS.1 h)) (fun q h => hA q (Nat.le_trans hS.1 h)) (fun r_5 u t H locs ht hvm hw hB hz hk hS => ?_)
  have hP := zkn hP hk
  have hw : r_5 = 1 := hw
  subst hw
  refine lv_if_eq (tgt := 25) hx hb dX7_isSound_18 (by decide) (fun c_6 => absurd c_6 (by decide)) (fun _ => ?_)
  refine lv_iconst (v := 1) hx hb dX7_isSound_21 (by decide) ?_
  refine lv_goto (tgt := 26) hx hb dX7_isSound_22 (by decide) ?_
  refine W.widen (k := 0) (n := 0) (Nat.le_of_ble_eq_true rfl) (Nat.le_of_ble_eq_true rfl) ?_
  exact W.zret (v := 1) hx hb hr (by decide +kernel) (fun t ht hW => ⟨⟨1, (), rfl, rfl, trivial⟩, hS.F ht⟩) hS.2.2 dX7_isSound_26

def zwX7_xOf : List Cond := .code yX7_xOf cX7_xOf 1 (some .int) :: ([] : List Cond)
theorem zgX7_xOf : zwX7_xOf.all goodWord = true := zgo rfl ((by decide +kernel))
set_option maxHeartbeats 4000000 in
set_option maxRecDepth 100000 in
theorem c_X7_xOf (l : Launch) (dC : Nat → ClassId) (dI : Nat → Nat → Nat) (sz : Nat) (v : Int32) : Met l yX7_xOf zwX7_xOf ({ frames := 0, cells := 0, slots := 0, locals := 0 }) (nPc sz [.int v]) (va_Qi (fun (r : Int32) (_ : Unit) => r = v / 10) (fun _ _ => True) (fun q : Nat => sz ≤ q)) 0 0 (fun q : Nat => sz ≤ q) := by
  refine Met.ofW (cc := cX7_xOf) (maxL := 1) (ret := (some .int)) (by decide) rfl ?_
  intro p e s m args below meth c s₁ B hml hv
  obtain ⟨rfl, hsz⟩ := hv
  have hx := B.exec
  have hb := B.bytes
  have hr := B.returns
  have hts := atoms_spec (ws := zwX7_xOf) B.pre
  have hown : s.vm.findClass RX7 = some m.cls := findClass_of_methodNamed B.named
  have hlocks := B.notSynchronized
  subst hsz
  have hA : ∀ q : Nat, s.heap.size ≤ q → s.heap.size ≤ q := fun _ h => h
  have hS : va_S (fun q : Nat => s.heap.size ≤ q) s.heap s.heap [] := va_S.rf
  have hl := lv_entry ([.int v]) (n := 1) (Nat.le_of_ble_eq_true rfl)
  rw [lg_entry_eq]
  generalize (lg_sl ([.int v]) ++ List.replicate (1 - (lg_sl ([.int v])).length) Slot.unset).toArray = ls at hl ⊢
  have hl : lv_has ls 1 [(0, .int v)] := hl
  refine lv_iload_n hx hb dX7_xOf_0 rfl (lv_at hl 0 rfl) ?_
  refine lv_bipush (v := 10) hx hb dX7_xOf_1 (by decide) ?_
  refine lv_idiv hx hb dX7_xOf_3 (by decide) ?_
  refine W.widen (k := 0) (n := 0) (Nat.le_of_ble_eq_true rfl) (Nat.le_of_ble_eq_true rfl) ?_
  exact W.iret (v := (v / 10)) hx hb hr (fun t ht hW => ⟨⟨(v / 10), (), rfl, rfl, trivial⟩, hS.F ht⟩) hS.2.2 dX7_xOf_4

def zwX7_yOf : List Cond := .code yX7_yOf cX7_yOf 1 (some .int) :: ([] : List Cond)
theorem zgX7_yOf : zwX7_yOf.all goodWord = true := zgo rfl ((by decide +kernel))
set_option maxHeartbeats 4000000 in
set_option maxRecDepth 100000 in
theorem c_X7_yOf (l : Launch) (dC : Nat → ClassId) (dI : Nat → Nat → Nat) (sz : Nat) (v : Int32) : Met l yX7_yOf zwX7_yOf ({ frames := 0, cells := 0, slots := 0, locals := 0 }) (nPc sz [.int v]) (va_Qi (fun (r : Int32) (_ : Unit) => r = v - v / 10 * 10) (fun _ _ => True) (fun q : Nat => sz ≤ q)) 0 0 (fun q : Nat => sz ≤ q) := by
  refine Met.ofW (cc := cX7_yOf) (maxL := 1) (ret := (some .int)) (by decide) rfl ?_
  intro p e s m args below meth c s₁ B hml hv
  obtain ⟨rfl, hsz⟩ := hv
  have hx := B.exec
  have hb := B.bytes
  have hr := B.returns
  have hts := atoms_spec (ws := zwX7_yOf) B.pre
  have hown : s.vm.findClass RX7 = some m.cls := findClass_of_methodNamed B.named
  have hlocks := B.notSynchronized
  subst hsz
  have hA : ∀ q : Nat, s.heap.size ≤ q → s.heap.size ≤ q := fun _ h => h
  have hS : va_S (fun q : Nat => s.heap.size ≤ q) s.heap s.heap [] := va_S.rf
  have hl := lv_entry ([.int v]) (n := 1) (Nat.le_of_ble_eq_true rfl)
  rw [lg_entry_eq]
  generalize (lg_sl ([.int v]) ++ List.replicate (1 - (lg_sl ([.int v])).length) Slot.unset).toArray = ls at hl ⊢
  have hl : lv_has ls 1 [(0, .int v)] := hl
  refine lv_iload_n hx hb dX7_yOf_0 rfl (lv_at hl 0 rfl) ?_
  refine lv_bipush (v := 10) hx hb dX7_yOf_1 (by decide) ?_
  refine lv_irem hx hb dX7_yOf_3 (by decide) ?_
  refine W.widen (k := 0) (n := 0) (Nat.le_of_ble_eq_true rfl) (Nat.le_of_ble_eq_true rfl) ?_
  exact W.iret (v := (v - v / 10 * 10)) hx hb hr (fun t ht hW => ⟨⟨(v - v / 10 * 10), (), rfl, rfl, trivial⟩, hS.F ht⟩) hS.2.2 dX7_yOf_4

def zwX7_distance : List Cond := .code yX7_distance cX7_distance 2 (some .int) :: ([] : List Cond)
theorem zgX7_distance : zwX7_distance.all goodWord = true := zgo rfl ((by decide +kernel))
set_option maxHeartbeats 4000000 in
set_option maxRecDepth 100000 in
theorem c_X7_distance (l : Launch) (dC : Nat → ClassId) (dI : Nat → Nat → Nat) (sz : Nat) (a : Int32) (b : Int32) : Met l yX7_distance zwX7_distance ({ frames := 0, cells := 0, slots := 0, locals := 0 }) (nPc sz [.int a, .int b]) (va_Qi (fun (r : Int32) (_ : Unit) => r = zDi a b) (fun _ _ => True) (fun q : Nat => sz ≤ q)) 0 0 (fun q : Nat => sz ≤ q) := by
  refine Met.ofW (cc := cX7_distance) (maxL := 2) (ret := (some .int)) (by decide) rfl ?_
  intro p e s m args below meth c s₁ B hml hv
  obtain ⟨rfl, hsz⟩ := hv
  have hx := B.exec
  have hb := B.bytes
  have hr := B.returns
  have hts := atoms_spec (ws := zwX7_distance) B.pre
  have hown : s.vm.findClass RX7 = some m.cls := findClass_of_methodNamed B.named
  have hlocks := B.notSynchronized
  subst hsz
  have hA : ∀ q : Nat, s.heap.size ≤ q → s.heap.size ≤ q := fun _ h => h
  have hS : va_S (fun q : Nat => s.heap.size ≤ q) s.heap s.heap [] := va_S.rf
  have hl := lv_entry ([.int a, .int b]) (n := 2) (Nat.le_of_ble_eq_true rfl)
  rw [lg_entry_eq]
  generalize (lg_sl ([.int a, .int b]) ++ List.replicate (2 - (lg_sl ([.int a, .int b])).length) Slot.unset).toArray = ls at hl ⊢
  have hl : lv_has ls 2 [(0, .int a), (1, .int b)] := hl
  refine lv_iload_n hx hb dX7_distance_0 rfl (lv_at hl 0 rfl) ?_
  refine lv_iload_n hx hb dX7_distance_1 rfl (lv_at hl 1 rfl) ?_
  refine lv_icmp_ge (tgt := 11) hx hb dX7_distance_2 (by decide) (fun c_1 => ?_) (fun c_1 => ?_)
  · refine lv_iload_n hx hb dX7_distance_11 rfl (lv_at hl 0 rfl) ?_
    refine lv_iload_n hx hb dX7_distance_12 rfl (lv_at hl 1 rfl) ?_
    refine lv_isub hx hb dX7_distance_13 ?_
    refine W.widen (k := 0) (n := 0) (Nat.le_of_ble_eq_true rfl) (Nat.le_of_ble_eq_true rfl) ?_
    exact W.iret (v := (a - b)) hx hb hr (fun t ht hW => ⟨⟨(a - b), (), rfl, (by unfold zDi; rw [if_neg (by simp only [zPl, zPm, fa_lt, fa_le, fa_eq, zi_0, zi_1, zi_3, zi_4, zi_7, zi_8, zi_10, zi_12, zi_119, zi_m1] at c_1 ⊢ <;> omega)]), trivial⟩, hS.F ht⟩) hS.2.2 dX7_distance_14
  · refine lv_iload_n hx hb dX7_distance_5 rfl (lv_at hl 1 rfl) ?_
    refine lv_iload_n hx hb dX7_distance_6 rfl (lv_at hl 0 rfl) ?_
    refine lv_isub hx hb dX7_distance_7 ?_
    refine lv_goto (tgt := 14) hx hb dX7_distance_8 (by decide) ?_
    refine W.widen (k := 0) (n := 0) (Nat.le_of_ble_eq_true rfl) (Nat.le_of_ble_eq_true rfl) ?_
    exact W.iret (v := (b - a)) hx hb hr (fun t ht hW => ⟨⟨(b - a), (), rfl, (by unfold zDi; rw [if_pos (by simp only [zPl, zPm, fa_lt, fa_le, fa_eq, zi_0, zi_1, zi_3, zi_4, zi_7, zi_8, zi_10, zi_12, zi_119, zi_m1] at c_1 ⊢ <;> omega)]), trivial⟩, hS.F ht⟩) hS.2.2 dX7_distance_14

def zwX7_isPlace : List Cond := .code yX7_isPlace cX7_isPlace 1 (some .boolean) :: (([.methodLink RX7 153 yX7_xOf, .static yX7_xOf, .initialized RX7, .methodLink RX7 160 yX7_yOf, .static yX7_yOf] : List Cond) ++ (zwX7_xOf ++ (zwX7_yOf)))
theorem zgX7_isPlace : zwX7_isPlace.all goodWord = true := zgo rfl (zga (by decide +kernel) (zga zgX7_xOf (zgX7_yOf)))
set_option maxHeartbeats 4000000 in
set_option maxRecDepth 100000 in
theorem c_X7_isPlace (l : Launch) (dC : Nat → ClassId) (dI : Nat → Nat → Nat) (sz : Nat) (v : Int32) : Met l yX7_isPlace zwX7_isPlace ({ frames := 1, cells := 0, slots := 0, locals := 20 }) (nPc sz [.int v]) (va_Qi (fun (r : Int32) (_ : Unit) => (r = 1 ∧ zPl v) ∨ (r = 0 ∧ ¬ zPl v)) (fun _ _ => True) (fun q : Nat => sz ≤ q)) 0 0 (fun q : Nat => sz ≤ q) := by
  refine Met.ofW (cc := cX7_isPlace) (maxL := 1) (ret := (some .boolean)) (by decide) rfl ?_
  intro p e s m args below meth c s₁ B hml hv
  obtain ⟨rfl, hsz⟩ := hv
  have hx := B.exec
  have hb := B.bytes
  have hr := B.returns
  have hts := atoms_spec (ws := zwX7_isPlace) B.pre
  have hown : s.vm.findClass RX7 = some m.cls := findClass_of_methodNamed B.named
  have hlocks := B.notSynchronized
  subst hsz
  have hA : ∀ q : Nat, s.heap.size ≤ q → s.heap.size ≤ q := fun _ h => h
  have hS : va_S (fun q : Nat => s.heap.size ≤ q) s.heap s.heap [] := va_S.rf
  have hl := lv_entry ([.int v]) (n := 1) (Nat.le_of_ble_eq_true rfl)
  rw [lg_entry_eq]
  generalize (lg_sl ([.int v]) ++ List.replicate (1 - (lg_sl ([.int v])).length) Slot.unset).toArray = ls at hl ⊢
  have hl : lv_has ls 1 [(0, .int v)] := hl
  refine lv_iload_n hx hb dX7_isPlace_0 rfl (lv_at hl 0 rfl) ?_
  refine lv_if_lt (tgt := 26) hx hb dX7_isPlace_1 (by decide) (fun c_1 => ?_) (fun c_1 => ?_)
  · refine lv_iconst (v := 0) hx hb dX7_isPlace_26 (by decide) ?_
    refine W.widen (k := 0) (n := 0) (Nat.le_of_ble_eq_true rfl) (Nat.le_of_ble_eq_true rfl) ?_
    exact W.zret (v := 0) hx hb hr (by decide +kernel) (fun t ht hW => ⟨⟨0, (), rfl, Or.inr ⟨rfl, (by simp only [zPl, zPm, fa_lt, fa_le, fa_eq, zi_0, zi_1, zi_3, zi_4, zi_7, zi_8, zi_10, zi_12, zi_119, zi_m1] at c_1 ⊢ <;> omega)⟩, trivial⟩, hS.F ht⟩) hS.2.2 dX7_isPlace_27
  · refine lv_iload_n hx hb dX7_isPlace_4 rfl (lv_at hl 0 rfl) ?_
    refine va_calli (va_runS (As := [.int v]) (rest := []) ⟨hx, hb, hml, hown, hts⟩ (c_X7_xOf l dC dI s.heap.size v) (va_cwS 1 hts (goodIn_app (goodIn_of _ (by decide +kernel)) (goodIn_sub ((fun w h => List.mem_cons_of_mem _ (List.mem_append_right _ (List.mem_append_left _ h)))) zgX7_xOf)) rfl rfl rfl (by decide +kernel) ⟨Nat.le_of_ble_eq_true rfl, Nat.le_of_ble_eq_true rfl⟩) ⟨nPc_blind, nPc_pass⟩ rfl rfl hl.1 rfl (lv_room (Nat.le_of_ble_eq_true rfl)) dX7_isPlace_5 ⟨Nat.le_of_ble_eq_true rfl, Nat.le_of_ble_eq_true rfl⟩) hS (fun q _ h => hA q (Nat.le_trans hS.1 h)) (fun q h => hA q (Nat.le_trans hS.1 h)) (fun r_2 u t H locs ht hvm hw hB hz hk hS => ?_)
    have w_3 : r_2 = v / 10 := hw
    refine lv_bipush (v := 12) hx hb dX7_isPlace_8 (by decide) ?_
    refine lv_icmp_ge (tgt := 26) hx hb dX7_isPlace_10 (by decide) (fun c_4 => ?_) (fun c_4 => ?_)
    · refine lv_iconst (v := 0) hx hb dX7_isPlace_26 (by decide) ?_
      refine W.widen (k := 0) (n := 0) (Nat.le_of_ble_eq_true rfl) (Nat.le_of_ble_eq_true rfl) ?_
      exact W.zret (v := 0) hx hb hr (by decide +kernel) (fun t ht hW => ⟨⟨0, (), rfl, Or.inr ⟨rfl, (by simp only [zPl, zPm, fa_lt, fa_le, fa_eq, zi_0, zi_1, zi_3, zi_4, zi_7, zi_8, zi_10, zi_12, zi_119, zi_m1] at c_1 w_3 c_4 ⊢ <;> omega)⟩, trivial⟩, hS.F ht⟩) hS.2.2 dX7_isPlace_27
    · refine lv_iload_n hx hb dX7_isPlace_13 rfl (lv_at hl 0 rfl) ?_
      refine va_calli (va_runS (As := [.int v]) (rest := []) ⟨hx, hb, hml, hown, hts⟩ (c_X7_yOf l dC dI H.size v) (va_cwS 1 hts (goodIn_app (goodIn_of _ (by decide +kernel)) (goodIn_sub ((fun w h => List.mem_cons_of_mem _ (List.mem_append_right _ (List.mem_append_right _ (h))))) zgX7_yOf)) rfl rfl rfl (by decide +kernel) ⟨Nat.le_of_ble_eq_true rfl, Nat.le_of_ble_eq_true rfl⟩) ⟨nPc_blind, nPc_pass⟩ rfl rfl hl.1 rfl (lv_room (Nat.le_of_ble_eq_true rfl)) dX7_isPlace_14 ⟨Nat.le_of_ble_eq_true rfl, Nat.le_of_ble_eq_true rfl⟩) hS (fun q _ h => hA q (Nat.le_trans hS.1 h)) (fun q h => hA q (Nat.le_trans hS.1 h)) (fun r_5 u t H locs ht hvm hw hB hz hk hS => ?_)
      have w_6 : r_5 = v - v / 10 * 10 := hw
      refine lv_bipush (v := 8) hx hb dX7_isPlace_17 (by decide) ?_
      refine lv_icmp_ge (tgt := 26) hx hb dX7_isPlace_19 (by decide) (fun c_7 => ?_) (fun c_7 => ?_)
      · refine lv_iconst (v := 0) hx hb dX7_isPlace_26 (by decide) ?_
        refine W.widen (k := 0) (n := 0) (Nat.le_of_ble_eq_true rfl) (Nat.le_of_ble_eq_true rfl) ?_
        exact W.zret (v := 0) hx hb hr (by decide +kernel) (fun t ht hW => ⟨⟨0, (), rfl, Or.inr ⟨rfl, (by simp only [zPl, zPm, fa_lt, fa_le, fa_eq, zi_0, zi_1, zi_3, zi_4, zi_7, zi_8, zi_10, zi_12, zi_119, zi_m1] at c_1 w_3 c_4 w_6 c_7 ⊢ <;> omega)⟩, trivial⟩, hS.F ht⟩) hS.2.2 dX7_isPlace_27
      · refine lv_iconst (v := 1) hx hb dX7_isPlace_22 (by decide) ?_
        refine lv_goto (tgt := 27) hx hb dX7_isPlace_23 (by decide) ?_
        refine W.widen (k := 0) (n := 0) (Nat.le_of_ble_eq_true rfl) (Nat.le_of_ble_eq_true rfl) ?_
        exact W.zret (v := 1) hx hb hr (by decide +kernel) (fun t ht hW => ⟨⟨1, (), rfl, Or.inl ⟨rfl, (by simp only [zPl, zPm, fa_lt, fa_le, fa_eq, zi_0, zi_1, zi_3, zi_4, zi_7, zi_8, zi_10, zi_12, zi_119, zi_m1] at c_1 w_3 c_4 w_6 c_7 ⊢ <;> omega)⟩, trivial⟩, hS.F ht⟩) hS.2.2 dX7_isPlace_27

def zwX7_requirePlace : List Cond := .code yX7_requirePlace cX7_requirePlace 1 none :: (([.methodLink RX7 64 yX7_isPlace, .static yX7_isPlace, .initialized RX7, .classLink RX7 67 "java/lang/IllegalArgumentException", .initialized "java/lang/IllegalArgumentException"] : List Cond) ++ (zwX7_isPlace ++ (((vx_atS RX7 71 "java/lang/IllegalArgumentException" zNames).filter goodWord))))
theorem zgX7_requirePlace : zwX7_requirePlace.all goodWord = true := zgo rfl (zga (by decide +kernel) (zga zgX7_isPlace ((zgf _))))
set_option maxHeartbeats 4000000 in
set_option maxRecDepth 100000 in
theorem c_X7_requirePlace (l : Launch) (hst : l.stackTraces = false) (dC : Nat → ClassId) (dI : Nat → Nat → Nat) (sz : Nat) (v : Int32) : vx_Met l yX7_requirePlace zwX7_requirePlace ({ frames := 6, cells := 1, slots := 6, locals := 82 }) (ePc sz [.int v]) (va_Qv (fun (_ : Unit) => zPl v) (fun _ _ => True) (fun q : Nat => sz ≤ q)) (zX (¬ zPl v) "java/lang/IllegalArgumentException" (fun q : Nat => sz ≤ q)) 1 6 (fun q : Nat => sz ≤ q) := by
  refine vx_ofW (cc := cX7_requirePlace) (maxL := 1) (ret := none) (by decide) rfl ?_
  intro p e s m args below meth c s₁ B hml hnt hv
  obtain ⟨rfl, hsz, hE⟩ := hv
  have hx := B.exec
  have hb := B.bytes
  have hr := B.returns
  have hts := atoms_spec (ws := zwX7_requirePlace) B.pre
  have hown : s.vm.findClass RX7 = some m.cls := findClass_of_methodNamed B.named
  have hlocks := B.notSynchronized
  subst hsz
  have hA : ∀ q : Nat, s.heap.size ≤ q → s.heap.size ≤ q := fun _ h => h
  have hS : va_S (fun q : Nat => s.heap.size ≤ q) s.heap s.heap [] := va_S.rf
  have hl := lv_entry ([.int v]) (n := 1) (Nat.le_of_ble_eq_true rfl)
  rw [lg_entry_eq]
  generalize (lg_sl ([.int v]) ++ List.replicate (1 - (lg_sl ([.int v])).length) Slot.unset).toArray = ls at hl ⊢
  have hl : lv_has ls 1 [(0, .int v)] := hl
  refine lv_iload_n hx hb dX7_requirePlace_0 rfl (lv_at hl 0 rfl) ?_
  refine va_calli (va_runS (As := [.int v]) (rest := []) ⟨hx, hb, hml, hown, hts⟩ (c_X7_isPlace l dC dI s.heap.size v) (va_cwS 1 hts (goodIn_app (goodIn_of _ (by decide +kernel)) (goodIn_sub ((fun w h => List.mem_cons_of_mem _ (List.mem_append_right _ (List.mem_append_left _ h)))) zgX7_isPlace)) rfl rfl rfl (by decide +kernel) ⟨Nat.le_of_ble_eq_true rfl, Nat.le_of_ble_eq_true rfl⟩) ⟨nPc_blind, nPc_pass⟩ rfl rfl hl.1 rfl (lv_room (Nat.le_of_ble_eq_true rfl)) dX7_requirePlace_1 ⟨Nat.le_of_ble_eq_true rfl, Nat.le_of_ble_eq_true rfl⟩) hS (fun q _ h => hA q (Nat.le_trans hS.1 h)) (fun q h => hA q (Nat.le_trans hS.1 h)) (fun r_1 u t H locs ht hvm hw hB hz hk hS => ?_)
  rcases (show (r_1 = 1 ∧ zPl v) ∨ (r_1 = 0 ∧ ¬ zPl v) from hw) with ⟨rfl, h_2⟩ | ⟨rfl, h_2⟩
  · refine lv_if_ne (tgt := 17) hx hb dX7_requirePlace_4 (by decide) (fun _ => ?_) (fun c_3 => absurd c_3 (by decide))
    refine W.widen (k := 1) (n := 6) (Nat.le_of_ble_eq_true rfl) (Nat.le_of_ble_eq_true rfl) ?_
    exact vx_ret (W.vret hx hb hr (fun t ht hW => ⟨⟨(), rfl, (by simp only [zPl, zPm, fa_lt, fa_le, fa_eq, zi_0, zi_1, zi_3, zi_4, zi_7, zi_8, zi_10, zi_12, zi_119, zi_m1] at h_2 ⊢ <;> omega), trivial⟩, hS.F ht⟩) hS.2.2 dX7_requirePlace_17)
  · refine lv_if_ne (tgt := 17) hx hb dX7_requirePlace_4 (by decide) (fun c_4 => absurd c_4 (by decide)) (fun _ => ?_)
    exact zThrow (Ts := zwX7_requirePlace) (px := ¬ zPl v) (E := "java/lang/IllegalArgumentException") (ik := 67) (is := 168) (ic := 71) hx hb hst hown hts hE hS (hl.1.trans hml.symm) (by decide) (by decide +kernel) (text := "no such place") (by decide) (by decide +kernel) (by decide +kernel) (fun w h => List.mem_cons_of_mem _ (List.mem_append_right _ (List.mem_append_right _ (h)))) (by decide +kernel) (by decide +kernel) dX7_requirePlace_7 dX7_requirePlace_10 dX7_requirePlace_11 dX7_requirePlace_13 dX7_requirePlace_16 hnt (Nat.le_of_ble_eq_true rfl) (Nat.le_of_ble_eq_true rfl) (Nat.le_of_ble_eq_true rfl) (Nat.le_of_ble_eq_true rfl) hlocks (by simp only [zPl, zPm, fa_lt, fa_le, fa_eq, zi_0, zi_1, zi_3, zi_4, zi_7, zi_8, zi_10, zi_12, zi_119, zi_m1] at h_2 ⊢ <;> omega) hS.2.2 (Nat.le_of_ble_eq_true rfl) (Nat.le_of_ble_eq_true rfl)

def zwX7_swept : List Cond := .code yX7_swept cX7_swept 3 (some .int) :: (([.methodLink RX7 147 yX7_requirePlace, .static yX7_requirePlace, .initialized RX7, .methodLink RX7 153 yX7_xOf, .static yX7_xOf, .methodLink RX7 157 yX7_distance, .static yX7_distance, .methodLink RX7 160 yX7_yOf, .static yX7_yOf] : List Cond) ++ (zwX7_requirePlace ++ (zwX7_xOf ++ (zwX7_distance ++ (zwX7_yOf)))))
theorem zgX7_swept : zwX7_swept.all goodWord = true := zgo rfl (zga (by decide +kernel) (zga zgX7_requirePlace (zga zgX7_xOf (zga zgX7_distance (zgX7_yOf)))))
set_option maxHeartbeats 4000000 in
set_option maxRecDepth 100000 in
theorem c_X7_swept (l : Launch) (hst : l.stackTraces = false) (dC : Nat → ClassId) (dI : Nat → Nat → Nat) (sz : Nat) (x : Nat) (ax : Nat → Nat) (kx : Nat → ClassId) (a : Int32) (b : Int32) : vx_Met l yX7_swept zwX7_swept ({ frames := 7, cells := 2, slots := 12, locals := 102 }) (xPc dC dI sz x ax kx [.ref x, .int a, .int b]) (va_Qi (fun (r : Int32) (_ : Unit) => r = zSw a b ∧ zPl a ∧ zPl b) (fun _ _ => True) (fun q : Nat => sz ≤ q)) (zX (¬ (zPl a ∧ zPl b)) "java/lang/IllegalArgumentException" (fun q : Nat => sz ≤ q)) 2 12 (fun q : Nat => sz ≤ q) := by
  refine vx_ofW (cc := cX7_swept) (maxL := 3) (ret := (some .int)) (by decide) rfl ?_
  intro p e s m args below meth c s₁ B hml hnt hv
  obtain ⟨rfl, hsz, hP, hK, hE⟩ := hv
  have hx := B.exec
  have hb := B.bytes
  have hr := B.returns
  have hts := atoms_spec (ws := zwX7_swept) B.pre
  have hown : s.vm.findClass RX7 = some m.cls := findClass_of_methodNamed B.named
  have hlocks := B.notSynchronized
  subst hsz
  have hA : ∀ q : Nat, s.heap.size ≤ q → s.heap.size ≤ q := fun _ h => h
  have hS : va_S (fun q : Nat => s.heap.size ≤ q) s.heap s.heap [] := va_S.rf
  have hl := lv_entry ([.ref x, .int a, .int b]) (n := 3) (Nat.le_of_ble_eq_true rfl)
  rw [lg_entry_eq]
  generalize (lg_sl ([.ref x, .int a, .int b]) ++ List.replicate (3 - (lg_sl ([.ref x, .int a, .int b])).length) Slot.unset).toArray = ls at hl ⊢
  have hl : lv_has ls 3 [(0, .ref x), (1, .int a), (2, .int b)] := hl
  refine lv_iload_n hx hb dX7_swept_0 rfl (lv_at hl 1 rfl) ?_
  refine vx_callv (vx_runS (As := [.int a]) (rest := []) ⟨hx, hb, hml, hown, hts⟩ (c_X7_requirePlace l hst dC dI s.heap.size a) (va_cwS 1 hts (goodIn_app (goodIn_of _ (by decide +kernel)) (goodIn_sub ((fun w h => List.mem_cons_of_mem _ (List.mem_append_right _ (List.mem_append_left _ h)))) zgX7_requirePlace)) rfl rfl rfl (by decide +kernel) ⟨Nat.le_of_ble_eq_true rfl, Nat.le_of_ble_eq_true rfl⟩) ⟨ePc_blind, ePc_pass hE hS (fun q h => hA q (Nat.le_trans hS.1 h))⟩ rfl rfl hl.1 rfl (lv_room (Nat.le_of_ble_eq_true rfl)) dX7_swept_1 ⟨Nat.le_of_ble_eq_true rfl, Nat.le_of_ble_eq_true rfl⟩) hS (fun q _ h => hA q (Nat.le_trans hS.1 h)) (fun q h => hA q (Nat.le_trans hS.1 h)) (fun q _ h => hA q (Nat.le_trans hS.1 h)) (fun E ce q9 _ t H locs ht hvm hpx hBX hz hk hS hcell hv hcl => ?_) (fun u t H locs ht hvm hw hB hz hk hS => ?_)
  · have hBX : E = "java/lang/IllegalArgumentException" := hBX
    subst hBX
    exact zOut (px := ¬ (zPl a ∧ zPl b)) (E := "java/lang/IllegalArgumentException") hnt hlocks hcell hv hcl hS (fun h => absurd h.1 hpx) hS.2.2 (Nat.le_of_ble_eq_true rfl) (Nat.le_of_ble_eq_true rfl)
  have hP := zkn hP hk
  have w_2 : zPl a := hw
  refine lv_iload_n hx hb dX7_swept_4 rfl (lv_at hl 2 rfl) ?_
  refine vx_callv (vx_runS (As := [.int b]) (rest := []) ⟨hx, hb, hml, hown, hts⟩ (c_X7_requirePlace l hst dC dI H.size b) (va_cwS 1 hts (goodIn_app (goodIn_of _ (by decide +kernel)) (goodIn_sub ((fun w h => List.mem_cons_of_mem _ (List.mem_append_right _ (List.mem_append_left _ h)))) zgX7_requirePlace)) rfl rfl rfl (by decide +kernel) ⟨Nat.le_of_ble_eq_true rfl, Nat.le_of_ble_eq_true rfl⟩) ⟨ePc_blind, ePc_pass hE hS (fun q h => hA q (Nat.le_trans hS.1 h))⟩ rfl rfl hl.1 rfl (lv_room (Nat.le_of_ble_eq_true rfl)) dX7_swept_5 ⟨Nat.le_of_ble_eq_true rfl, Nat.le_of_ble_eq_true rfl⟩) hS (fun q _ h => hA q (Nat.le_trans hS.1 h)) (fun q h => hA q (Nat.le_trans hS.1 h)) (fun q _ h => hA q (Nat.le_trans hS.1 h)) (fun E ce q9 _ t H locs ht hvm hpx hBX hz hk hS hcell hv hcl => ?_) (fun u t H locs ht hvm hw hB hz hk hS => ?_)
  · have hBX : E = "java/lang/IllegalArgumentException" := hBX
    subst hBX
    exact zOut (px := ¬ (zPl a ∧ zPl b)) (E := "java/lang/IllegalArgumentException") hnt hlocks hcell hv hcl hS (fun h => absurd h.2 hpx) hS.2.2 (Nat.le_of_ble_eq_true rfl) (Nat.le_of_ble_eq_true rfl)
  have hP := zkn hP hk
  have w_4 : zPl b := hw
  refine lv_iload_n hx hb dX7_swept_8 rfl (lv_at hl 1 rfl) ?_
  refine va_calli (va_runS (As := [.int a]) (rest := []) ⟨hx, hb, hml, hown, hts⟩ (c_X7_xOf l dC dI H.size a) (va_cwS 1 hts (goodIn_app (goodIn_of _ (by decide +kernel)) (goodIn_sub ((fun w h => List.mem_cons_of_mem _ (List.mem_append_right _ (List.mem_append_right _ (List.mem_append_left _ h))))) zgX7_xOf)) rfl rfl rfl (by decide +kernel) ⟨Nat.le_of_ble_eq_true rfl, Nat.le_of_ble_eq_true rfl⟩) ⟨nPc_blind, nPc_pass⟩ rfl rfl hl.1 rfl (lv_room (Nat.le_of_ble_eq_true rfl)) dX7_swept_9 ⟨Nat.le_of_ble_eq_true rfl, Nat.le_of_ble_eq_true rfl⟩) hS (fun q _ h => hA q (Nat.le_trans hS.1 h)) (fun q h => hA q (Nat.le_trans hS.1 h)) (fun r_5 u t H locs ht hvm hw hB hz hk hS => ?_)
  have hP := zkn hP hk
  have w_6 : r_5 = a / 10 := hw
  refine lv_iload_n hx hb dX7_swept_12 rfl (lv_at hl 2 rfl) ?_
  refine va_calli (va_runS (As := [.int b]) (rest := [.int r_5]) ⟨hx, hb, hml, hown, hts⟩ (c_X7_xOf l dC dI H.size b) (va_cwS 1 hts (goodIn_app (goodIn_of _ (by decide +kernel)) (goodIn_sub ((fun w h => List.mem_cons_of_mem _ (List.mem_append_right _ (List.mem_append_right _ (List.mem_append_left _ h))))) zgX7_xOf)) rfl rfl rfl (by decide +kernel) ⟨Nat.le_of_ble_eq_true rfl, Nat.le_of_ble_eq_true rfl⟩) ⟨nPc_blind, nPc_pass⟩ rfl rfl hl.1 rfl (lv_room (Nat.le_of_ble_eq_true rfl)) dX7_swept_13 ⟨Nat.le_of_ble_eq_true rfl, Nat.le_of_ble_eq_true rfl⟩) hS (fun q _ h => hA q (Nat.le_trans hS.1 h)) (fun q h => hA q (Nat.le_trans hS.1 h)) (fun r_7 u t H locs ht hvm hw hB hz hk hS => ?_)
  have hP := zkn hP hk
  have w_8 : r_7 = b / 10 := hw
  refine va_calli (va_runS (As := [.int r_5, .int r_7]) (rest := []) ⟨hx, hb, hml, hown, hts⟩ (c_X7_distance l dC dI H.size r_5 r_7) (va_cwS 2 hts (goodIn_app (goodIn_of _ (by decide +kernel)) (goodIn_sub ((fun w h => List.mem_cons_of_mem _ (List.mem_append_right _ (List.mem_append_right _ (List.mem_append_right _ (List.mem_append_left _ h)))))) zgX7_distance)) rfl rfl rfl (by decide +kernel) ⟨Nat.le_of_ble_eq_true rfl, Nat.le_of_ble_eq_true rfl⟩) ⟨nPc_blind, nPc_pass⟩ rfl rfl hl.1 rfl (lv_room (Nat.le_of_ble_eq_true rfl)) dX7_swept_16 ⟨Nat.le_of_ble_eq_true rfl, Nat.le_of_ble_eq_true rfl⟩) hS (fun q _ h => hA q (Nat.le_trans hS.1 h)) (fun q h => hA q (Nat.le_trans hS.1 h)) (fun r_9 u t H locs ht hvm hw hB hz hk hS => ?_)
  have hP := zkn hP hk
  have w_10 : r_9 = zDi r_5 r_7 := hw
  refine lv_iload_n hx hb dX7_swept_19 rfl (lv_at hl 1 rfl) ?_
  refine va_calli (va_runS (As := [.int a]) (rest := [.int r_9]) ⟨hx, hb, hml, hown, hts⟩ (c_X7_yOf l dC dI H.size a) (va_cwS 1 hts (goodIn_app (goodIn_of _ (by decide +kernel)) (goodIn_sub ((fun w h => List.mem_cons_of_mem _ (List.mem_append_right _ (List.mem_append_right _ (List.mem_append_right _ (List.mem_append_right _ (h))))))) zgX7_yOf)) rfl rfl rfl (by decide +kernel) ⟨Nat.le_of_ble_eq_true rfl, Nat.le_of_ble_eq_true rfl⟩) ⟨nPc_blind, nPc_pass⟩ rfl rfl hl.1 rfl (lv_room (Nat.le_of_ble_eq_true rfl)) dX7_swept_20 ⟨Nat.le_of_ble_eq_true rfl, Nat.le_of_ble_eq_true rfl⟩) hS (fun q _ h => hA q (Nat.le_trans hS.1 h)) (fun q h => hA q (Nat.le_trans hS.1 h)) (fun r_11 u t H locs ht hvm hw hB hz hk hS => ?_)
  have hP := zkn hP hk
  have w_12 : r_11 = a - a / 10 * 10 := hw
  refine lv_iload_n hx hb dX7_swept_23 rfl (lv_at hl 2 rfl) ?_
  refine va_calli (va_runS (As := [.int b]) (rest := [.int r_11, .int r_9]) ⟨hx, hb, hml, hown, hts⟩ (c_X7_yOf l dC dI H.size b) (va_cwS 1 hts (goodIn_app (goodIn_of _ (by decide +kernel)) (goodIn_sub ((fun w h => List.mem_cons_of_mem _ (List.mem_append_right _ (List.mem_append_right _ (List.mem_append_right _ (List.mem_append_right _ (h))))))) zgX7_yOf)) rfl rfl rfl (by decide +kernel) ⟨Nat.le_of_ble_eq_true rfl, Nat.le_of_ble_eq_true rfl⟩) ⟨nPc_blind, nPc_pass⟩ rfl rfl hl.1 rfl (lv_room (Nat.le_of_ble_eq_true rfl)) dX7_swept_24 ⟨Nat.le_of_ble_eq_true rfl, Nat.le_of_ble_eq_true rfl⟩) hS (fun q _ h => hA q (Nat.le_trans hS.1 h)) (fun q h => hA q (Nat.le_trans hS.1 h)) (fun r_13 u t H locs ht hvm hw hB hz hk hS => ?_)
  have hP := zkn hP hk
  have w_14 : r_13 = b - b / 10 * 10 := hw
  refine va_calli (va_runS (As := [.int r_11, .int r_13]) (rest := [.int r_9]) ⟨hx, hb, hml, hown, hts⟩ (c_X7_distance l dC dI H.size r_11 r_13) (va_cwS 2 hts (goodIn_app (goodIn_of _ (by decide +kernel)) (goodIn_sub ((fun w h => List.mem_cons_of_mem _ (List.mem_append_right _ (List.mem_append_right _ (List.mem_append_right _ (List.mem_append_left _ h)))))) zgX7_distance)) rfl rfl rfl (by decide +kernel) ⟨Nat.le_of_ble_eq_true rfl, Nat.le_of_ble_eq_true rfl⟩) ⟨nPc_blind, nPc_pass⟩ rfl rfl hl.1 rfl (lv_room (Nat.le_of_ble_eq_true rfl)) dX7_swept_27 ⟨Nat.le_of_ble_eq_true rfl, Nat.le_of_ble_eq_true rfl⟩) hS (fun q _ h => hA q (Nat.le_trans hS.1 h)) (fun q h => hA q (Nat.le_trans hS.1 h)) (fun r_15 u t H locs ht hvm hw hB hz hk hS => ?_)
  have hP := zkn hP hk
  have w_16 : r_15 = zDi r_11 r_13 := hw
  refine lv_iadd hx hb dX7_swept_30 ?_
  refine lv_iconst (v := 1) hx hb dX7_swept_31 (by decide) ?_
  refine lv_iadd hx hb dX7_swept_32 ?_
  refine W.widen (k := 2) (n := 12) (Nat.le_of_ble_eq_true rfl) (Nat.le_of_ble_eq_true rfl) ?_
  exact vx_ret (W.iret (v := ((r_9 + r_15) + 1)) hx hb hr (fun t ht hW => ⟨⟨((r_9 + r_15) + 1), (), rfl, ⟨by subst_vars; rfl, w_2, w_4⟩, trivial⟩, hS.F ht⟩) hS.2.2 dX7_swept_33)
end ZCls1
end
section
section ZCls2
def zwX6_init : List Cond := .code yX6_init cX6_init 1 none :: (([.methodLink RX6 3 objectInit, .instanceMethod objectInit, .code objectInit ⟨#[0xb1]⟩ 1 none, .arrayClass .int, .fieldLink RX6 9 "Spotbeat$Track" "zones" "[I", .fieldLink RX6 15 "Spotbeat$Track" "claims" "[I", .arrayClass .long, .fieldLink RX6 18 "Spotbeat$Track" "lowCells" "[J", .fieldLink RX6 22 "Spotbeat$Track" "highCells" "[J"] : List Cond) ++ (wsX60))
theorem zgX6_init : zwX6_init.all goodWord = true := zgo rfl (zga (by decide +kernel) (zgcX6))
set_option maxHeartbeats 4000000 in
set_option maxRecDepth 100000 in
/-- Track(): it is there -/
theorem c_X6_init (l : Launch) (dC : Nat → ClassId) (dI : Nat → Nat → Nat) (sz : Nat) (t : Nat) : Met l yX6_init zwX6_init ({ frames := 1, cells := 4, slots := 52, locals := 12 }) (gPc dC dI sz [(t, .inr (9, [.null, .null, .null, .null, .int 0, .int 0]))] [] [.ref t]) (va_Qv (fun (u : List Value) => True) (fun u t => va_P (dC, dI) vwCl [(t, .inr (9, u))] t.heap ∧ va_K (dC, dI) vwCl [] t ∧ va_D (va_A [(t, .inr (9, [.null, .null, .null, .null, .int 0, .int 0]))] sz) [(t, .inr (9, u))]) (va_A [(t, .inr (9, [.null, .null, .null, .null, .int 0, .int 0]))] sz)) 4 52 (va_A [(t, .inr (9, [.null, .null, .null, .null, .int 0, .int 0]))] sz) := by
  refine Met.ofW (cc := cX6_init) (maxL := 1) (ret := none) (by decide) rfl ?_
  intro p e s m args below meth c s₁ B hml hv
  obtain ⟨rfl, hsz, hP, hK, hD0⟩ := hv
  have hx := B.exec
  have hb := B.bytes
  have hr := B.returns
  have hts := atoms_spec (ws := zwX6_init) B.pre
  have hown : s.vm.findClass RX6 = some m.cls := findClass_of_methodNamed B.named
  have hlocks := B.notSynchronized
  have hin : meth.name = "<init>" := (name_of_methodNamed B.named B.method).1
  subst hsz
  have hD := hD0.self (sz := s.heap.size)
  generalize hAe : va_A [(t, .inr (9, [.null, .null, .null, .null, .int 0, .int 0]))] s.heap.size = A at hD ⊢
  have hA : ∀ q : Nat, s.heap.size ≤ q → A q := fun q h => by rw [← hAe]; exact Or.inr h
  have hS : va_S A s.heap s.heap [] := va_S.rf
  have hP : va_P (dC, dI) vwCl [(t, .inr (9, [.null, .null, .null, .null, .int 0, .int 0]))] s.heap := hP
  have hl := lv_entry ([.ref t]) (n := 1) (Nat.le_of_ble_eq_true rfl)
  rw [lg_entry_eq]
  generalize (lg_sl ([.ref t]) ++ List.replicate (1 - (lg_sl ([.ref t])).length) Slot.unset).toArray = ls at hl ⊢
  have hl : lv_has ls 1 [(0, .ref t)] := hl
  refine lv_aload_n hx hb dX6_init_0 rfl (lv_at hl 0 rfl) ?_
  refine W.objInit hx hb hown (hts (.methodLink RX6 3 objectInit) (by decide +kernel)) (hts (.instanceMethod objectInit) (by decide +kernel)) (hts (.code objectInit ⟨#[0xb1]⟩ 1 none) (by decide +kernel)) rfl (by rw [hml]; exact hl.1) rfl dX6_init_1 (Nat.le_of_ble_eq_true rfl) (Nat.le_of_ble_eq_true rfl) ?_
  refine W.eq (g2 := F0 m 4 ls []) rfl ?_
  refine lv_aload_n hx hb dX6_init_4 rfl (lv_at hl 0 rfl) ?_
  refine lv_bipush (v := 13) hx hb dX6_init_5 (by decide) ?_
  refine va_newa (atype := .int) (N' := 13) (a0 := (13, .inl (fun _ => 0))) hx hb (hts (.arrayClass .int) (by decide +kernel)) rfl hK hP hD hS hA (fun _ => rfl) (by decide) (by decide +kernel) (by decide) (Nat.le_of_ble_eq_true rfl) (Nat.le_of_ble_eq_true rfl) dX6_init_7 (fun q7 k7 H hK hP hD hS => ?_)
  have hK : va_K (dC, dI) vwCl [(k7, .int)] s := hK
  have hP : va_P (dC, dI) vwCl [(t, .inr (9, [.null, .null, .null, .null, .int 0, .int 0])), (q7, .inl (k7, 13, .inl (fun _ => 0)))] H := hP
  have hD : va_D A [(t, .inr (9, [.null, .null, .null, .null, .int 0, .int 0])), (q7, .inl (k7, 13, .inl (fun _ => 0)))] := hD
  refine va_putF (D := (dC, dI)) (ci := 9) (v := .ref q7) (ty := .array .int) (C := RX6) (T := TX6) (N := 6) hx hb hts (fun w h => List.mem_cons_of_mem _ (List.mem_append_right _ (h))) tyX6 tyX6_ok nmX6 hown hK hP hD hS 0 rfl rfl 0 (by decide) (hts (.fieldLink RX6 9 "Spotbeat$Track" "zones" "[I") (by decide +kernel)) (fun _ h9 => h9) rfl hin rfl (by decide +kernel) rfl rfl (Nat.le_of_ble_eq_true rfl) dX6_init_9 (fun H locs hP hD hS => ?_)
  have hP : va_P (dC, dI) vwCl [(t, .inr (9, [.ref q7, .null, .null, .null, .int 0, .int 0])), (q7, .inl (k7, 13, .inl (fun _ => 0)))] H := hP
  have hD : va_D A [(t, .inr (9, [.ref q7, .null, .null, .null, .int 0, .int 0])), (q7, .inl (k7, 13, .inl (fun _ => 0)))] := hD
  refine lv_aload_n hx hb dX6_init_12 rfl (lv_at hl 0 rfl) ?_
  refine lv_bipush (v := 13) hx hb dX6_init_13 (by decide) ?_
  refine va_newa (atype := .int) (N' := 13) (a0 := (13, .inl (fun _ => 0))) hx hb (hts (.arrayClass .int) (by decide +kernel)) rfl hK hP hD hS hA (fun _ => rfl) (by decide) (by decide +kernel) (by decide) (Nat.le_of_ble_eq_true rfl) (Nat.le_of_ble_eq_true rfl) dX6_init_15 (fun q15 k15 H hK hP hD hS => ?_)
  have hK : va_K (dC, dI) vwCl [(k7, .int), (k15, .int)] s := hK
  have hP : va_P (dC, dI) vwCl [(t, .inr (9, [.ref q7, .null, .null, .null, .int 0, .int 0])), (q7, .inl (k7, 13, .inl (fun _ => 0))), (q15, .inl (k15, 13, .inl (fun _ => 0)))] H := hP
  have hD : va_D A [(t, .inr (9, [.ref q7, .null, .null, .null, .int 0, .int 0])), (q7, .inl (k7, 13, .inl (fun _ => 0))), (q15, .inl (k15, 13, .inl (fun _ => 0)))] := hD
  refine va_putF (D := (dC, dI)) (ci := 9) (v := .ref q15) (ty := .array .int) (C := RX6) (T := TX6) (N := 6) hx hb hts (fun w h => List.mem_cons_of_mem _ (List.mem_append_right _ (h))) tyX6 tyX6_ok nmX6 hown hK hP hD hS 0 rfl rfl 1 (by decide) (hts (.fieldLink RX6 15 "Spotbeat$Track" "claims" "[I") (by decide +kernel)) (fun _ h9 => h9) rfl hin rfl (by decide +kernel) rfl rfl (Nat.le_of_ble_eq_true rfl) dX6_init_17 (fun H locs hP hD hS => ?_)
  have hP : va_P (dC, dI) vwCl [(t, .inr (9, [.ref q7, .ref q15, .null, .null, .int 0, .int 0])), (q7, .inl (k7, 13, .inl (fun _ => 0))), (q15, .inl (k15, 13, .inl (fun _ => 0)))] H := hP
  have hD : va_D A [(t, .inr (9, [.ref q7, .ref q15, .null, .null, .int 0, .int 0])), (q7, .inl (k7, 13, .inl (fun _ => 0))), (q15, .inl (k15, 13, .inl (fun _ => 0)))] := hD
  refine lv_aload_n hx hb dX6_init_20 rfl (lv_at hl 0 rfl) ?_
  refine lv_bipush (v := 13) hx hb dX6_init_21 (by decide) ?_
  refine va_newa (atype := .long) (N' := 13) (a0 := (13, .inr (.inl (fun _ => 0)))) hx hb (hts (.arrayClass .long) (by decide +kernel)) rfl hK hP hD hS hA (fun _ => rfl) (by decide) (by decide +kernel) (by decide) (Nat.le_of_ble_eq_true rfl) (Nat.le_of_ble_eq_true rfl) dX6_init_23 (fun q23 k23 H hK hP hD hS => ?_)
  have hK : va_K (dC, dI) vwCl [(k7, .int), (k15, .int), (k23, .long)] s := hK
  have hP : va_P (dC, dI) vwCl [(t, .inr (9, [.ref q7, .ref q15, .null, .null, .int 0, .int 0])), (q7, .inl (k7, 13, .inl (fun _ => 0))), (q15, .inl (k15, 13, .inl (fun _ => 0))), (q23, .inl (k23, 13, .inr (.inl (fun _ => 0))))] H := hP
  have hD : va_D A [(t, .inr (9, [.ref q7, .ref q15, .null, .null, .int 0, .int 0])), (q7, .inl (k7, 13, .inl (fun _ => 0))), (q15, .inl (k15, 13, .inl (fun _ => 0))), (q23, .inl (k23, 13, .inr (.inl (fun _ => 0))))] := hD
  refine va_putF (D := (dC, dI)) (ci := 9) (v := .ref q23) (ty := .array .long) (C := RX6) (T := TX6) (N := 6) hx hb hts (fun w h => List.mem_cons_of_mem _ (List.mem_append_right _ (h))) tyX6 tyX6_ok nmX6 hown hK hP hD hS 0 rfl rfl 2 (by decide) (hts (.fieldLink RX6 18 "Spotbeat$Track" "lowCells" "[J") (by decide +kernel)) (fun _ h9 => h9) rfl hin rfl (by decide +kernel) rfl rfl (Nat.le_of_ble_eq_true rfl) dX6_init_25 (fun H locs hP hD hS => ?_)
  have hP : va_P (dC, dI) vwCl [(t, .inr (9, [.ref q7, .ref q15, .ref q23, .null, .int 0, .int 0])), (q7, .inl (k7, 13, .inl (fun _ => 0))), (q15, .inl (k15, 13, .inl (fun _ => 0))), (q23, .inl (k23, 13, .inr (.inl (fun _ => 0))))] H := hP
  have hD : va_D A [(t, .inr (9, [.ref q7, .ref q15, .ref q23, .null, .int 0, .int 0])), (q7, .inl (k7, 13, .inl (fun _ => 0))), (q15, .inl (k15, 13, .inl (fun _ => 0))), (q23, .inl (k23, 13, .inr (.inl (fun _ => 0))))] := hD
  refine lv_aload_n hx hb dX6_init_28 rfl (lv_at hl 0 rfl) ?_
  refine lv_bipush (v := 13) hx hb dX6_init_29 (by decide) ?_
  refine va_newa (atype := .long) (N' := 13) (a0 := (13, .inr (.inl (fun _ => 0)))) hx hb (hts (.arrayClass .long) (by decide +kernel)) rfl hK hP hD hS hA (fun _ => rfl) (by decide) (by decide +kernel) (by decide) (Nat.le_of_ble_eq_true rfl) (Nat.le_of_ble_eq_true rfl) dX6_init_31 (fun q31 k31 H hK hP hD hS => ?_)
  have hK : va_K (dC, dI) vwCl [(k7, .int), (k15, .int), (k23, .long), (k31, .long)] s := hK
  have hP : va_P (dC, dI) vwCl [(t, .inr (9, [.ref q7, .ref q15, .ref q23, .null, .int 0, .int 0])), (q7, .inl (k7, 13, .inl (fun _ => 0))), (q15, .inl (k15, 13, .inl (fun _ => 0))), (q23, .inl (k23, 13, .inr (.inl (fun _ => 0)))), (q31, .inl (k31, 13, .inr (.inl (fun _ => 0))))] H := hP
  have hD : va_D A [(t, .inr (9, [.ref q7, .ref q15, .ref q23, .null, .int 0, .int 0])), (q7, .inl (k7, 13, .inl (fun _ => 0))), (q15, .inl (k15, 13, .inl (fun _ => 0))), (q23, .inl (k23, 13, .inr (.inl (fun _ => 0)))), (q31, .inl (k31, 13, .inr (.inl (fun _ => 0))))] := hD
  refine va_putF (D := (dC, dI)) (ci := 9) (v := .ref q31) (ty := .array .long) (C := RX6) (T := TX6) (N := 6) hx hb hts (fun w h => List.mem_cons_of_mem _ (List.mem_append_right _ (h))) tyX6 tyX6_ok nmX6 hown hK hP hD hS 0 rfl rfl 3 (by decide) (hts (.fieldLink RX6 22 "Spotbeat$Track" "highCells" "[J") (by decide +kernel)) (fun _ h9 => h9) rfl hin rfl (by decide +kernel) rfl rfl (Nat.le_of_ble_eq_true rfl) dX6_init_33 (fun H locs hP hD hS => ?_)
  have hP : va_P (dC, dI) vwCl [(t, .inr (9, [.ref q7, .ref q15, .ref q23, .ref q31, .int 0, .int 0])), (q7, .inl (k7, 13, .inl (fun _ => 0))), (q15, .inl (k15, 13, .inl (fun _ => 0))), (q23, .inl (k23, 13, .inr (.inl (fun _ => 0)))), (q31, .inl (k31, 13, .inr (.inl (fun _ => 0))))] H := hP
  have hD : va_D A [(t, .inr (9, [.ref q7, .ref q15, .ref q23, .ref q31, .int 0, .int 0])), (q7, .inl (k7, 13, .inl (fun _ => 0))), (q15, .inl (k15, 13, .inl (fun _ => 0))), (q23, .inl (k23, 13, .inr (.inl (fun _ => 0)))), (q31, .inl (k31, 13, .inr (.inl (fun _ => 0))))] := hD
  have hP9 := hP.sub (ws' := [(t, .inr (9, [.ref q7, .ref q15, .ref q23, .ref q31, .int 0, .int 0]))]) [0] rfl
  have hD9 := hD.sub (ws' := [(t, .inr (9, [.ref q7, .ref q15, .ref q23, .ref q31, .int 0, .int 0]))]) [0] (by decide) rfl
  have hK9 := hK.sub (tys' := []) [] rfl
  refine W.widen (k := 4) (n := 52) (Nat.le_of_ble_eq_true rfl) (Nat.le_of_ble_eq_true rfl) ?_
  exact W.vret hx hb hr (fun t ht hW => ⟨⟨[.ref q7, .ref q15, .ref q23, .ref q31, .int 0, .int 0], rfl, trivial, by rw [ht]; exact hP9, va_K.moved hW.alike hK9, hD9⟩, hS.F ht⟩) hS.2.2 dX6_init_36

def zwX5_init : List Cond := .code yX5_init cX5_init 3 none :: (([.methodLink RX5 3 objectInit, .instanceMethod objectInit, .code objectInit ⟨#[0xb1]⟩ 1 none, .fieldLink RX5 9 "Spotbeat$Station" "number" "I", .fieldLink RX5 15 "Spotbeat$Station" "firstBeat" "I", .classLink RX5 18 RX3, .fieldLink RX5 20 "Spotbeat$Station" "crew" "[LSpotbeat$Robot;"] : List Cond) ++ (wsX50))
theorem zgX5_init : zwX5_init.all goodWord = true := zgo rfl (zga (by decide +kernel) (zgcX5))
set_option maxHeartbeats 4000000 in
set_option maxRecDepth 100000 in
/-- Station(a, b): it is there -/
theorem c_X5_init (l : Launch) (dC : Nat → ClassId) (dI : Nat → Nat → Nat) (sz : Nat) (t : Nat) (a : Int32) (b : Int32) : Met l yX5_init zwX5_init ({ frames := 1, cells := 1, slots := 3, locals := 12 }) (gPcE dC dI sz [(t, .inr (8, [.int 0, .int 0, .null, .int 0, .null, .int 0, .int 0, .int 0, .int 0, .int 0, .int 0, .int 0]))] [] [.ref t, .int a, .int b]) (va_Qv (fun (u : List Value) => True) (fun u t => va_P (dC, dI) vwCl [(t, .inr (8, u))] t.heap ∧ va_K (dC, dI) vwCl [] t ∧ va_D (va_A [(t, .inr (8, [.int 0, .int 0, .null, .int 0, .null, .int 0, .int 0, .int 0, .int 0, .int 0, .int 0, .int 0]))] sz) [(t, .inr (8, u))]) (va_A [(t, .inr (8, [.int 0, .int 0, .null, .int 0, .null, .int 0, .int 0, .int 0, .int 0, .int 0, .int 0, .int 0]))] sz)) 1 3 (va_A [(t, .inr (8, [.int 0, .int 0, .null, .int 0, .null, .int 0, .int 0, .int 0, .int 0, .int 0, .int 0, .int 0]))] sz) := by
  refine Met.ofW (cc := cX5_init) (maxL := 3) (ret := none) (by decide) rfl ?_
  intro p e s m args below meth c s₁ B hml hv
  obtain ⟨rfl, hsz, hP, hK, hD0, hE⟩ := hv
  have hx := B.exec
  have hb := B.bytes
  have hr := B.returns
  have hts := atoms_spec (ws := zwX5_init) B.pre
  have hown : s.vm.findClass RX5 = some m.cls := findClass_of_methodNamed B.named
  have hlocks := B.notSynchronized
  have hin : meth.name = "<init>" := (name_of_methodNamed B.named B.method).1
  subst hsz
  have hD := hD0.self (sz := s.heap.size)
  generalize hAe : va_A [(t, .inr (8, [.int 0, .int 0, .null, .int 0, .null, .int 0, .int 0, .int 0, .int 0, .int 0, .int 0, .int 0]))] s.heap.size = A at hD hE ⊢
  have hA : ∀ q : Nat, s.heap.size ≤ q → A q := fun q h => by rw [← hAe]; exact Or.inr h
  have hS : va_S A s.heap s.heap [] := va_S.rf
  have hP : va_P (dC, dI) vwCl [(t, .inr (8, [.int 0, .int 0, .null, .int 0, .null, .int 0, .int 0, .int 0, .int 0, .int 0, .int 0, .int 0]))] s.heap := hP
  have hl := lv_entry ([.ref t, .int a, .int b]) (n := 3) (Nat.le_of_ble_eq_true rfl)
  rw [lg_entry_eq]
  generalize (lg_sl ([.ref t, .int a, .int b]) ++ List.replicate (3 - (lg_sl ([.ref t, .int a, .int b])).length) Slot.unset).toArray = ls at hl ⊢
  have hl : lv_has ls 3 [(0, .ref t), (1, .int a), (2, .int b)] := hl
  refine lv_aload_n hx hb dX5_init_0 rfl (lv_at hl 0 rfl) ?_
  refine W.objInit hx hb hown (hts (.methodLink RX5 3 objectInit) (by decide +kernel)) (hts (.instanceMethod objectInit) (by decide +kernel)) (hts (.code objectInit ⟨#[0xb1]⟩ 1 none) (by decide +kernel)) rfl (by rw [hml]; exact hl.1) rfl dX5_init_1 (Nat.le_of_ble_eq_true rfl) (Nat.le_of_ble_eq_true rfl) ?_
  refine W.eq (g2 := F0 m 4 ls []) rfl ?_
  refine lv_aload_n hx hb dX5_init_4 rfl (lv_at hl 0 rfl) ?_
  refine lv_iload_n hx hb dX5_init_5 rfl (lv_at hl 1 rfl) ?_
  refine va_putF (D := (dC, dI)) (ci := 8) (v := .int a) (ty := .int) (C := RX5) (T := TX5) (N := 12) hx hb hts (fun w h => List.mem_cons_of_mem _ (List.mem_append_right _ (h))) tyX5 tyX5_ok nmX5 hown hK hP hD hS 0 rfl rfl 0 (by decide) (hts (.fieldLink RX5 9 "Spotbeat$Station" "number" "I") (by decide +kernel)) (fun _ h9 => h9) rfl hin rfl (by decide +kernel) rfl rfl (Nat.le_of_ble_eq_true rfl) dX5_init_6 (fun H locs hP hD hS => ?_)
  have hP : va_P (dC, dI) vwCl [(t, .inr (8, [.int a, .int 0, .null, .int 0, .null, .int 0, .int 0, .int 0, .int 0, .int 0, .int 0, .int 0]))] H := hP
  have hD : va_D A [(t, .inr (8, [.int a, .int 0, .null, .int 0, .null, .int 0, .int 0, .int 0, .int 0, .int 0, .int 0, .int 0]))] := hD
  refine lv_aload_n hx hb dX5_init_9 rfl (lv_at hl 0 rfl) ?_
  refine lv_iload_n hx hb dX5_init_10 rfl (lv_at hl 2 rfl) ?_
  refine va_putF (D := (dC, dI)) (ci := 8) (v := .int b) (ty := .int) (C := RX5) (T := TX5) (N := 12) hx hb hts (fun w h => List.mem_cons_of_mem _ (List.mem_append_right _ (h))) tyX5 tyX5_ok nmX5 hown hK hP hD hS 0 rfl rfl 1 (by decide) (hts (.fieldLink RX5 15 "Spotbeat$Station" "firstBeat" "I") (by decide +kernel)) (fun _ h9 => h9) rfl hin rfl (by decide +kernel) rfl rfl (Nat.le_of_ble_eq_true rfl) dX5_init_11 (fun H locs hP hD hS => ?_)
  have hP : va_P (dC, dI) vwCl [(t, .inr (8, [.int a, .int b, .null, .int 0, .null, .int 0, .int 0, .int 0, .int 0, .int 0, .int 0, .int 0]))] H := hP
  have hD : va_D A [(t, .inr (8, [.int a, .int b, .null, .int 0, .null, .int 0, .int 0, .int 0, .int 0, .int 0, .int 0, .int 0]))] := hD
  refine lv_aload_n hx hb dX5_init_14 rfl (lv_at hl 0 rfl) ?_
  refine lv_iconst (v := 3) hx hb dX5_init_15 (by decide) ?_
  refine va_newq (N' := 3) hx hb hown (hts (.classLink RX5 18 RX3) (by decide +kernel)) (hE.2.2.2.2.2.1 _ (by decide)) hK hP hD hS hA (by decide) (by decide +kernel) (by decide) (Nat.le_of_ble_eq_true rfl) (Nat.le_of_ble_eq_true rfl) dX5_init_16 (fun q16 k16 H hK hP hD hS => ?_)
  have hK : va_K (dC, dI) vwCl [(k16, .object RX3)] s := hK
  have hP : va_P (dC, dI) vwCl [(t, .inr (8, [.int a, .int b, .null, .int 0, .null, .int 0, .int 0, .int 0, .int 0, .int 0, .int 0, .int 0])), (q16, .inl (k16, 3, .inr (.inr (.inr (.inr (fun _ => none))))))] H := hP
  have hD : va_D A [(t, .inr (8, [.int a, .int b, .null, .int 0, .null, .int 0, .int 0, .int 0, .int 0, .int 0, .int 0, .int 0])), (q16, .inl (k16, 3, .inr (.inr (.inr (.inr (fun _ => none))))))] := hD
  refine va_putF (D := (dC, dI)) (ci := 8) (v := .ref q16) (ty := .array (.object "Spotbeat$Robot")) (C := RX5) (T := TX5) (N := 12) hx hb hts (fun w h => List.mem_cons_of_mem _ (List.mem_append_right _ (h))) tyX5 tyX5_ok nmX5 hown hK hP hD hS 0 rfl rfl 2 (by decide) (hts (.fieldLink RX5 20 "Spotbeat$Station" "crew" "[LSpotbeat$Robot;") (by decide +kernel)) (fun _ h9 => h9) rfl hin rfl (by decide +kernel) rfl rfl (Nat.le_of_ble_eq_true rfl) dX5_init_19 (fun H locs hP hD hS => ?_)
  have hP : va_P (dC, dI) vwCl [(t, .inr (8, [.int a, .int b, .ref q16, .int 0, .null, .int 0, .int 0, .int 0, .int 0, .int 0, .int 0, .int 0])), (q16, .inl (k16, 3, .inr (.inr (.inr (.inr (fun _ => none))))))] H := hP
  have hD : va_D A [(t, .inr (8, [.int a, .int b, .ref q16, .int 0, .null, .int 0, .int 0, .int 0, .int 0, .int 0, .int 0, .int 0])), (q16, .inl (k16, 3, .inr (.inr (.inr (.inr (fun _ => none))))))] := hD
  have hP9 := hP.sub (ws' := [(t, .inr (8, [.int a, .int b, .ref q16, .int 0, .null, .int 0, .int 0, .int 0, .int 0, .int 0, .int 0, .int 0]))]) [0] rfl
  have hD9 := hD.sub (ws' := [(t, .inr (8, [.int a, .int b, .ref q16, .int 0, .null, .int 0, .int 0, .int 0, .int 0, .int 0, .int 0, .int 0]))]) [0] (by decide) rfl
  have hK9 := hK.sub (tys' := []) [] rfl
  refine W.widen (k := 1) (n := 3) (Nat.le_of_ble_eq_true rfl) (Nat.le_of_ble_eq_true rfl) ?_
  exact W.vret hx hb hr (fun t ht hW => ⟨⟨[.int a, .int b, .ref q16, .int 0, .null, .int 0, .int 0, .int 0, .int 0, .int 0, .int 0, .int 0], rfl, trivial, by rw [ht]; exact hP9, va_K.moved hW.alike hK9, hD9⟩, hS.F ht⟩) hS.2.2 dX5_init_22

def zwX0_init : List Cond := .code yX0_init cX0_init 4 none :: (([.methodLink RX0 3 objectInit, .instanceMethod objectInit, .code objectInit ⟨#[0xb1]⟩ 1 none, .fieldLink RX0 9 "Spotbeat$Body" "number" "I", .fieldLink RX0 15 "Spotbeat$Body" "variant" "I", .fieldLink RX0 18 "Spotbeat$Body" "where" "I", .arrayClass .int, .fieldLink RX0 21 "Spotbeat$Body" "makers" "[I"] : List Cond) ++ (wsX00))
theorem zgX0_init : zwX0_init.all goodWord = true := zgo rfl (zga (by decide +kernel) (zgcX0))
set_option maxHeartbeats 4000000 in
set_option maxRecDepth 100000 in
/-- Body(a, b): it is there -/
theorem c_X0_init (l : Launch) (dC : Nat → ClassId) (dI : Nat → Nat → Nat) (sz : Nat) (t : Nat) (a : Int32) (b : Int32) : Met l yX0_init zwX0_init ({ frames := 1, cells := 1, slots := 24, locals := 12 }) (gPc dC dI sz [(t, .inr (3, [.int 0, .int 0, .null, .int 0, .int 0]))] [] [.ref t, .int a, .int b]) (va_Qv (fun (u : List Value) => True) (fun u t => va_P (dC, dI) vwCl [(t, .inr (3, u))] t.heap ∧ va_K (dC, dI) vwCl [] t ∧ va_D (va_A [(t, .inr (3, [.int 0, .int 0, .null, .int 0, .int 0]))] sz) [(t, .inr (3, u))]) (va_A [(t, .inr (3, [.int 0, .int 0, .null, .int 0, .int 0]))] sz)) 1 24 (va_A [(t, .inr (3, [.int 0, .int 0, .null, .int 0, .int 0]))] sz) := by
  refine Met.ofW (cc := cX0_init) (maxL := 4) (ret := none) (by decide) rfl ?_
  intro p e s m args below meth c s₁ B hml hv
  obtain ⟨rfl, hsz, hP, hK, hD0⟩ := hv
  have hx := B.exec
  have hb := B.bytes
  have hr := B.returns
  have hts := atoms_spec (ws := zwX0_init) B.pre
  have hown : s.vm.findClass RX0 = some m.cls := findClass_of_methodNamed B.named
  have hlocks := B.notSynchronized
  have hin : meth.name = "<init>" := (name_of_methodNamed B.named B.method).1
  subst hsz
  have hD := hD0.self (sz := s.heap.size)
  generalize hAe : va_A [(t, .inr (3, [.int 0, .int 0, .null, .int 0, .int 0]))] s.heap.size = A at hD ⊢
  have hA : ∀ q : Nat, s.heap.size ≤ q → A q := fun q h => by rw [← hAe]; exact Or.inr h
  have hS : va_S A s.heap s.heap [] := va_S.rf
  have hP : va_P (dC, dI) vwCl [(t, .inr (3, [.int 0, .int 0, .null, .int 0, .int 0]))] s.heap := hP
  have hl := lv_entry ([.ref t, .int a, .int b]) (n := 4) (Nat.le_of_ble_eq_true rfl)
  rw [lg_entry_eq]
  generalize (lg_sl ([.ref t, .int a, .int b]) ++ List.replicate (4 - (lg_sl ([.ref t, .int a, .int b])).length) Slot.unset).toArray = ls at hl ⊢
  have hl : lv_has ls 4 [(0, .ref t), (1, .int a), (2, .int b)] := hl
  refine lv_aload_n hx hb dX0_init_0 rfl (lv_at hl 0 rfl) ?_
  refine W.objInit hx hb hown (hts (.methodLink RX0 3 objectInit) (by decide +kernel)) (hts (.instanceMethod objectInit) (by decide +kernel)) (hts (.code objectInit ⟨#[0xb1]⟩ 1 none) (by decide +kernel)) rfl (by rw [hml]; exact hl.1) rfl dX0_init_1 (Nat.le_of_ble_eq_true rfl) (Nat.le_of_ble_eq_true rfl) ?_
  refine W.eq (g2 := F0 m 4 ls []) rfl ?_
  refine lv_aload_n hx hb dX0_init_4 rfl (lv_at hl 0 rfl) ?_
  refine lv_iload_n hx hb dX0_init_5 rfl (lv_at hl 1 rfl) ?_
  refine va_putF (D := (dC, dI)) (ci := 3) (v := .int a) (ty := .int) (C := RX0) (T := TX0) (N := 5) hx hb hts (fun w h => List.mem_cons_of_mem _ (List.mem_append_right _ (h))) tyX0 tyX0_ok nmX0 hown hK hP hD hS 0 rfl rfl 0 (by decide) (hts (.fieldLink RX0 9 "Spotbeat$Body" "number" "I") (by decide +kernel)) (fun _ h9 => h9) rfl hin rfl (by decide +kernel) rfl rfl (Nat.le_of_ble_eq_true rfl) dX0_init_6 (fun H locs hP hD hS => ?_)
  have hP : va_P (dC, dI) vwCl [(t, .inr (3, [.int a, .int 0, .null, .int 0, .int 0]))] H := hP
  have hD : va_D A [(t, .inr (3, [.int a, .int 0, .null, .int 0, .int 0]))] := hD
  refine lv_aload_n hx hb dX0_init_9 rfl (lv_at hl 0 rfl) ?_
  refine lv_iload_n hx hb dX0_init_10 rfl (lv_at hl 2 rfl) ?_
  refine va_putF (D := (dC, dI)) (ci := 3) (v := .int b) (ty := .int) (C := RX0) (T := TX0) (N := 5) hx hb hts (fun w h => List.mem_cons_of_mem _ (List.mem_append_right _ (h))) tyX0 tyX0_ok nmX0 hown hK hP hD hS 0 rfl rfl 1 (by decide) (hts (.fieldLink RX0 15 "Spotbeat$Body" "variant" "I") (by decide +kernel)) (fun _ h9 => h9) rfl hin rfl (by decide +kernel) rfl rfl (Nat.le_of_ble_eq_true rfl) dX0_init_11 (fun H locs hP hD hS => ?_)
  have hP : va_P (dC, dI) vwCl [(t, .inr (3, [.int a, .int b, .null, .int 0, .int 0]))] H := hP
  have hD : va_D A [(t, .inr (3, [.int a, .int b, .null, .int 0, .int 0]))] := hD
  refine lv_aload_n hx hb dX0_init_14 rfl (lv_at hl 0 rfl) ?_
  refine lv_iconst (v := (-1)) hx hb dX0_init_15 (by decide) ?_
  refine va_put (D := (dC, dI)) (ci := 3) (v := .int (-1)) (ty := .int) (C := RX0) (T := TX0) (N := 5) hx hb hts (fun w h => List.mem_cons_of_mem _ (List.mem_append_right _ (h))) tyX0 tyX0_ok nmX0 hown hK hP hD hS 0 rfl rfl 3 (by decide) (hts (.fieldLink RX0 18 "Spotbeat$Body" "where" "I") (by decide +kernel)) (fun _ h9 => h9) rfl (by decide +kernel) rfl rfl (Nat.le_of_ble_eq_true rfl) dX0_init_16 (fun H locs hP hD hS => ?_)
  have hP : va_P (dC, dI) vwCl [(t, .inr (3, [.int a, .int b, .null, .int (-1), .int 0]))] H := hP
  have hD : va_D A [(t, .inr (3, [.int a, .int b, .null, .int (-1), .int 0]))] := hD
  refine lv_aload_n hx hb dX0_init_19 rfl (lv_at hl 0 rfl) ?_
  refine lv_bipush (v := 24) hx hb dX0_init_20 (by decide) ?_
  refine va_newa (atype := .int) (N' := 24) (a0 := (24, .inl (fun _ => 0))) hx hb (hts (.arrayClass .int) (by decide +kernel)) rfl hK hP hD hS hA (fun _ => rfl) (by decide) (by decide +kernel) (by decide) (Nat.le_of_ble_eq_true rfl) (Nat.le_of_ble_eq_true rfl) dX0_init_22 (fun q22 k22 H hK hP hD hS => ?_)
  have hK : va_K (dC, dI) vwCl [(k22, .int)] s := hK
  have hP : va_P (dC, dI) vwCl [(t, .inr (3, [.int a, .int b, .null, .int (-1), .int 0])), (q22, .inl (k22, 24, .inl (fun _ => 0)))] H := hP
  have hD : va_D A [(t, .inr (3, [.int a, .int b, .null, .int (-1), .int 0])), (q22, .inl (k22, 24, .inl (fun _ => 0)))] := hD
  refine va_putF (D := (dC, dI)) (ci := 3) (v := .ref q22) (ty := .array .int) (C := RX0) (T := TX0) (N := 5) hx hb hts (fun w h => List.mem_cons_of_mem _ (List.mem_append_right _ (h))) tyX0 tyX0_ok nmX0 hown hK hP hD hS 0 rfl rfl 2 (by decide) (hts (.fieldLink RX0 21 "Spotbeat$Body" "makers" "[I") (by decide +kernel)) (fun _ h9 => h9) rfl hin rfl (by decide +kernel) rfl rfl (Nat.le_of_ble_eq_true rfl) dX0_init_24 (fun H locs hP hD hS => ?_)
  have hP : va_P (dC, dI) vwCl [(t, .inr (3, [.int a, .int b, .ref q22, .int (-1), .int 0])), (q22, .inl (k22, 24, .inl (fun _ => 0)))] H := hP
  have hD : va_D A [(t, .inr (3, [.int a, .int b, .ref q22, .int (-1), .int 0])), (q22, .inl (k22, 24, .inl (fun _ => 0)))] := hD
  refine lv_iconst (v := 0) hx hb dX0_init_27 (by decide) ?_
  refine lv_istore_n (lv' := [(3, .int 0), (0, .ref t), (1, .int a), (2, .int b)]) hx hb dX0_init_28 rfl hl (by decide) rfl (fun ls hl => ?_)
  refine lv_iload_n hx hb dX0_init_29 rfl (lv_at hl 0 rfl) ?_
  refine lv_aload_n hx hb dX0_init_30 rfl (lv_at hl 1 rfl) ?_
  refine va_get (D := (dC, dI)) (ci := 3) (v := .ref q22) (C := RX0) (T := TX0) (N := 5) hx hb hts (fun w h => List.mem_cons_of_mem _ (List.mem_append_right _ (h))) hown hK hP 0 rfl rfl 2 (by decide) (hts (.fieldLink RX0 21 "Spotbeat$Body" "makers" "[I") (by decide +kernel)) (fun _ h9 => h9) rfl dX0_init_31 ?_
  refine va_alen (v := 24) hx hb hK hP 1 0 rfl rfl rfl dX0_init_34 ?_
  refine lv_icmp_ge (tgt := 52) hx hb dX0_init_35 (by decide) (fun c_1 => absurd c_1 (by decide)) (fun _ => ?_)
  refine lv_aload_n hx hb dX0_init_38 rfl (lv_at hl 1 rfl) ?_
  refine va_get (D := (dC, dI)) (ci := 3) (v := .ref q22) (C := RX0) (T := TX0) (N := 5) hx hb hts (fun w h => List.mem_cons_of_mem _ (List.mem_append_right _ (h))) hown hK hP 0 rfl rfl 2 (by decide) (hts (.fieldLink RX0 21 "Spotbeat$Body" "makers" "[I") (by decide +kernel)) (fun _ h9 => h9) rfl dX0_init_39 ?_
  refine lv_iload_n hx hb dX0_init_42 rfl (lv_at hl 0 rfl) ?_
  refine lv_bipush (v := (-2)) hx hb dX0_init_43 (by decide) ?_
  refine va_iast hx hb hK hP hD hS 1 0 rfl rfl (by decide +kernel) dX0_init_45 (fun H locs hP hD hS => ?_)
  have hP : va_P (dC, dI) vwCl [(t, .inr (3, [.int a, .int b, .ref q22, .int (-1), .int 0])), (q22, .inl (k22, 24, .inl (upd (fun _ => 0) (Int32.toNatClampNeg 0) (-2))))] H := hP
  have hD : va_D A [(t, .inr (3, [.int a, .int b, .ref q22, .int (-1), .int 0])), (q22, .inl (k22, 24, .inl (upd (fun _ => 0) (Int32.toNatClampNeg 0) (-2))))] := hD
  generalize upd (fun _ => 0) (Int32.toNatClampNeg 0) (-2) = f_2 at hP hD
  refine lv_iinc (v := 1) (lv' := [(3, .int 1), (0, .ref t), (1, .int a), (2, .int b)]) hx hb dX0_init_46 hl (k := 0) rfl (by decide) (by decide) rfl (fun ls hl => ?_)
  refine lv_goto (tgt := 29) hx hb dX0_init_49 (by decide) ?_
  refine lv_iload_n hx hb dX0_init_29 rfl (lv_at hl 0 rfl) ?_
  refine lv_aload_n hx hb dX0_init_30 rfl (lv_at hl 1 rfl) ?_
  refine va_get (D := (dC, dI)) (ci := 3) (v := .ref q22) (C := RX0) (T := TX0) (N := 5) hx hb hts (fun w h => List.mem_cons_of_mem _ (List.mem_append_right _ (h))) hown hK hP 0 rfl rfl 2 (by decide) (hts (.fieldLink RX0 21 "Spotbeat$Body" "makers" "[I") (by decide +kernel)) (fun _ h9 => h9) rfl dX0_init_31 ?_
  refine va_alen (v := 24) hx hb hK hP 1 0 rfl rfl rfl dX0_init_34 ?_
  refine lv_icmp_ge (tgt := 52) hx hb dX0_init_35 (by decide) (fun c_3 => absurd c_3 (by decide)) (fun _ => ?_)
  refine lv_aload_n hx hb dX0_init_38 rfl (lv_at hl 1 rfl) ?_
  refine va_get (D := (dC, dI)) (ci := 3) (v := .ref q22) (C := RX0) (T := TX0) (N := 5) hx hb hts (fun w h => List.mem_cons_of_mem _ (List.mem_append_right _ (h))) hown hK hP 0 rfl rfl 2 (by decide) (hts (.fieldLink RX0 21 "Spotbeat$Body" "makers" "[I") (by decide +kernel)) (fun _ h9 => h9) rfl dX0_init_39 ?_
  refine lv_iload_n hx hb dX0_init_42 rfl (lv_at hl 0 rfl) ?_
  refine lv_bipush (v := (-2)) hx hb dX0_init_43 (by decide) ?_
  refine va_iast hx hb hK hP hD hS 1 0 rfl rfl (by decide +kernel) dX0_init_45 (fun H locs hP hD hS => ?_)
  have hP : va_P (dC, dI) vwCl [(t, .inr (3, [.int a, .int b, .ref q22, .int (-1), .int 0])), (q22, .inl (k22, 24, .inl (upd f_2 (Int32.toNatClampNeg 1) (-2))))] H := hP
  have hD : va_D A [(t, .inr (3, [.int a, .int b, .ref q22, .int (-1), .int 0])), (q22, .inl (k22, 24, .inl (upd f_2 (Int32.toNatClampNeg 1) (-2))))] := hD
  generalize upd f_2 (Int32.toNatClampNeg 1) (-2) = f_4 at hP hD
  refine lv_iinc (v := 2) (lv' := [(3, .int 2), (0, .ref t), (1, .int a), (2, .int b)]) hx hb dX0_init_46 hl (k := 0) rfl (by decide) (by decide) rfl (fun ls hl => ?_)
  refine lv_goto (tgt := 29) hx hb dX0_init_49 (by decide) ?_
  refine lv_iload_n hx hb dX0_init_29 rfl (lv_at hl 0 rfl) ?_
  refine lv_aload_n hx hb dX0_init_30 rfl (lv_at hl 1 rfl) ?_
  refine va_get (D := (dC, dI)) (ci := 3) (v := .ref q22) (C := RX0) (T := TX0) (N := 5) hx hb hts (fun w h => List.mem_cons_of_mem _ (List.mem_append_right _ (h))) hown hK hP 0 rfl rfl 2 (by decide) (hts (.fieldLink RX0 21 "Spotbeat$Body" "makers" "[I") (by decide +kernel)) (fun _ h9 => h9) rfl dX0_init_31 ?_
  refine va_alen (v := 24) hx hb hK hP 1 0 rfl rfl rfl dX0_init_34 ?_
  refine lv_icmp_ge (tgt := 52) hx hb dX0_init_35 (by decide) (fun c_5 => absurd c_5 (by decide)) (fun _ => ?_)
  refine lv_aload_n hx hb dX0_init_38 rfl (lv_at hl 1 rfl) ?_
  refine va_get (D := (dC, dI)) (ci := 3) (v := .ref q22) (C := RX0) (T := TX0) (N := 5) hx hb hts (fun w h => List.mem_cons_of_mem _ (List.mem_append_right _ (h))) hown hK hP 0 rfl rfl 2 (by decide) (hts (.fieldLink RX0 21 "Spotbeat$Body" "makers" "[I") (by decide +kernel)) (fun _ h9 => h9) rfl dX0_init_39 ?_
  refine lv_iload_n hx hb dX0_init_42 rfl (lv_at hl 0 rfl) ?_
  refine lv_bipush (v := (-2)) hx hb dX0_init_43 (by decide) ?_
  refine va_iast hx hb hK hP hD hS 1 0 rfl rfl (by decide +kernel) dX0_init_45 (fun H locs hP hD hS => ?_)
  have hP : va_P (dC, dI) vwCl [(t, .inr (3, [.int a, .int b, .ref q22, .int (-1), .int 0])), (q22, .inl (k22, 24, .inl (upd f_4 (Int32.toNatClampNeg 2) (-2))))] H := hP
  have hD : va_D A [(t, .inr (3, [.int a, .int b, .ref q22, .int (-1), .int 0])), (q22, .inl (k22, 24, .inl (upd f_4 (Int32.toNatClampNeg 2) (-2))))] := hD
  generalize upd f_4 (Int32.toNatClampNeg 2) (-2) = f_6 at hP hD
  refine lv_iinc (v := 3) (lv' := [(3, .int 3), (0, .ref t), (1, .int a), (2, .int b)]) hx hb dX0_init_46 hl (k := 0) rfl (by decide) (by decide) rfl (fun ls hl => ?_)
  refine lv_goto (tgt := 29) hx hb dX0_init_49 (by decide) ?_
  refine lv_iload_n hx hb dX0_init_29 rfl (lv_at hl 0 rfl) ?_
  refine lv_aload_n hx hb dX0_init_30 rfl (lv_at hl 1 rfl) ?_
  refine va_get (D := (dC, dI)) (ci := 3) (v := .ref q22) (C := RX0) (T := TX0) (N := 5) hx hb hts (fun w h => List.mem_cons_of_mem _ (List.mem_append_right _ (h))) hown hK hP 0 rfl rfl 2 (by decide) (hts (.fieldLink RX0 21 "Spotbeat$Body" "makers" "[I") (by decide +kernel)) (fun _ h9 => h9) rfl dX0_init_31 ?_
  refine va_alen (v := 24) hx hb hK hP 1 0 rfl rfl rfl dX0_init_34 ?_
  refine lv_icmp_ge (tgt := 52) hx hb dX0_init_35 (by decide) (fun c_7 => absurd c_7 (by decide)) (fun _ => ?_)
  refine lv_aload_n hx hb dX0_init_38 rfl (lv_at hl 1 rfl) ?_
  refine va_get (D := (dC, dI)) (ci := 3) (v := .ref q22) (C := RX0) (T := TX0) (N := 5) hx hb hts (fun w h => List.mem_cons_of_mem _ (List.mem_append_right _ (h))) hown hK hP 0 rfl rfl 2 (by decide) (hts (.fieldLink RX0 21 "Spotbeat$Body" "makers" "[I") (by decide +kernel)) (fun _ h9 => h9) rfl dX0_init_39 ?_
  refine lv_iload_n hx hb dX0_init_42 rfl (lv_at hl 0 rfl) ?_
  refine lv_bipush (v := (-2)) hx hb dX0_init_43 (by decide) ?_
  refine va_iast hx hb hK hP hD hS 1 0 rfl rfl (by decide +kernel) dX0_init_45 (fun H locs hP hD hS => ?_)
  have hP : va_P (dC, dI) vwCl [(t, .inr (3, [.int a, .int b, .ref q22, .int (-1), .int 0])), (q22, .inl (k22, 24, .inl (upd f_6 (Int32.toNatClampNeg 3) (-2))))] H := hP
  have hD : va_D A [(t, .inr (3, [.int a, .int b, .ref q22, .int (-1), .int 0])), (q22, .inl (k22, 24, .inl (upd f_6 (Int32.toNatClampNeg 3) (-2))))] := hD
  generalize upd f_6 (Int32.toNatClampNeg 3) (-2) = f_8 at hP hD
  refine lv_iinc (v := 4) (lv' := [(3, .int 4), (0, .ref t), (1, .int a), (2, .int b)]) hx hb dX0_init_46 hl (k := 0) rfl (by decide) (by decide) rfl (fun ls hl => ?_)
  refine lv_goto (tgt := 29) hx hb dX0_init_49 (by decide) ?_
  refine lv_iload_n hx hb dX0_init_29 rfl (lv_at hl 0 rfl) ?_
  refine lv_aload_n hx hb dX0_init_30 rfl (lv_at hl 1 rfl) ?_
  refine va_get (D := (dC, dI)) (ci := 3) (v := .ref q22) (C := RX0) (T := TX0) (N := 5) hx hb hts (fun w h => List.mem_cons_of_mem _ (List.mem_append_right _ (h))) hown hK hP 0 rfl rfl 2 (by decide) (hts (.fieldLink RX0 21 "Spotbeat$Body" "makers" "[I") (by decide +kernel)) (fun _ h9 => h9) rfl dX0_init_31 ?_
  refine va_alen (v := 24) hx hb hK hP 1 0 rfl rfl rfl dX0_init_34 ?_
  refine lv_icmp_ge (tgt := 52) hx hb dX0_init_35 (by decide) (fun c_9 => absurd c_9 (by decide)) (fun _ => ?_)
  refine lv_aload_n hx hb dX0_init_38 rfl (lv_at hl 1 rfl) ?_
  refine va_get (D := (dC, dI)) (ci := 3) (v := .ref q22) (C := RX0) (T := TX0) (N := 5) hx hb hts (fun w h => List.mem_cons_of_mem _ (List.mem_append_right _ (h))) hown hK hP 0 rfl rfl 2 (by decide) (hts (.fieldLink RX0 21 "Spotbeat$Body" "makers" "[I") (by decide +kernel)) (fun _ h9 => h9) rfl dX0_init_39 ?_
  refine lv_iload_n hx hb dX0_init_42 rfl (lv_at hl 0 rfl) ?_
  refine lv_bipush (v := (-2)) hx hb dX0_init_43 (by decide) ?_
  refine va_iast hx hb hK hP hD hS 1 0 rfl rfl (by decide +kernel) dX0_init_45 (fun H locs hP hD hS => ?_)
  have hP : va_P (dC, dI) vwCl [(t, .inr (3, [.int a, .int b, .ref q22, .int (-1), .int 0])), (q22, .inl (k22, 24, .inl (upd f_8 (Int32.toNatClampNeg 4) (-2))))] H := hP
  have hD : va_D A [(t, .inr (3, [.int a, .int b, .ref q22, .int (-1), .int 0])), (q22, .inl (k22, 24, .inl (upd f_8 (Int32.toNatClampNeg 4) (-2))))] := hD
  generalize upd f_8 (Int32.toNatClampNeg 4) (-2) = f_10 at hP hD
  refine lv_iinc (v := 5) (lv' := [(3, .int 5), (0, .ref t), (1, .int a), (2, .int b)]) hx hb dX0_init_46 hl (k := 0) rfl (by decide) (by decide) rfl (fun ls hl => ?_)
  refine lv_goto (tgt := 29) hx hb dX0_init_49 (by decide) ?_
  refine lv_iload_n hx hb dX0_init_29 rfl (lv_at hl 0 rfl) ?_
  refine lv_aload_n hx hb dX0_init_30 rfl (lv_at hl 1 rfl) ?_
  refine va_get (D := (dC, dI)) (ci := 3) (v := .ref q22) (C := RX0) (T := TX0) (N := 5) hx hb hts (fun w h => List.mem_cons_of_mem _ (List.mem_append_right _ (h))) hown hK hP 0 rfl rfl 2 (by decide) (hts (.fieldLink RX0 21 "Spotbeat$Body" "makers" "[I") (by decide +kernel)) (fun _ h9 => h9) rfl dX0_init_31 ?_
  refine va_alen (v := 24) hx hb hK hP 1 0 rfl rfl rfl dX0_init_34 ?_
  refine lv_icmp_ge (tgt := 52) hx hb dX0_init_35 (by decide) (fun c_11 => absurd c_11 (by decide)) (fun _ => ?_)
  refine lv_aload_n hx hb dX0_init_38 rfl (lv_at hl 1 rfl) ?_
  refine va_get (D := (dC, dI)) (ci := 3) (v := .ref q22) (C := RX0) (T := TX0) (N := 5) hx hb hts (fun w h => List.mem_cons_of_mem _ (List.mem_append_right _ (h))) hown hK hP 0 rfl rfl 2 (by decide) (hts (.fieldLink RX0 21 "Spotbeat$Body" "makers" "[I") (by decide +kernel)) (fun _ h9 => h9) rfl dX0_init_39 ?_
  refine lv_iload_n hx hb dX0_init_42 rfl (lv_at hl 0 rfl) ?_
  refine lv_bipush (v := (-2)) hx hb dX0_init_43 (by decide) ?_
  refine va_iast hx hb hK hP hD hS 1 0 rfl rfl (by decide +kernel) dX0_init_45 (fun H locs hP hD hS => ?_)
  have hP : va_P (dC, dI) vwCl [(t, .inr (3, [.int a, .int b, .ref q22, .int (-1), .int 0])), (q22, .inl (k22, 24, .inl (upd f_10 (Int32.toNatClampNeg 5) (-2))))] H := hP
  have hD : va_D A [(t, .inr (3, [.int a, .int b, .ref q22, .int (-1), .int 0])), (q22, .inl (k22, 24, .inl (upd f_10 (Int32.toNatClampNeg 5) (-2))))] := hD
  generalize upd f_10 (Int32.toNatClampNeg 5) (-2) = f_12 at hP hD
  refine lv_iinc (v := 6) (lv' := [(3, .int 6), (0, .ref t), (1, .int a), (2, .int b)]) hx hb dX0_init_46 hl (k := 0) rfl (by decide) (by decide) rfl (fun ls hl => ?_)
  refine lv_goto (tgt := 29) hx hb dX0_init_49 (by decide) ?_
  refine lv_iload_n hx hb dX0_init_29 rfl (lv_at hl 0 rfl) ?_
  refine lv_aload_n hx hb dX0_init_30 rfl (lv_at hl 1 rfl) ?_
  refine va_get (D := (dC, dI)) (ci := 3) (v := .ref q22) (C := RX0) (T := TX0) (N := 5) hx hb hts (fun w h => List.mem_cons_of_mem _ (List.mem_append_right _ (h))) hown hK hP 0 rfl rfl 2 (by decide) (hts (.fieldLink RX0 21 "Spotbeat$Body" "makers" "[I") (by decide +kernel)) (fun _ h9 => h9) rfl dX0_init_31 ?_
  refine va_alen (v := 24) hx hb hK hP 1 0 rfl rfl rfl dX0_init_34 ?_
  refine lv_icmp_ge (tgt := 52) hx hb dX0_init_35 (by decide) (fun c_13 => absurd c_13 (by decide)) (fun _ => ?_)
  refine lv_aload_n hx hb dX0_init_38 rfl (lv_at hl 1 rfl) ?_
  refine va_get (D := (dC, dI)) (ci := 3) (v := .ref q22) (C := RX0) (T := TX0) (N := 5) hx hb hts (fun w h => List.mem_cons_of_mem _ (List.mem_append_right _ (h))) hown hK hP 0 rfl rfl 2 (by decide) (hts (.fieldLink RX0 21 "Spotbeat$Body" "makers" "[I") (by decide +kernel)) (fun _ h9 => h9) rfl dX0_init_39 ?_
  refine lv_iload_n hx hb dX0_init_42 rfl (lv_at hl 0 rfl) ?_
  refine lv_bipush (v := (-2)) hx hb dX0_init_43 (by decide) ?_
  refine va_iast hx hb hK hP hD hS 1 0 rfl rfl (by decide +kernel) dX0_init_45 (fun H locs hP hD hS => ?_)
  have hP : va_P (dC, dI) vwCl [(t, .inr (3, [.int a, .int b, .ref q22, .int (-1), .int 0])), (q22, .inl (k22, 24, .inl (upd f_12 (Int32.toNatClampNeg 6) (-2))))] H := hP
  have hD : va_D A [(t, .inr (3, [.int a, .int b, .ref q22, .int (-1), .int 0])), (q22, .inl (k22, 24, .inl (upd f_12 (Int32.toNatClampNeg 6) (-2))))] := hD
  generalize upd f_12 (Int32.toNatClampNeg 6) (-2) = f_14 at hP hD
  refine lv_iinc (v := 7) (lv' := [(3, .int 7), (0, .ref t), (1, .int a), (2, .int b)]) hx hb dX0_init_46 hl (k := 0) rfl (by decide) (by decide) rfl (fun ls hl => ?_)
  refine lv_goto (tgt := 29) hx hb dX0_init_49 (by decide) ?_
  refine lv_iload_n hx hb dX0_init_29 rfl (lv_at hl 0 rfl) ?_
  refine lv_aload_n hx hb dX0_init_30 rfl (lv_at hl 1 rfl) ?_
  refine va_get (D := (dC, dI)) (ci := 3) (v := .ref q22) (C := RX0) (T := TX0) (N := 5) hx hb hts (fun w h => List.mem_cons_of_mem _ (List.mem_append_right _ (h))) hown hK hP 0 rfl rfl 2 (by decide) (hts (.fieldLink RX0 21 "Spotbeat$Body" "makers" "[I") (by decide +kernel)) (fun _ h9 => h9) rfl dX0_init_31 ?_
  refine va_alen (v := 24) hx hb hK hP 1 0 rfl rfl rfl dX0_init_34 ?_
  refine lv_icmp_ge (tgt := 52) hx hb dX0_init_35 (by decide) (fun c_15 => absurd c_15 (by decide)) (fun _ => ?_)
  refine lv_aload_n hx hb dX0_init_38 rfl (lv_at hl 1 rfl) ?_
  refine va_get (D := (dC, dI)) (ci := 3) (v := .ref q22) (C := RX0) (T := TX0) (N := 5) hx hb hts (fun w h => List.mem_cons_of_mem _ (List.mem_append_right _ (h))) hown hK hP 0 rfl rfl 2 (by decide) (hts (.fieldLink RX0 21 "Spotbeat$Body" "makers" "[I") (by decide +kernel)) (fun _ h9 => h9) rfl dX0_init_39 ?_
  refine lv_iload_n hx hb dX0_init_42 rfl (lv_at hl 0 rfl) ?_
  refine lv_bipush (v := (-2)) hx hb dX0_init_43 (by decide) ?_
  refine va_iast hx hb hK hP hD hS 1 0 rfl rfl (by decide +kernel) dX0_init_45 (fun H locs hP hD hS => ?_)
  have hP : va_P (dC, dI) vwCl [(t, .inr (3, [.int a, .int b, .ref q22, .int (-1), .int 0])), (q22, .inl (k22, 24, .inl (upd f_14 (Int32.toNatClampNeg 7) (-2))))] H := hP
  have hD : va_D A [(t, .inr (3, [.int a, .int b, .ref q22, .int (-1), .int 0])), (q22, .inl (k22, 24, .inl (upd f_14 (Int32.toNatClampNeg 7) (-2))))] := hD
  generalize upd f_14 (Int32.toNatClampNeg 7) (-2) = f_16 at hP hD
  refine lv_iinc (v := 8) (lv' := [(3, .int 8), (0, .ref t), (1, .int a), (2, .int b)]) hx hb dX0_init_46 hl (k := 0) rfl (by decide) (by decide) rfl (fun ls hl => ?_)
  refine lv_goto (tgt := 29) hx hb dX0_init_49 (by decide) ?_
  refine lv_iload_n hx hb dX0_init_29 rfl (lv_at hl 0 rfl) ?_
  refine lv_aload_n hx hb dX0_init_30 rfl (lv_at hl 1 rfl) ?_
  refine va_get (D := (dC, dI)) (ci := 3) (v := .ref q22) (C := RX0) (T := TX0) (N := 5) hx hb hts (fun w h => List.mem_cons_of_mem _ (List.mem_append_right _ (h))) hown hK hP 0 rfl rfl 2 (by decide) (hts (.fieldLink RX0 21 "Spotbeat$Body" "makers" "[I") (by decide +kernel)) (fun _ h9 => h9) rfl dX0_init_31 ?_
  refine va_alen (v := 24) hx hb hK hP 1 0 rfl rfl rfl dX0_init_34 ?_
  refine lv_icmp_ge (tgt := 52) hx hb dX0_init_35 (by decide) (fun c_17 => absurd c_17 (by decide)) (fun _ => ?_)
  refine lv_aload_n hx hb dX0_init_38 rfl (lv_at hl 1 rfl) ?_
  refine va_get (D := (dC, dI)) (ci := 3) (v := .ref q22) (C := RX0) (T := TX0) (N := 5) hx hb hts (fun w h => List.mem_cons_of_mem _ (List.mem_append_right _ (h))) hown hK hP 0 rfl rfl 2 (by decide) (hts (.fieldLink RX0 21 "Spotbeat$Body" "makers" "[I") (by decide +kernel)) (fun _ h9 => h9) rfl dX0_init_39 ?_
  refine lv_iload_n hx hb dX0_init_42 rfl (lv_at hl 0 rfl) ?_
  refine lv_bipush (v := (-2)) hx hb dX0_init_43 (by decide) ?_
  refine va_iast hx hb hK hP hD hS 1 0 rfl rfl (by decide +kernel) dX0_init_45 (fun H locs hP hD hS => ?_)
  have hP : va_P (dC, dI) vwCl [(t, .inr (3, [.int a, .int b, .ref q22, .int (-1), .int 0])), (q22, .inl (k22, 24, .inl (upd f_16 (Int32.toNatClampNeg 8) (-2))))] H := hP
  have hD : va_D A [(t, .inr (3, [.int a, .int b, .ref q22, .int (-1), .int 0])), (q22, .inl (k22, 24, .inl (upd f_16 (Int32.toNatClampNeg 8) (-2))))] := hD
  generalize upd f_16 (Int32.toNatClampNeg 8) (-2) = f_18 at hP hD
  refine lv_iinc (v := 9) (lv' := [(3, .int 9), (0, .ref t), (1, .int a), (2, .int b)]) hx hb dX0_init_46 hl (k := 0) rfl (by decide) (by decide) rfl (fun ls hl => ?_)
  refine lv_goto (tgt := 29) hx hb dX0_init_49 (by decide) ?_
  refine lv_iload_n hx hb dX0_init_29 rfl (lv_at hl 0 rfl) ?_
  refine lv_aload_n hx hb dX0_init_30 rfl (lv_at hl 1 rfl) ?_
  refine va_get (D := (dC, dI)) (ci := 3) (v := .ref q22) (C := RX0) (T := TX0) (N := 5) hx hb hts (fun w h => List.mem_cons_of_mem _ (List.mem_append_right _ (h))) hown hK hP 0 rfl rfl 2 (by decide) (hts (.fieldLink RX0 21 "Spotbeat$Body" "makers" "[I") (by decide +kernel)) (fun _ h9 => h9) rfl dX0_init_31 ?_
  refine va_alen (v := 24) hx hb hK hP 1 0 rfl rfl rfl dX0_init_34 ?_
  refine lv_icmp_ge (tgt := 52) hx hb dX0_init_35 (by decide) (fun c_19 => absurd c_19 (by decide)) (fun _ => ?_)
  refine lv_aload_n hx hb dX0_init_38 rfl (lv_at hl 1 rfl) ?_
  refine va_get (D := (dC, dI)) (ci := 3) (v := .ref q22) (C := RX0) (T := TX0) (N := 5) hx hb hts (fun w h => List.mem_cons_of_mem _ (List.mem_append_right _ (h))) hown hK hP 0 rfl rfl 2 (by decide) (hts (.fieldLink RX0 21 "Spotbeat$Body" "makers" "[I") (by decide +kernel)) (fun _ h9 => h9) rfl dX0_init_39 ?_
  refine lv_iload_n hx hb dX0_init_42 rfl (lv_at hl 0 rfl) ?_
  refine lv_bipush (v := (-2)) hx hb dX0_init_43 (by decide) ?_
  refine va_iast hx hb hK hP hD hS 1 0 rfl rfl (by decide +kernel) dX0_init_45 (fun H locs hP hD hS => ?_)
  have hP : va_P (dC, dI) vwCl [(t, .inr (3, [.int a, .int b, .ref q22, .int (-1), .int 0])), (q22, .inl (k22, 24, .inl (upd f_18 (Int32.toNatClampNeg 9) (-2))))] H := hP
  have hD : va_D A [(t, .inr (3, [.int a, .int b, .ref q22, .int (-1), .int 0])), (q22, .inl (k22, 24, .inl (upd f_18 (Int32.toNatClampNeg 9) (-2))))] := hD
  generalize upd f_18 (Int32.toNatClampNeg 9) (-2) = f_20 at hP hD
  refine lv_iinc (v := 10) (lv' := [(3, .int 10), (0, .ref t), (1, .int a), (2, .int b)]) hx hb dX0_init_46 hl (k := 0) rfl (by decide) (by decide) rfl (fun ls hl => ?_)
  refine lv_goto (tgt := 29) hx hb dX0_init_49 (by decide) ?_
  refine lv_iload_n hx hb dX0_init_29 rfl (lv_at hl 0 rfl) ?_
  refine lv_aload_n hx hb dX0_init_30 rfl (lv_at hl 1 rfl) ?_
  refine va_get (D := (dC, dI)) (ci := 3) (v := .ref q22) (C := RX0) (T := TX0) (N := 5) hx hb hts (fun w h => List.mem_cons_of_mem _ (List.mem_append_right _ (h))) hown hK hP 0 rfl rfl 2 (by decide) (hts (.fieldLink RX0 21 "Spotbeat$Body" "makers" "[I") (by decide +kernel)) (fun _ h9 => h9) rfl dX0_init_31 ?_
  refine va_alen (v := 24) hx hb hK hP 1 0 rfl rfl rfl dX0_init_34 ?_
  refine lv_icmp_ge (tgt := 52) hx hb dX0_init_35 (by decide) (fun c_21 => absurd c_21 (by decide)) (fun _ => ?_)
  refine lv_aload_n hx hb dX0_init_38 rfl (lv_at hl 1 rfl) ?_
  refine va_get (D := (dC, dI)) (ci := 3) (v := .ref q22) (C := RX0) (T := TX0) (N := 5) hx hb hts (fun w h => List.mem_cons_of_mem _ (List.mem_append_right _ (h))) hown hK hP 0 rfl rfl 2 (by decide) (hts (.fieldLink RX0 21 "Spotbeat$Body" "makers" "[I") (by decide +kernel)) (fun _ h9 => h9) rfl dX0_init_39 ?_
  refine lv_iload_n hx hb dX0_init_42 rfl (lv_at hl 0 rfl) ?_
  refine lv_bipush (v := (-2)) hx hb dX0_init_43 (by decide) ?_
  refine va_iast hx hb hK hP hD hS 1 0 rfl rfl (by decide +kernel) dX0_init_45 (fun H locs hP hD hS => ?_)
  have hP : va_P (dC, dI) vwCl [(t, .inr (3, [.int a, .int b, .ref q22, .int (-1), .int 0])), (q22, .inl (k22, 24, .inl (upd f_20 (Int32.toNatClampNeg 10) (-2))))] H := hP
  have hD : va_D A [(t, .inr (3, [.int a, .int b, .ref q22, .int (-1), .int 0])), (q22, .inl (k22, 24, .inl (upd f_20 (Int32.toNatClampNeg 10) (-2))))] := hD
  generalize upd f_20 (Int32.toNatClampNeg 10) (-2) = f_22 at hP hD
  refine lv_iinc (v := 11) (lv' := [(3, .int 11), (0, .ref t), (1, .int a), (2, .int b)]) hx hb dX0_init_46 hl (k := 0) rfl (by decide) (by decide) rfl (fun ls hl => ?_)
  refine lv_goto (tgt := 29) hx hb dX0_init_49 (by decide) ?_
  refine lv_iload_n hx hb dX0_init_29 rfl (lv_at hl 0 rfl) ?_
  refine lv_aload_n hx hb dX0_init_30 rfl (lv_at hl 1 rfl) ?_
  refine va_get (D := (dC, dI)) (ci := 3) (v := .ref q22) (C := RX0) (T := TX0) (N := 5) hx hb hts (fun w h => List.mem_cons_of_mem _ (List.mem_append_right _ (h))) hown hK hP 0 rfl rfl 2 (by decide) (hts (.fieldLink RX0 21 "Spotbeat$Body" "makers" "[I") (by decide +kernel)) (fun _ h9 => h9) rfl dX0_init_31 ?_
  refine va_alen (v := 24) hx hb hK hP 1 0 rfl rfl rfl dX0_init_34 ?_
  refine lv_icmp_ge (tgt := 52) hx hb dX0_init_35 (by decide) (fun c_23 => absurd c_23 (by decide)) (fun _ => ?_)
  refine lv_aload_n hx hb dX0_init_38 rfl (lv_at hl 1 rfl) ?_
  refine va_get (D := (dC, dI)) (ci := 3) (v := .ref q22) (C := RX0) (T := TX0) (N := 5) hx hb hts (fun w h => List.mem_cons_of_mem _ (List.mem_append_right _ (h))) hown hK hP 0 rfl rfl 2 (by decide) (hts (.fieldLink RX0 21 "Spotbeat$Body" "makers" "[I") (by decide +kernel)) (fun _ h9 => h9) rfl dX0_init_39 ?_
  refine lv_iload_n hx hb dX0_init_42 rfl (lv_at hl 0 rfl) ?_
  refine lv_bipush (v := (-2)) hx hb dX0_init_43 (by decide) ?_
  refine va_iast hx hb hK hP hD hS 1 0 rfl rfl (by decide +kernel) dX0_init_45 (fun H locs hP hD hS => ?_)
  have hP : va_P (dC, dI) vwCl [(t, .inr (3, [.int a, .int b, .ref q22, .int (-1), .int 0])), (q22, .inl (k22, 24, .inl (upd f_22 (Int32.toNatClampNeg 11) (-2))))] H := hP
  have hD : va_D A [(t, .inr (3, [.int a, .int b, .ref q22, .int (-1), .int 0])), (q22, .inl (k22, 24, .inl (upd f_22 (Int32.toNatClampNeg 11) (-2))))] := hD
  generalize upd f_22 (Int32.toNatClampNeg 11) (-2) = f_24 at hP hD
  refine lv_iinc (v := 12) (lv' := [(3, .int 12), (0, .ref t), (1, .int a), (2, .int b)]) hx hb dX0_init_46 hl (k := 0) rfl (by decide) (by decide) rfl (fun ls hl => ?_)
  refine lv_goto (tgt := 29) hx hb dX0_init_49 (by decide) ?_
  refine lv_iload_n hx hb dX0_init_29 rfl (lv_at hl 0 rfl) ?_
  refine lv_aload_n hx hb dX0_init_30 rfl (lv_at hl 1 rfl) ?_
  refine va_get (D := (dC, dI)) (ci := 3) (v := .ref q22) (C := RX0) (T := TX0) (N := 5) hx hb hts (fun w h => List.mem_cons_of_mem _ (List.mem_append_right _ (h))) hown hK hP 0 rfl rfl 2 (by decide) (hts (.fieldLink RX0 21 "Spotbeat$Body" "makers" "[I") (by decide +kernel)) (fun _ h9 => h9) rfl dX0_init_31 ?_
  refine va_alen (v := 24) hx hb hK hP 1 0 rfl rfl rfl dX0_init_34 ?_
  refine lv_icmp_ge (tgt := 52) hx hb dX0_init_35 (by decide) (fun c_25 => absurd c_25 (by decide)) (fun _ => ?_)
  refine lv_aload_n hx hb dX0_init_38 rfl (lv_at hl 1 rfl) ?_
  refine va_get (D := (dC, dI)) (ci := 3) (v := .ref q22) (C := RX0) (T := TX0) (N := 5) hx hb hts (fun w h => List.mem_cons_of_mem _ (List.mem_append_right _ (h))) hown hK hP 0 rfl rfl 2 (by decide) (hts (.fieldLink RX0 21 "Spotbeat$Body" "makers" "[I") (by decide +kernel)) (fun _ h9 => h9) rfl dX0_init_39 ?_
  refine lv_iload_n hx hb dX0_init_42 rfl (lv_at hl 0 rfl) ?_
  refine lv_bipush (v := (-2)) hx hb dX0_init_43 (by decide) ?_
  refine va_iast hx hb hK hP hD hS 1 0 rfl rfl (by decide +kernel) dX0_init_45 (fun H locs hP hD hS => ?_)
  have hP : va_P (dC, dI) vwCl [(t, .inr (3, [.int a, .int b, .ref q22, .int (-1), .int 0])), (q22, .inl (k22, 24, .inl (upd f_24 (Int32.toNatClampNeg 12) (-2))))] H := hP
  have hD : va_D A [(t, .inr (3, [.int a, .int b, .ref q22, .int (-1), .int 0])), (q22, .inl (k22, 24, .inl (upd f_24 (Int32.toNatClampNeg 12) (-2))))] := hD
  generalize upd f_24 (Int32.toNatClampNeg 12) (-2) = f_26 at hP hD
  refine lv_iinc (v := 13) (lv' := [(3, .int 13), (0, .ref t), (1, .int a), (2, .int b)]) hx hb dX0_init_46 hl (k := 0) rfl (by decide) (by decide) rfl (fun ls hl => ?_)
  refine lv_goto (tgt := 29) hx hb dX0_init_49 (by decide) ?_
  refine lv_iload_n hx hb dX0_init_29 rfl (lv_at hl 0 rfl) ?_
  refine lv_aload_n hx hb dX0_init_30 rfl (lv_at hl 1 rfl) ?_
  refine va_get (D := (dC, dI)) (ci := 3) (v := .ref q22) (C := RX0) (T := TX0) (N := 5) hx hb hts (fun w h => List.mem_cons_of_mem _ (List.mem_append_right _ (h))) hown hK hP 0 rfl rfl 2 (by decide) (hts (.fieldLink RX0 21 "Spotbeat$Body" "makers" "[I") (by decide +kernel)) (fun _ h9 => h9) rfl dX0_init_31 ?_
  refine va_alen (v := 24) hx hb hK hP 1 0 rfl rfl rfl dX0_init_34 ?_
  refine lv_icmp_ge (tgt := 52) hx hb dX0_init_35 (by decide) (fun c_27 => absurd c_27 (by decide)) (fun _ => ?_)
  refine lv_aload_n hx hb dX0_init_38 rfl (lv_at hl 1 rfl) ?_
  refine va_get (D := (dC, dI)) (ci := 3) (v := .ref q22) (C := RX0) (T := TX0) (N := 5) hx hb hts (fun w h => List.mem_cons_of_mem _ (List.mem_append_right _ (h))) hown hK hP 0 rfl rfl 2 (by decide) (hts (.fieldLink RX0 21 "Spotbeat$Body" "makers" "[I") (by decide +kernel)) (fun _ h9 => h9) rfl dX0_init_39 ?_
  refine lv_iload_n hx hb dX0_init_42 rfl (lv_at hl 0 rfl) ?_
  refine lv_bipush (v := (-2)) hx hb dX0_init_43 (by decide) ?_
  refine va_iast hx hb hK hP hD hS 1 0 rfl rfl (by decide +kernel) dX0_init_45 (fun H locs hP hD hS => ?_)
  have hP : va_P (dC, dI) vwCl [(t, .inr (3, [.int a, .int b, .ref q22, .int (-1), .int 0])), (q22, .inl (k22, 24, .inl (upd f_26 (Int32.toNatClampNeg 13) (-2))))] H := hP
  have hD : va_D A [(t, .inr (3, [.int a, .int b, .ref q22, .int (-1), .int 0])), (q22, .inl (k22, 24, .inl (upd f_26 (Int32.toNatClampNeg 13) (-2))))] := hD
  generalize upd f_26 (Int32.toNatClampNeg 13) (-2) = f_28 at hP hD
  refine lv_iinc (v := 14) (lv' := [(3, .int 14), (0, .ref t), (1, .int a), (2, .int b)]) hx hb dX0_init_46 hl (k := 0) rfl (by decide) (by decide) rfl (fun ls hl => ?_)
  refine lv_goto (tgt := 29) hx hb dX0_init_49 (by decide) ?_
  refine lv_iload_n hx hb dX0_init_29 rfl (lv_at hl 0 rfl) ?_
  refine lv_aload_n hx hb dX0_init_30 rfl (lv_at hl 1 rfl) ?_
  refine va_get (D := (dC, dI)) (ci := 3) (v := .ref q22) (C := RX0) (T := TX0) (N := 5) hx hb hts (fun w h => List.mem_cons_of_mem _ (List.mem_append_right _ (h))) hown hK hP 0 rfl rfl 2 (by decide) (hts (.fieldLink RX0 21 "Spotbeat$Body" "makers" "[I") (by decide +kernel)) (fun _ h9 => h9) rfl dX0_init_31 ?_
  refine va_alen (v := 24) hx hb hK hP 1 0 rfl rfl rfl dX0_init_34 ?_
  refine lv_icmp_ge (tgt := 52) hx hb dX0_init_35 (by decide) (fun c_29 => absurd c_29 (by decide)) (fun _ => ?_)
  refine lv_aload_n hx hb dX0_init_38 rfl (lv_at hl 1 rfl) ?_
  refine va_get (D := (dC, dI)) (ci := 3) (v := .ref q22) (C := RX0) (T := TX0) (N := 5) hx hb hts (fun w h => List.mem_cons_of_mem _ (List.mem_append_right _ (h))) hown hK hP 0 rfl rfl 2 (by decide) (hts (.fieldLink RX0 21 "Spotbeat$Body" "makers" "[I") (by decide +kernel)) (fun _ h9 => h9) rfl dX0_init_39 ?_
  refine lv_iload_n hx hb dX0_init_42 rfl (lv_at hl 0 rfl) ?_
  refine lv_bipush (v := (-2)) hx hb dX0_init_43 (by decide) ?_
  refine va_iast hx hb hK hP hD hS 1 0 rfl rfl (by decide +kernel) dX0_init_45 (fun H locs hP hD hS => ?_)
  have hP : va_P (dC, dI) vwCl [(t, .inr (3, [.int a, .int b, .ref q22, .int (-1), .int 0])), (q22, .inl (k22, 24, .inl (upd f_28 (Int32.toNatClampNeg 14) (-2))))] H := hP
  have hD : va_D A [(t, .inr (3, [.int a, .int b, .ref q22, .int (-1), .int 0])), (q22, .inl (k22, 24, .inl (upd f_28 (Int32.toNatClampNeg 14) (-2))))] := hD
  generalize upd f_28 (Int32.toNatClampNeg 14) (-2) = f_30 at hP hD
  refine lv_iinc (v := 15) (lv' := [(3, .int 15), (0, .ref t), (1, .int a), (2, .int b)]) hx hb dX0_init_46 hl (k := 0) rfl (by decide) (by decide) rfl (fun ls hl => ?_)
  refine lv_goto (tgt := 29) hx hb dX0_init_49 (by decide) ?_
  refine lv_iload_n hx hb dX0_init_29 rfl (lv_at hl 0 rfl) ?_
  refine lv_aload_n hx hb dX0_init_30 rfl (lv_at hl 1 rfl) ?_
  refine va_get (D := (dC, dI)) (ci := 3) (v := .ref q22) (C := RX0) (T := TX0) (N := 5) hx hb hts (fun w h => List.mem_cons_of_mem _ (List.mem_append_right _ (h))) hown hK hP 0 rfl rfl 2 (by decide) (hts (.fieldLink RX0 21 "Spotbeat$Body" "makers" "[I") (by decide +kernel)) (fun _ h9 => h9) rfl dX0_init_31 ?_
  refine va_alen (v := 24) hx hb hK hP 1 0 rfl rfl rfl dX0_init_34 ?_
  refine lv_icmp_ge (tgt := 52) hx hb dX0_init_35 (by decide) (fun c_31 => absurd c_31 (by decide)) (fun _ => ?_)
  refine lv_aload_n hx hb dX0_init_38 rfl (lv_at hl 1 rfl) ?_
  refine va_get (D := (dC, dI)) (ci := 3) (v := .ref q22) (C := RX0) (T := TX0) (N := 5) hx hb hts (fun w h => List.mem_cons_of_mem _ (List.mem_append_right _ (h))) hown hK hP 0 rfl rfl 2 (by decide) (hts (.fieldLink RX0 21 "Spotbeat$Body" "makers" "[I") (by decide +kernel)) (fun _ h9 => h9) rfl dX0_init_39 ?_
  refine lv_iload_n hx hb dX0_init_42 rfl (lv_at hl 0 rfl) ?_
  refine lv_bipush (v := (-2)) hx hb dX0_init_43 (by decide) ?_
  refine va_iast hx hb hK hP hD hS 1 0 rfl rfl (by decide +kernel) dX0_init_45 (fun H locs hP hD hS => ?_)
  have hP : va_P (dC, dI) vwCl [(t, .inr (3, [.int a, .int b, .ref q22, .int (-1), .int 0])), (q22, .inl (k22, 24, .inl (upd f_30 (Int32.toNatClampNeg 15) (-2))))] H := hP
  have hD : va_D A [(t, .inr (3, [.int a, .int b, .ref q22, .int (-1), .int 0])), (q22, .inl (k22, 24, .inl (upd f_30 (Int32.toNatClampNeg 15) (-2))))] := hD
  generalize upd f_30 (Int32.toNatClampNeg 15) (-2) = f_32 at hP hD
  refine lv_iinc (v := 16) (lv' := [(3, .int 16), (0, .ref t), (1, .int a), (2, .int b)]) hx hb dX0_init_46 hl (k := 0) rfl (by decide) (by decide) rfl (fun ls hl => ?_)
  refine lv_goto (tgt := 29) hx hb dX0_init_49 (by decide) ?_
  refine lv_iload_n hx hb dX0_init_29 rfl (lv_at hl 0 rfl) ?_
  refine lv_aload_n hx hb dX0_init_30 rfl (lv_at hl 1 rfl) ?_
  refine va_get (D := (dC, dI)) (ci := 3) (v := .ref q22) (C := RX0) (T := TX0) (N := 5) hx hb hts (fun w h => List.mem_cons_of_mem _ (List.mem_append_right _ (h))) hown hK hP 0 rfl rfl 2 (by decide) (hts (.fieldLink RX0 21 "Spotbeat$Body" "makers" "[I") (by decide +kernel)) (fun _ h9 => h9) rfl dX0_init_31 ?_
  refine va_alen (v := 24) hx hb hK hP 1 0 rfl rfl rfl dX0_init_34 ?_
  refine lv_icmp_ge (tgt := 52) hx hb dX0_init_35 (by decide) (fun c_33 => absurd c_33 (by decide)) (fun _ => ?_)
  refine lv_aload_n hx hb dX0_init_38 rfl (lv_at hl 1 rfl) ?_
  refine va_get (D := (dC, dI)) (ci := 3) (v := .ref q22) (C := RX0) (T := TX0) (N := 5) hx hb hts (fun w h => List.mem_cons_of_mem _ (List.mem_append_right _ (h))) hown hK hP 0 rfl rfl 2 (by decide) (hts (.fieldLink RX0 21 "Spotbeat$Body" "makers" "[I") (by decide +kernel)) (fun _ h9 => h9) rfl dX0_init_39 ?_
  refine lv_iload_n hx hb dX0_init_42 rfl (lv_at hl 0 rfl) ?_
  refine lv_bipush (v := (-2)) hx hb dX0_init_43 (by decide) ?_
  refine va_iast hx hb hK hP hD hS 1 0 rfl rfl (by decide +kernel) dX0_init_45 (fun H locs hP hD hS => ?_)
  have hP : va_P (dC, dI) vwCl [(t, .inr (3, [.int a, .int b, .ref q22, .int (-1), .int 0])), (q22, .inl (k22, 24, .inl (upd f_32 (Int32.toNatClampNeg 16) (-2))))] H := hP
  have hD : va_D A [(t, .inr (3, [.int a, .int b, .ref q22, .int (-1), .int 0])), (q22, .inl (k22, 24, .inl (upd f_32 (Int32.toNatClampNeg 16) (-2))))] := hD
  generalize upd f_32 (Int32.toNatClampNeg 16) (-2) = f_34 at hP hD
  refine lv_iinc (v := 17) (lv' := [(3, .int 17), (0, .ref t), (1, .int a), (2, .int b)]) hx hb dX0_init_46 hl (k := 0) rfl (by decide) (by decide) rfl (fun ls hl => ?_)
  refine lv_goto (tgt := 29) hx hb dX0_init_49 (by decide) ?_
  refine lv_iload_n hx hb dX0_init_29 rfl (lv_at hl 0 rfl) ?_
  refine lv_aload_n hx hb dX0_init_30 rfl (lv_at hl 1 rfl) ?_
  refine va_get (D := (dC, dI)) (ci := 3) (v := .ref q22) (C := RX0) (T := TX0) (N := 5) hx hb hts (fun w h => List.mem_cons_of_mem _ (List.mem_append_right _ (h))) hown hK hP 0 rfl rfl 2 (by decide) (hts (.fieldLink RX0 21 "Spotbeat$Body" "makers" "[I") (by decide +kernel)) (fun _ h9 => h9) rfl dX0_init_31 ?_
  refine va_alen (v := 24) hx hb hK hP 1 0 rfl rfl rfl dX0_init_34 ?_
  refine lv_icmp_ge (tgt := 52) hx hb dX0_init_35 (by decide) (fun c_35 => absurd c_35 (by decide)) (fun _ => ?_)
  refine lv_aload_n hx hb dX0_init_38 rfl (lv_at hl 1 rfl) ?_
  refine va_get (D := (dC, dI)) (ci := 3) (v := .ref q22) (C := RX0) (T := TX0) (N := 5) hx hb hts (fun w h => List.mem_cons_of_mem _ (List.mem_append_right _ (h))) hown hK hP 0 rfl rfl 2 (by decide) (hts (.fieldLink RX0 21 "Spotbeat$Body" "makers" "[I") (by decide +kernel)) (fun _ h9 => h9) rfl dX0_init_39 ?_
  refine lv_iload_n hx hb dX0_init_42 rfl (lv_at hl 0 rfl) ?_
  refine lv_bipush (v := (-2)) hx hb dX0_init_43 (by decide) ?_
  refine va_iast hx hb hK hP hD hS 1 0 rfl rfl (by decide +kernel) dX0_init_45 (fun H locs hP hD hS => ?_)
  have hP : va_P (dC, dI) vwCl [(t, .inr (3, [.int a, .int b, .ref q22, .int (-1), .int 0])), (q22, .inl (k22, 24, .inl (upd f_34 (Int32.toNatClampNeg 17) (-2))))] H := hP
  have hD : va_D A [(t, .inr (3, [.int a, .int b, .ref q22, .int (-1), .int 0])), (q22, .inl (k22, 24, .inl (upd f_34 (Int32.toNatClampNeg 17) (-2))))] := hD
  generalize upd f_34 (Int32.toNatClampNeg 17) (-2) = f_36 at hP hD
  refine lv_iinc (v := 18) (lv' := [(3, .int 18), (0, .ref t), (1, .int a), (2, .int b)]) hx hb dX0_init_46 hl (k := 0) rfl (by decide) (by decide) rfl (fun ls hl => ?_)
  refine lv_goto (tgt := 29) hx hb dX0_init_49 (by decide) ?_
  refine lv_iload_n hx hb dX0_init_29 rfl (lv_at hl 0 rfl) ?_
  refine lv_aload_n hx hb dX0_init_30 rfl (lv_at hl 1 rfl) ?_
  refine va_get (D := (dC, dI)) (ci := 3) (v := .ref q22) (C := RX0) (T := TX0) (N := 5) hx hb hts (fun w h => List.mem_cons_of_mem _ (List.mem_append_right _ (h))) hown hK hP 0 rfl rfl 2 (by decide) (hts (.fieldLink RX0 21 "Spotbeat$Body" "makers" "[I") (by decide +kernel)) (fun _ h9 => h9) rfl dX0_init_31 ?_
  refine va_alen (v := 24) hx hb hK hP 1 0 rfl rfl rfl dX0_init_34 ?_
  refine lv_icmp_ge (tgt := 52) hx hb dX0_init_35 (by decide) (fun c_37 => absurd c_37 (by decide)) (fun _ => ?_)
  refine lv_aload_n hx hb dX0_init_38 rfl (lv_at hl 1 rfl) ?_
  refine va_get (D := (dC, dI)) (ci := 3) (v := .ref q22) (C := RX0) (T := TX0) (N := 5) hx hb hts (fun w h => List.mem_cons_of_mem _ (List.mem_append_right _ (h))) hown hK hP 0 rfl rfl 2 (by decide) (hts (.fieldLink RX0 21 "Spotbeat$Body" "makers" "[I") (by decide +kernel)) (fun _ h9 => h9) rfl dX0_init_39 ?_
  refine lv_iload_n hx hb dX0_init_42 rfl (lv_at hl 0 rfl) ?_
  refine lv_bipush (v := (-2)) hx hb dX0_init_43 (by decide) ?_
  refine va_iast hx hb hK hP hD hS 1 0 rfl rfl (by decide +kernel) dX0_init_45 (fun H locs hP hD hS => ?_)
  have hP : va_P (dC, dI) vwCl [(t, .inr (3, [.int a, .int b, .ref q22, .int (-1), .int 0])), (q22, .inl (k22, 24, .inl (upd f_36 (Int32.toNatClampNeg 18) (-2))))] H := hP
  have hD : va_D A [(t, .inr (3, [.int a, .int b, .ref q22, .int (-1), .int 0])), (q22, .inl (k22, 24, .inl (upd f_36 (Int32.toNatClampNeg 18) (-2))))] := hD
  generalize upd f_36 (Int32.toNatClampNeg 18) (-2) = f_38 at hP hD
  refine lv_iinc (v := 19) (lv' := [(3, .int 19), (0, .ref t), (1, .int a), (2, .int b)]) hx hb dX0_init_46 hl (k := 0) rfl (by decide) (by decide) rfl (fun ls hl => ?_)
  refine lv_goto (tgt := 29) hx hb dX0_init_49 (by decide) ?_
  refine lv_iload_n hx hb dX0_init_29 rfl (lv_at hl 0 rfl) ?_
  refine lv_aload_n hx hb dX0_init_30 rfl (lv_at hl 1 rfl) ?_
  refine va_get (D := (dC, dI)) (ci := 3) (v := .ref q22) (C := RX0) (T := TX0) (N := 5) hx hb hts (fun w h => List.mem_cons_of_mem _ (List.mem_append_right _ (h))) hown hK hP 0 rfl rfl 2 (by decide) (hts (.fieldLink RX0 21 "Spotbeat$Body" "makers" "[I") (by decide +kernel)) (fun _ h9 => h9) rfl dX0_init_31 ?_
  refine va_alen (v := 24) hx hb hK hP 1 0 rfl rfl rfl dX0_init_34 ?_
  refine lv_icmp_ge (tgt := 52) hx hb dX0_init_35 (by decide) (fun c_39 => absurd c_39 (by decide)) (fun _ => ?_)
  refine lv_aload_n hx hb dX0_init_38 rfl (lv_at hl 1 rfl) ?_
  refine va_get (D := (dC, dI)) (ci := 3) (v := .ref q22) (C := RX0) (T := TX0) (N := 5) hx hb hts (fun w h => List.mem_cons_of_mem _ (List.mem_append_right _ (h))) hown hK hP 0 rfl rfl 2 (by decide) (hts (.fieldLink RX0 21 "Spotbeat$Body" "makers" "[I") (by decide +kernel)) (fun _ h9 => h9) rfl dX0_init_39 ?_
  refine lv_iload_n hx hb dX0_init_42 rfl (lv_at hl 0 rfl) ?_
  refine lv_bipush (v := (-2)) hx hb dX0_init_43 (by decide) ?_
  refine va_iast hx hb hK hP hD hS 1 0 rfl rfl (by decide +kernel) dX0_init_45 (fun H locs hP hD hS => ?_)
  have hP : va_P (dC, dI) vwCl [(t, .inr (3, [.int a, .int b, .ref q22, .int (-1), .int 0])), (q22, .inl (k22, 24, .inl (upd f_38 (Int32.toNatClampNeg 19) (-2))))] H := hP
  have hD : va_D A [(t, .inr (3, [.int a, .int b, .ref q22, .int (-1), .int 0])), (q22, .inl (k22, 24, .inl (upd f_38 (Int32.toNatClampNeg 19) (-2))))] := hD
  generalize upd f_38 (Int32.toNatClampNeg 19) (-2) = f_40 at hP hD
  refine lv_iinc (v := 20) (lv' := [(3, .int 20), (0, .ref t), (1, .int a), (2, .int b)]) hx hb dX0_init_46 hl (k := 0) rfl (by decide) (by decide) rfl (fun ls hl => ?_)
  refine lv_goto (tgt := 29) hx hb dX0_init_49 (by decide) ?_
  refine lv_iload_n hx hb dX0_init_29 rfl (lv_at hl 0 rfl) ?_
  refine lv_aload_n hx hb dX0_init_30 rfl (lv_at hl 1 rfl) ?_
  refine va_get (D := (dC, dI)) (ci := 3) (v := .ref q22) (C := RX0) (T := TX0) (N := 5) hx hb hts (fun w h => List.mem_cons_of_mem _ (List.mem_append_right _ (h))) hown hK hP 0 rfl rfl 2 (by decide) (hts (.fieldLink RX0 21 "Spotbeat$Body" "makers" "[I") (by decide +kernel)) (fun _ h9 => h9) rfl dX0_init_31 ?_
  refine va_alen (v := 24) hx hb hK hP 1 0 rfl rfl rfl dX0_init_34 ?_
  refine lv_icmp_ge (tgt := 52) hx hb dX0_init_35 (by decide) (fun c_41 => absurd c_41 (by decide)) (fun _ => ?_)
  refine lv_aload_n hx hb dX0_init_38 rfl (lv_at hl 1 rfl) ?_
  refine va_get (D := (dC, dI)) (ci := 3) (v := .ref q22) (C := RX0) (T := TX0) (N := 5) hx hb hts (fun w h => List.mem_cons_of_mem _ (List.mem_append_right _ (h))) hown hK hP 0 rfl rfl 2 (by decide) (hts (.fieldLink RX0 21 "Spotbeat$Body" "makers" "[I") (by decide +kernel)) (fun _ h9 => h9) rfl dX0_init_39 ?_
  refine lv_iload_n hx hb dX0_init_42 rfl (lv_at hl 0 rfl) ?_
  refine lv_bipush (v := (-2)) hx hb dX0_init_43 (by decide) ?_
  refine va_iast hx hb hK hP hD hS 1 0 rfl rfl (by decide +kernel) dX0_init_45 (fun H locs hP hD hS => ?_)
  have hP : va_P (dC, dI) vwCl [(t, .inr (3, [.int a, .int b, .ref q22, .int (-1), .int 0])), (q22, .inl (k22, 24, .inl (upd f_40 (Int32.toNatClampNeg 20) (-2))))] H := hP
  have hD : va_D A [(t, .inr (3, [.int a, .int b, .ref q22, .int (-1), .int 0])), (q22, .inl (k22, 24, .inl (upd f_40 (Int32.toNatClampNeg 20) (-2))))] := hD
  generalize upd f_40 (Int32.toNatClampNeg 20) (-2) = f_42 at hP hD
  refine lv_iinc (v := 21) (lv' := [(3, .int 21), (0, .ref t), (1, .int a), (2, .int b)]) hx hb dX0_init_46 hl (k := 0) rfl (by decide) (by decide) rfl (fun ls hl => ?_)
  refine lv_goto (tgt := 29) hx hb dX0_init_49 (by decide) ?_
  refine lv_iload_n hx hb dX0_init_29 rfl (lv_at hl 0 rfl) ?_
  refine lv_aload_n hx hb dX0_init_30 rfl (lv_at hl 1 rfl) ?_
  refine va_get (D := (dC, dI)) (ci := 3) (v := .ref q22) (C := RX0) (T := TX0) (N := 5) hx hb hts (fun w h => List.mem_cons_of_mem _ (List.mem_append_right _ (h))) hown hK hP 0 rfl rfl 2 (by decide) (hts (.fieldLink RX0 21 "Spotbeat$Body" "makers" "[I") (by decide +kernel)) (fun _ h9 => h9) rfl dX0_init_31 ?_
  refine va_alen (v := 24) hx hb hK hP 1 0 rfl rfl rfl dX0_init_34 ?_
  refine lv_icmp_ge (tgt := 52) hx hb dX0_init_35 (by decide) (fun c_43 => absurd c_43 (by decide)) (fun _ => ?_)
  refine lv_aload_n hx hb dX0_init_38 rfl (lv_at hl 1 rfl) ?_
  refine va_get (D := (dC, dI)) (ci := 3) (v := .ref q22) (C := RX0) (T := TX0) (N := 5) hx hb hts (fun w h => List.mem_cons_of_mem _ (List.mem_append_right _ (h))) hown hK hP 0 rfl rfl 2 (by decide) (hts (.fieldLink RX0 21 "Spotbeat$Body" "makers" "[I") (by decide +kernel)) (fun _ h9 => h9) rfl dX0_init_39 ?_
  refine lv_iload_n hx hb dX0_init_42 rfl (lv_at hl 0 rfl) ?_
  refine lv_bipush (v := (-2)) hx hb dX0_init_43 (by decide) ?_
  refine va_iast hx hb hK hP hD hS 1 0 rfl rfl (by decide +kernel) dX0_init_45 (fun H locs hP hD hS => ?_)
  have hP : va_P (dC, dI) vwCl [(t, .inr (3, [.int a, .int b, .ref q22, .int (-1), .int 0])), (q22, .inl (k22, 24, .inl (upd f_42 (Int32.toNatClampNeg 21) (-2))))] H := hP
  have hD : va_D A [(t, .inr (3, [.int a, .int b, .ref q22, .int (-1), .int 0])), (q22, .inl (k22, 24, .inl (upd f_42 (Int32.toNatClampNeg 21) (-2))))] := hD
  generalize upd f_42 (Int32.toNatClampNeg 21) (-2) = f_44 at hP hD
  refine lv_iinc (v := 22) (lv' := [(3, .int 22), (0, .ref t), (1, .int a), (2, .int b)]) hx hb dX0_init_46 hl (k := 0) rfl (by decide) (by decide) rfl (fun ls hl => ?_)
  refine lv_goto (tgt := 29) hx hb dX0_init_49 (by decide) ?_
  refine lv_iload_n hx hb dX0_init_29 rfl (lv_at hl 0 rfl) ?_
  refine lv_aload_n hx hb dX0_init_30 rfl (lv_at hl 1 rfl) ?_
  refine va_get (D := (dC, dI)) (ci := 3) (v := .ref q22) (C := RX0) (T := TX0) (N := 5) hx hb hts (fun w h => List.mem_cons_of_mem _ (List.mem_append_right _ (h))) hown hK hP 0 rfl rfl 2 (by decide) (hts (.fieldLink RX0 21 "Spotbeat$Body" "makers" "[I") (by decide +kernel)) (fun _ h9 => h9) rfl dX0_init_31 ?_
  refine va_alen (v := 24) hx hb hK hP 1 0 rfl rfl rfl dX0_init_34 ?_
  refine lv_icmp_ge (tgt := 52) hx hb dX0_init_35 (by decide) (fun c_45 => absurd c_45 (by decide)) (fun _ => ?_)
  refine lv_aload_n hx hb dX0_init_38 rfl (lv_at hl 1 rfl) ?_
  refine va_get (D := (dC, dI)) (ci := 3) (v := .ref q22) (C := RX0) (T := TX0) (N := 5) hx hb hts (fun w h => List.mem_cons_of_mem _ (List.mem_append_right _ (h))) hown hK hP 0 rfl rfl 2 (by decide) (hts (.fieldLink RX0 21 "Spotbeat$Body" "makers" "[I") (by decide +kernel)) (fun _ h9 => h9) rfl dX0_init_39 ?_
  refine lv_iload_n hx hb dX0_init_42 rfl (lv_at hl 0 rfl) ?_
  refine lv_bipush (v := (-2)) hx hb dX0_init_43 (by decide) ?_
  refine va_iast hx hb hK hP hD hS 1 0 rfl rfl (by decide +kernel) dX0_init_45 (fun H locs hP hD hS => ?_)
  have hP : va_P (dC, dI) vwCl [(t, .inr (3, [.int a, .int b, .ref q22, .int (-1), .int 0])), (q22, .inl (k22, 24, .inl (upd f_44 (Int32.toNatClampNeg 22) (-2))))] H := hP
  have hD : va_D A [(t, .inr (3, [.int a, .int b, .ref q22, .int (-1), .int 0])), (q22, .inl (k22, 24, .inl (upd f_44 (Int32.toNatClampNeg 22) (-2))))] := hD
  generalize upd f_44 (Int32.toNatClampNeg 22) (-2) = f_46 at hP hD
  refine lv_iinc (v := 23) (lv' := [(3, .int 23), (0, .ref t), (1, .int a), (2, .int b)]) hx hb dX0_init_46 hl (k := 0) rfl (by decide) (by decide) rfl (fun ls hl => ?_)
  refine lv_goto (tgt := 29) hx hb dX0_init_49 (by decide) ?_
  refine lv_iload_n hx hb dX0_init_29 rfl (lv_at hl 0 rfl) ?_
  refine lv_aload_n hx hb dX0_init_30 rfl (lv_at hl 1 rfl) ?_
  refine va_get (D := (dC, dI)) (ci := 3) (v := .ref q22) (C := RX0) (T := TX0) (N := 5) hx hb hts (fun w h => List.mem_cons_of_mem _ (List.mem_append_right _ (h))) hown hK hP 0 rfl rfl 2 (by decide) (hts (.fieldLink RX0 21 "Spotbeat$Body" "makers" "[I") (by decide +kernel)) (fun _ h9 => h9) rfl dX0_init_31 ?_
  refine va_alen (v := 24) hx hb hK hP 1 0 rfl rfl rfl dX0_init_34 ?_
  refine lv_icmp_ge (tgt := 52) hx hb dX0_init_35 (by decide) (fun c_47 => absurd c_47 (by decide)) (fun _ => ?_)
  refine lv_aload_n hx hb dX0_init_38 rfl (lv_at hl 1 rfl) ?_
  refine va_get (D := (dC, dI)) (ci := 3) (v := .ref q22) (C := RX0) (T := TX0) (N := 5) hx hb hts (fun w h => List.mem_cons_of_mem _ (List.mem_append_right _ (h))) hown hK hP 0 rfl rfl 2 (by decide) (hts (.fieldLink RX0 21 "Spotbeat$Body" "makers" "[I") (by decide +kernel)) (fun _ h9 => h9) rfl dX0_init_39 ?_
  refine lv_iload_n hx hb dX0_init_42 rfl (lv_at hl 0 rfl) ?_
  refine lv_bipush (v := (-2)) hx hb dX0_init_43 (by decide) ?_
  refine va_iast hx hb hK hP hD hS 1 0 rfl rfl (by decide +kernel) dX0_init_45 (fun H locs hP hD hS => ?_)
  have hP : va_P (dC, dI) vwCl [(t, .inr (3, [.int a, .int b, .ref q22, .int (-1), .int 0])), (q22, .inl (k22, 24, .inl (upd f_46 (Int32.toNatClampNeg 23) (-2))))] H := hP
  have hD : va_D A [(t, .inr (3, [.int a, .int b, .ref q22, .int (-1), .int 0])), (q22, .inl (k22, 24, .inl (upd f_46 (Int32.toNatClampNeg 23) (-2))))] := hD
  generalize upd f_46 (Int32.toNatClampNeg 23) (-2) = f_48 at hP hD
  refine lv_iinc (v := 24) (lv' := [(3, .int 24), (0, .ref t), (1, .int a), (2, .int b)]) hx hb dX0_init_46 hl (k := 0) rfl (by decide) (by decide) rfl (fun ls hl => ?_)
  refine lv_goto (tgt := 29) hx hb dX0_init_49 (by decide) ?_
  refine lv_iload_n hx hb dX0_init_29 rfl (lv_at hl 0 rfl) ?_
  refine lv_aload_n hx hb dX0_init_30 rfl (lv_at hl 1 rfl) ?_
  refine va_get (D := (dC, dI)) (ci := 3) (v := .ref q22) (C := RX0) (T := TX0) (N := 5) hx hb hts (fun w h => List.mem_cons_of_mem _ (List.mem_append_right _ (h))) hown hK hP 0 rfl rfl 2 (by decide) (hts (.fieldLink RX0 21 "Spotbeat$Body" "makers" "[I") (by decide +kernel)) (fun _ h9 => h9) rfl dX0_init_31 ?_
  refine va_alen (v := 24) hx hb hK hP 1 0 rfl rfl rfl dX0_init_34 ?_
  refine lv_icmp_ge (tgt := 52) hx hb dX0_init_35 (by decide) (fun _ => ?_) (fun c_49 => absurd c_49 (by decide))
  have hP9 := hP.sub (ws' := [(t, .inr (3, [.int a, .int b, .ref q22, .int (-1), .int 0]))]) [0] rfl
  have hD9 := hD.sub (ws' := [(t, .inr (3, [.int a, .int b, .ref q22, .int (-1), .int 0]))]) [0] (by decide) rfl
  have hK9 := hK.sub (tys' := []) [] rfl
  refine W.widen (k := 1) (n := 24) (Nat.le_of_ble_eq_true rfl) (Nat.le_of_ble_eq_true rfl) ?_
  exact W.vret hx hb hr (fun t ht hW => ⟨⟨[.int a, .int b, .ref q22, .int (-1), .int 0], rfl, trivial, by rw [ht]; exact hP9, va_K.moved hW.alike hK9, hD9⟩, hS.F ht⟩) hS.2.2 dX0_init_52

def zwX1_init : List Cond := .code yX1_init cX1_init 2 none :: (([.methodLink RX1 3 objectInit, .instanceMethod objectInit, .code objectInit ⟨#[0xb1]⟩ 1 none, .classLink RX1 9 RX6, .fieldLink RX1 11 "Spotbeat$Paces" "tracks" "[LSpotbeat$Track;", .instantiable RX6 6, .initialized RX6, .methodLink RX1 17 yX6_init, .instanceMethod yX6_init, .arrayClass .boolean, .fieldLink RX1 18 "Spotbeat$Paces" "seen" "[Z"] : List Cond) ++ (wsX10 ++ (wsX60 ++ (zwX6_init))))
theorem zgX1_init : zwX1_init.all goodWord = true := zgo rfl (zga (by decide +kernel) (zga zgcX1 (zga zgcX6 (zgX6_init))))
set_option maxHeartbeats 4000000 in
set_option maxRecDepth 100000 in
/-- Paces(): nothing else is touched -/
theorem c_X1_init (l : Launch) (dC : Nat → ClassId) (dI : Nat → Nat → Nat) (sz : Nat) (t : Nat) : Met l yX1_init zwX1_init ({ frames := 2, cells := 17, slots := 2374, locals := 32 }) (gPcE dC dI sz [(t, .inr (4, [.null, .null, .int 0, .int 0, .int 0, .int 0]))] [] [.ref t]) (va_Qv (fun (u : Unit) => True) (fun u t => True) (va_A [(t, .inr (4, [.null, .null, .int 0, .int 0, .int 0, .int 0]))] sz)) 17 2374 (va_A [(t, .inr (4, [.null, .null, .int 0, .int 0, .int 0, .int 0]))] sz) := by
  refine Met.ofW (cc := cX1_init) (maxL := 2) (ret := none) (by decide) rfl ?_
  intro p e s m args below meth c s₁ B hml hv
  obtain ⟨rfl, hsz, hP, hK, hD0, hE⟩ := hv
  have hx := B.exec
  have hb := B.bytes
  have hr := B.returns
  have hts := atoms_spec (ws := zwX1_init) B.pre
  have hown : s.vm.findClass RX1 = some m.cls := findClass_of_methodNamed B.named
  have hlocks := B.notSynchronized
  have hin : meth.name = "<init>" := (name_of_methodNamed B.named B.method).1
  subst hsz
  have hD := hD0.self (sz := s.heap.size)
  generalize hAe : va_A [(t, .inr (4, [.null, .null, .int 0, .int 0, .int 0, .int 0]))] s.heap.size = A at hD hE ⊢
  have hA : ∀ q : Nat, s.heap.size ≤ q → A q := fun q h => by rw [← hAe]; exact Or.inr h
  have hS : va_S A s.heap s.heap [] := va_S.rf
  have hP : va_P (dC, dI) vwCl [(t, .inr (4, [.null, .null, .int 0, .int 0, .int 0, .int 0]))] s.heap := hP
  have hl := lv_entry ([.ref t]) (n := 2) (Nat.le_of_ble_eq_true rfl)
  rw [lg_entry_eq]
  generalize (lg_sl ([.ref t]) ++ List.replicate (2 - (lg_sl ([.ref t])).length) Slot.unset).toArray = ls at hl ⊢
  have hl : lv_has ls 2 [(0, .ref t)] := hl
  refine lv_aload_n hx hb dX1_init_0 rfl (lv_at hl 0 rfl) ?_
  refine W.objInit hx hb hown (hts (.methodLink RX1 3 objectInit) (by decide +kernel)) (hts (.instanceMethod objectInit) (by decide +kernel)) (hts (.code objectInit ⟨#[0xb1]⟩ 1 none) (by decide +kernel)) rfl (by rw [hml]; exact hl.1) rfl dX1_init_1 (Nat.le_of_ble_eq_true rfl) (Nat.le_of_ble_eq_true rfl) ?_
  refine W.eq (g2 := F0 m 4 ls []) rfl ?_
  refine lv_aload_n hx hb dX1_init_4 rfl (lv_at hl 0 rfl) ?_
  refine lv_iconst (v := 3) hx hb dX1_init_5 (by decide) ?_
  refine va_newq (N' := 3) hx hb hown (hts (.classLink RX1 9 RX6) (by decide +kernel)) (hE.2.2.2.2.2.1 _ (by decide)) hK hP hD hS hA (by decide) (by decide +kernel) (by decide) (Nat.le_of_ble_eq_true rfl) (Nat.le_of_ble_eq_true rfl) dX1_init_6 (fun q6 k6 H hK hP hD hS => ?_)
  have hK : va_K (dC, dI) vwCl [(k6, .object RX6)] s := hK
  have hP : va_P (dC, dI) vwCl [(t, .inr (4, [.null, .null, .int 0, .int 0, .int 0, .int 0])), (q6, .inl (k6, 3, .inr (.inr (.inr (.inr (fun _ => none))))))] H := hP
  have hD : va_D A [(t, .inr (4, [.null, .null, .int 0, .int 0, .int 0, .int 0])), (q6, .inl (k6, 3, .inr (.inr (.inr (.inr (fun _ => none))))))] := hD
  refine va_putF (D := (dC, dI)) (ci := 4) (v := .ref q6) (ty := .array (.object "Spotbeat$Track")) (C := RX1) (T := TX1) (N := 6) hx hb hts (fun w h => List.mem_cons_of_mem _ (List.mem_append_right _ (List.mem_append_left _ h))) tyX1 tyX1_ok nmX1 hown hK hP hD hS 0 rfl rfl 0 (by decide) (hts (.fieldLink RX1 11 "Spotbeat$Paces" "tracks" "[LSpotbeat$Track;") (by decide +kernel)) (fun _ h9 => h9) rfl hin rfl (by decide +kernel) rfl rfl (Nat.le_of_ble_eq_true rfl) dX1_init_9 (fun H locs hP hD hS => ?_)
  have hP : va_P (dC, dI) vwCl [(t, .inr (4, [.ref q6, .null, .int 0, .int 0, .int 0, .int 0])), (q6, .inl (k6, 3, .inr (.inr (.inr (.inr (fun _ => none))))))] H := hP
  have hD : va_D A [(t, .inr (4, [.ref q6, .null, .int 0, .int 0, .int 0, .int 0])), (q6, .inl (k6, 3, .inr (.inr (.inr (.inr (fun _ => none))))))] := hD
  refine lv_iconst (v := 0) hx hb dX1_init_12 (by decide) ?_
  refine lv_istore_n (lv' := [(1, .int 0), (0, .ref t)]) hx hb dX1_init_13 rfl hl (by decide) rfl (fun ls hl => ?_)
  refine lv_iload_n hx hb dX1_init_14 rfl (lv_at hl 0 rfl) ?_
  refine lv_aload_n hx hb dX1_init_15 rfl (lv_at hl 1 rfl) ?_
  refine va_get (D := (dC, dI)) (ci := 4) (v := .ref q6) (C := RX1) (T := TX1) (N := 6) hx hb hts (fun w h => List.mem_cons_of_mem _ (List.mem_append_right _ (List.mem_append_left _ h))) hown hK hP 0 rfl rfl 0 (by decide) (hts (.fieldLink RX1 11 "Spotbeat$Paces" "tracks" "[LSpotbeat$Track;") (by decide +kernel)) (fun _ h9 => h9) rfl dX1_init_16 ?_
  refine va_alen (v := 3) hx hb hK hP 1 0 rfl rfl rfl dX1_init_19 ?_
  refine lv_icmp_ge (tgt := 42) hx hb dX1_init_20 (by decide) (fun c_1 => absurd c_1 (by decide)) (fun _ => ?_)
  refine lv_aload_n hx hb dX1_init_23 rfl (lv_at hl 1 rfl) ?_
  refine va_get (D := (dC, dI)) (ci := 4) (v := .ref q6) (C := RX1) (T := TX1) (N := 6) hx hb hts (fun w h => List.mem_cons_of_mem _ (List.mem_append_right _ (List.mem_append_left _ h))) hown hK hP 0 rfl rfl 0 (by decide) (hts (.fieldLink RX1 11 "Spotbeat$Paces" "tracks" "[LSpotbeat$Track;") (by decide +kernel)) (fun _ h9 => h9) rfl dX1_init_24 ?_
  refine lv_iload_n hx hb dX1_init_27 rfl (lv_at hl 0 rfl) ?_
  refine va_new (ci := 9) (fs := [.null, .null, .null, .null, .int 0, .int 0]) (C := RX6) (T := TX6) (N := 6) hx hb hts (fun w h => List.mem_cons_of_mem _ (List.mem_append_right _ (List.mem_append_right _ (List.mem_append_left _ h)))) tyX6 tyX6_ok hown (hts (.classLink RX1 9 RX6) (by decide +kernel)) (hts (.instantiable RX6 6) (by decide +kernel)) (hts (.initialized RX6) (by decide +kernel)) hK hP hD hS hA rfl (fun j hj => by rcases (show j = 0 ∨ j = 1 ∨ j = 2 ∨ j = 3 ∨ j = 4 ∨ j = 5 by omega) with rfl | rfl | rfl | rfl | rfl | rfl <;> rfl) (Nat.le_of_ble_eq_true rfl) (Nat.le_of_ble_eq_true rfl) dX1_init_28 (fun q28 H hP hD hS => ?_)
  have hP : va_P (dC, dI) vwCl [(t, .inr (4, [.ref q6, .null, .int 0, .int 0, .int 0, .int 0])), (q6, .inl (k6, 3, .inr (.inr (.inr (.inr (fun _ => none)))))), (q28, .inr (9, [.null, .null, .null, .null, .int 0, .int 0]))] H := hP
  have hD : va_D A [(t, .inr (4, [.ref q6, .null, .int 0, .int 0, .int 0, .int 0])), (q6, .inl (k6, 3, .inr (.inr (.inr (.inr (fun _ => none)))))), (q28, .inr (9, [.null, .null, .null, .null, .int 0, .int 0]))] := hD
  refine lv_dup hx hb dX1_init_31 rfl ?_
  have hPc := hP.sub (ws' := [(q28, .inr (9, [.null, .null, .null, .null, .int 0, .int 0]))]) [2] rfl
  have hDc := hD.sub (ws' := [(q28, .inr (9, [.null, .null, .null, .null, .int 0, .int 0]))]) [2] (by decide) rfl
  have hKc := hK.sub (tys' := []) [] rfl
  have hFc := va_free (wc := [(q28, .inr (9, [.null, .null, .null, .null, .int 0, .int 0]))]) hD hS hA [2] rfl
  refine va_callv (va_runI (As := []) (rest := [.ref q28, .int 0, .ref q6]) ⟨hx, hb, hml, hown, hts⟩ (c_X6_init l dC dI H.size q28) (cwI 0 hts (goodIn_sub ((fun w h => List.mem_cons_of_mem _ (List.mem_append_right _ (List.mem_append_right _ (List.mem_append_right _ (h)))))) zgX6_init) rfl rfl rfl (hts (.initialized RX6) (by decide +kernel)) (hts (.methodLink RX1 17 yX6_init) (by decide +kernel)) (hts (.instanceMethod yX6_init) (by decide +kernel)) rfl (by decide +kernel) ⟨Nat.le_of_ble_eq_true rfl, Nat.le_of_ble_eq_true rfl⟩) ⟨gPc_blind, gPc_pass hPc hKc hDc⟩ rfl rfl hl.1 rfl (lv_room (Nat.le_of_ble_eq_true rfl)) dX1_init_32 ⟨Nat.le_of_ble_eq_true rfl, Nat.le_of_ble_eq_true rfl⟩) hS (fun q _ h => hFc q h) hFc (fun u_4 t H locs ht hvm hw hB hz hk hS => ?_)
  obtain ⟨hP1, hK1, hD1⟩ := hB
  rw [ht] at hP1
  obtain ⟨hP, hD⟩ := va_join (wr := [(t, .inr (4, [.ref q6, .null, .int 0, .int 0, .int 0, .int 0])), (q6, .inl (k6, 3, .inr (.inr (.inr (.inr (fun _ => none))))))]) (w1 := [(q28, .inr (9, u_4))]) hP hD [2] [0, 1] rfl rfl (by decide) (by decide) hk hFc hP1 hD1
  have hP : va_P (dC, dI) vwCl [(t, .inr (4, [.ref q6, .null, .int 0, .int 0, .int 0, .int 0])), (q6, .inl (k6, 3, .inr (.inr (.inr (.inr (fun _ => none)))))), (q28, .inr (9, u_4))] H := hP
  have hD : va_D A [(t, .inr (4, [.ref q6, .null, .int 0, .int 0, .int 0, .int 0])), (q6, .inl (k6, 3, .inr (.inr (.inr (.inr (fun _ => none)))))), (q28, .inr (9, u_4))] := hD
  have w_5 : True := hw
  refine va_astq hx hb hK hP hD hS 1 0 2 9 rfl rfl rfl rfl (by decide +kernel) dX1_init_35 (fun H locs hP hD hS => ?_)
  have hP : va_P (dC, dI) vwCl [(t, .inr (4, [.ref q6, .null, .int 0, .int 0, .int 0, .int 0])), (q6, .inl (k6, 3, .inr (.inr (.inr (.inr (va_up (fun _ => none) (Int32.toNatClampNeg 0) (some q28))))))), (q28, .inr (9, u_4))] H := hP
  have hD : va_D A [(t, .inr (4, [.ref q6, .null, .int 0, .int 0, .int 0, .int 0])), (q6, .inl (k6, 3, .inr (.inr (.inr (.inr (va_up (fun _ => none) (Int32.toNatClampNeg 0) (some q28))))))), (q28, .inr (9, u_4))] := hD
  generalize va_up (fun _ => none) (Int32.toNatClampNeg 0) (some q28) = f_6 at hP hD
  refine lv_iinc (v := 1) (lv' := [(1, .int 1), (0, .ref t)]) hx hb dX1_init_36 hl (k := 0) rfl (by decide) (by decide) rfl (fun ls hl => ?_)
  refine lv_goto (tgt := 14) hx hb dX1_init_39 (by decide) ?_
  refine lv_iload_n hx hb dX1_init_14 rfl (lv_at hl 0 rfl) ?_
  refine lv_aload_n hx hb dX1_init_15 rfl (lv_at hl 1 rfl) ?_
  refine va_get (D := (dC, dI)) (ci := 4) (v := .ref q6) (C := RX1) (T := TX1) (N := 6) hx hb hts (fun w h => List.mem_cons_of_mem _ (List.mem_append_right _ (List.mem_append_left _ h))) hown hK hP 0 rfl rfl 0 (by decide) (hts (.fieldLink RX1 11 "Spotbeat$Paces" "tracks" "[LSpotbeat$Track;") (by decide +kernel)) (fun _ h9 => h9) rfl dX1_init_16 ?_
  refine va_alen (v := 3) hx hb hK hP 1 0 rfl rfl rfl dX1_init_19 ?_
  refine lv_icmp_ge (tgt := 42) hx hb dX1_init_20 (by decide) (fun c_7 => absurd c_7 (by decide)) (fun _ => ?_)
  refine lv_aload_n hx hb dX1_init_23 rfl (lv_at hl 1 rfl) ?_
  refine va_get (D := (dC, dI)) (ci := 4) (v := .ref q6) (C := RX1) (T := TX1) (N := 6) hx hb hts (fun w h => List.mem_cons_of_mem _ (List.mem_append_right _ (List.mem_append_left _ h))) hown hK hP 0 rfl rfl 0 (by decide) (hts (.fieldLink RX1 11 "Spotbeat$Paces" "tracks" "[LSpotbeat$Track;") (by decide +kernel)) (fun _ h9 => h9) rfl dX1_init_24 ?_
  refine lv_iload_n hx hb dX1_init_27 rfl (lv_at hl 0 rfl) ?_
  refine va_new (ci := 9) (fs := [.null, .null, .null, .null, .int 0, .int 0]) (C := RX6) (T := TX6) (N := 6) hx hb hts (fun w h => List.mem_cons_of_mem _ (List.mem_append_right _ (List.mem_append_right _ (List.mem_append_left _ h)))) tyX6 tyX6_ok hown (hts (.classLink RX1 9 RX6) (by decide +kernel)) (hts (.instantiable RX6 6) (by decide +kernel)) (hts (.initialized RX6) (by decide +kernel)) hK hP hD hS hA rfl (fun j hj => by rcases (show j = 0 ∨ j = 1 ∨ j = 2 ∨ j = 3 ∨ j = 4 ∨ j = 5 by omega) with rfl | rfl | rfl | rfl | rfl | rfl <;> rfl) (Nat.le_of_ble_eq_true rfl) (Nat.le_of_ble_eq_true rfl) dX1_init_28 (fun q28_7 H hP hD hS => ?_)
  have hP : va_P (dC, dI) vwCl [(t, .inr (4, [.ref q6, .null, .int 0, .int 0, .int 0, .int 0])), (q6, .inl (k6, 3, .inr (.inr (.inr (.inr f_6))))), (q28, .inr (9, u_4)), (q28_7, .inr (9, [.null, .null, .null, .null, .int 0, .int 0]))] H := hP
  have hD : va_D A [(t, .inr (4, [.ref q6, .null, .int 0, .int 0, .int 0, .int 0])), (q6, .inl (k6, 3, .inr (.inr (.inr (.inr f_6))))), (q28, .inr (9, u_4)), (q28_7, .inr (9, [.null, .null, .null, .null, .int 0, .int 0]))] := hD
  refine lv_dup hx hb dX1_init_31 rfl ?_
  have hPc := hP.sub (ws' := [(q28_7, .inr (9, [.null, .null, .null, .null, .int 0, .int 0]))]) [3] rfl
  have hDc := hD.sub (ws' := [(q28_7, .inr (9, [.null, .null, .null, .null, .int 0, .int 0]))]) [3] (by decide) rfl
  have hKc := hK.sub (tys' := []) [] rfl
  have hFc := va_free (wc := [(q28_7, .inr (9, [.null, .null, .null, .null, .int 0, .int 0]))]) hD hS hA [3] rfl
  refine va_callv (va_runI (As := []) (rest := [.ref q28_7, .int 1, .ref q6]) ⟨hx, hb, hml, hown, hts⟩ (c_X6_init l dC dI H.size q28_7) (cwI 0 hts (goodIn_sub ((fun w h => List.mem_cons_of_mem _ (List.mem_append_right _ (List.mem_append_right _ (List.mem_append_right _ (h)))))) zgX6_init) rfl rfl rfl (hts (.initialized RX6) (by decide +kernel)) (hts (.methodLink RX1 17 yX6_init) (by decide +kernel)) (hts (.instanceMethod yX6_init) (by decide +kernel)) rfl (by decide +kernel) ⟨Nat.le_of_ble_eq_true rfl, Nat.le_of_ble_eq_true rfl⟩) ⟨gPc_blind, gPc_pass hPc hKc hDc⟩ rfl rfl hl.1 rfl (lv_room (Nat.le_of_ble_eq_true rfl)) dX1_init_32 ⟨Nat.le_of_ble_eq_true rfl, Nat.le_of_ble_eq_true rfl⟩) hS (fun q _ h => hFc q h) hFc (fun u_10 t H locs ht hvm hw hB hz hk hS => ?_)
  obtain ⟨hP1, hK1, hD1⟩ := hB
  rw [ht] at hP1
  obtain ⟨hP, hD⟩ := va_join (wr := [(t, .inr (4, [.ref q6, .null, .int 0, .int 0, .int 0, .int 0])), (q6, .inl (k6, 3, .inr (.inr (.inr (.inr f_6))))), (q28, .inr (9, u_4))]) (w1 := [(q28_7, .inr (9, u_10))]) hP hD [3] [0, 1, 2] rfl rfl (by decide) (by decide) hk hFc hP1 hD1
  have hP : va_P (dC, dI) vwCl [(t, .inr (4, [.ref q6, .null, .int 0, .int 0, .int 0, .int 0])), (q6, .inl (k6, 3, .inr (.inr (.inr (.inr f_6))))), (q28, .inr (9, u_4)), (q28_7, .inr (9, u_10))] H := hP
  have hD : va_D A [(t, .inr (4, [.ref q6, .null, .int 0, .int 0, .int 0, .int 0])), (q6, .inl (k6, 3, .inr (.inr (.inr (.inr f_6))))), (q28, .inr (9, u_4)), (q28_7, .inr (9, u_10))] := hD
  have w_11 : True := hw
  refine va_astq hx hb hK hP hD hS 1 0 3 9 rfl rfl rfl rfl (by decide +kernel) dX1_init_35 (fun H locs hP hD hS => ?_)
  have hP : va_P (dC, dI) vwCl [(t, .inr (4, [.ref q6, .null, .int 0, .int 0, .int 0, .int 0])), (q6, .inl (k6, 3, .inr (.inr (.inr (.inr (va_up f_6 (Int32.toNatClampNeg 1) (some q28_7))))))), (q28, .inr (9, u_4)), (q28_7, .inr (9, u_10))] H := hP
  have hD : va_D A [(t, .inr (4, [.ref q6, .null, .int 0, .int 0, .int 0, .int 0])), (q6, .inl (k6, 3, .inr (.inr (.inr (.inr (va_up f_6 (Int32.toNatClampNeg 1) (some q28_7))))))), (q28, .inr (9, u_4)), (q28_7, .inr (9, u_10))] := hD
  generalize va_up f_6 (Int32.toNatClampNeg 1) (some q28_7) = f_12 at hP hD
  refine lv_iinc (v := 2) (lv' := [(1, .int 2), (0, .ref t)]) hx hb dX1_init_36 hl (k := 0) rfl (by decide) (by decide) rfl (fun ls hl => ?_)
  refine lv_goto (tgt := 14) hx hb dX1_init_39 (by decide) ?_
  refine lv_iload_n hx hb dX1_init_14 rfl (lv_at hl 0 rfl) ?_
  refine lv_aload_n hx hb dX1_init_15 rfl (lv_at hl 1 rfl) ?_
  refine va_get (D := (dC, dI)) (ci := 4) (v := .ref q6) (C := RX1) (T := TX1) (N := 6) hx hb hts (fun w h => List.mem_cons_of_mem _ (List.mem_append_right _ (List.mem_append_left _ h))) hown hK hP 0 rfl rfl 0 (by decide) (hts (.fieldLink RX1 11 "Spotbeat$Paces" "tracks" "[LSpotbeat$Track;") (by decide +kernel)) (fun _ h9 => h9) rfl dX1_init_16 ?_
  refine va_alen (v := 3) hx hb hK hP 1 0 rfl rfl rfl dX1_init_19 ?_
  refine lv_icmp_ge (tgt := 42) hx hb dX1_init_20 (by decide) (fun c_13 => absurd c_13 (by decide)) (fun _ => ?_)
  refine lv_aload_n hx hb dX1_init_23 rfl (lv_at hl 1 rfl) ?_
  refine va_get (D := (dC, dI)) (ci := 4) (v := .ref q6) (C := RX1) (T := TX1) (N := 6) hx hb hts (fun w h => List.mem_cons_of_mem _ (List.mem_append_right _ (List.mem_append_left _ h))) hown hK hP 0 rfl rfl 0 (by decide) (hts (.fieldLink RX1 11 "Spotbeat$Paces" "tracks" "[LSpotbeat$Track;") (by decide +kernel)) (fun _ h9 => h9) rfl dX1_init_24 ?_
  refine lv_iload_n hx hb dX1_init_27 rfl (lv_at hl 0 rfl) ?_
  refine va_new (ci := 9) (fs := [.null, .null, .null, .null, .int 0, .int 0]) (C := RX6) (T := TX6) (N := 6) hx hb hts (fun w h => List.mem_cons_of_mem _ (List.mem_append_right _ (List.mem_append_right _ (List.mem_append_left _ h)))) tyX6 tyX6_ok hown (hts (.classLink RX1 9 RX6) (by decide +kernel)) (hts (.instantiable RX6 6) (by decide +kernel)) (hts (.initialized RX6) (by decide +kernel)) hK hP hD hS hA rfl (fun j hj => by rcases (show j = 0 ∨ j = 1 ∨ j = 2 ∨ j = 3 ∨ j = 4 ∨ j = 5 by omega) with rfl | rfl | rfl | rfl | rfl | rfl <;> rfl) (Nat.le_of_ble_eq_true rfl) (Nat.le_of_ble_eq_true rfl) dX1_init_28 (fun q28_13 H hP hD hS => ?_)
  have hP : va_P (dC, dI) vwCl [(t, .inr (4, [.ref q6, .null, .int 0, .int 0, .int 0, .int 0])), (q6, .inl (k6, 3, .inr (.inr (.inr (.inr f_12))))), (q28, .inr (9, u_4)), (q28_7, .inr (9, u_10)), (q28_13, .inr (9, [.null, .null, .null, .null, .int 0, .int 0]))] H := hP
  have hD : va_D A [(t, .inr (4, [.ref q6, .null, .int 0, .int 0, .int 0, .int 0])), (q6, .inl (k6, 3, .inr (.inr (.inr (.inr f_12))))), (q28, .inr (9, u_4)), (q28_7, .inr (9, u_10)), (q28_13, .inr (9, [.null, .null, .null, .null, .int 0, .int 0]))] := hD
  refine lv_dup hx hb dX1_init_31 rfl ?_
  have hPc := hP.sub (ws' := [(q28_13, .inr (9, [.null, .null, .null, .null, .int 0, .int 0]))]) [4] rfl
  have hDc := hD.sub (ws' := [(q28_13, .inr (9, [.null, .null, .null, .null, .int 0, .int 0]))]) [4] (by decide) rfl
  have hKc := hK.sub (tys' := []) [] rfl
  have hFc := va_free (wc := [(q28_13, .inr (9, [.null, .null, .null, .null, .int 0, .int 0]))]) hD hS hA [4] rfl
  refine va_callv (va_runI (As := []) (rest := [.ref q28_13, .int 2, .ref q6]) ⟨hx, hb, hml, hown, hts⟩ (c_X6_init l dC dI H.size q28_13) (cwI 0 hts (goodIn_sub ((fun w h => List.mem_cons_of_mem _ (List.mem_append_right _ (List.mem_append_right _ (List.mem_append_right _ (h)))))) zgX6_init) rfl rfl rfl (hts (.initialized RX6) (by decide +kernel)) (hts (.methodLink RX1 17 yX6_init) (by decide +kernel)) (hts (.instanceMethod yX6_init) (by decide +kernel)) rfl (by decide +kernel) ⟨Nat.le_of_ble_eq_true rfl, Nat.le_of_ble_eq_true rfl⟩) ⟨gPc_blind, gPc_pass hPc hKc hDc⟩ rfl rfl hl.1 rfl (lv_room (Nat.le_of_ble_eq_true rfl)) dX1_init_32 ⟨Nat.le_of_ble_eq_true rfl, Nat.le_of_ble_eq_true rfl⟩) hS (fun q _ h => hFc q h) hFc (fun u_16 t H locs ht hvm hw hB hz hk hS => ?_)
  obtain ⟨hP1, hK1, hD1⟩ := hB
  rw [ht] at hP1
  obtain ⟨hP, hD⟩ := va_join (wr := [(t, .inr (4, [.ref q6, .null, .int 0, .int 0, .int 0, .int 0])), (q6, .inl (k6, 3, .inr (.inr (.inr (.inr f_12))))), (q28, .inr (9, u_4)), (q28_7, .inr (9, u_10))]) (w1 := [(q28_13, .inr (9, u_16))]) hP hD [4] [0, 1, 2, 3] rfl rfl (by decide) (by decide) hk hFc hP1 hD1
  have hP : va_P (dC, dI) vwCl [(t, .inr (4, [.ref q6, .null, .int 0, .int 0, .int 0, .int 0])), (q6, .inl (k6, 3, .inr (.inr (.inr (.inr f_12))))), (q28, .inr (9, u_4)), (q28_7, .inr (9, u_10)), (q28_13, .inr (9, u_16))] H := hP
  have hD : va_D A [(t, .inr (4, [.ref q6, .null, .int 0, .int 0, .int 0, .int 0])), (q6, .inl (k6, 3, .inr (.inr (.inr (.inr f_12))))), (q28, .inr (9, u_4)), (q28_7, .inr (9, u_10)), (q28_13, .inr (9, u_16))] := hD
  have w_17 : True := hw
  refine va_astq hx hb hK hP hD hS 1 0 4 9 rfl rfl rfl rfl (by decide +kernel) dX1_init_35 (fun H locs hP hD hS => ?_)
  have hP : va_P (dC, dI) vwCl [(t, .inr (4, [.ref q6, .null, .int 0, .int 0, .int 0, .int 0])), (q6, .inl (k6, 3, .inr (.inr (.inr (.inr (va_up f_12 (Int32.toNatClampNeg 2) (some q28_13))))))), (q28, .inr (9, u_4)), (q28_7, .inr (9, u_10)), (q28_13, .inr (9, u_16))] H := hP
  have hD : va_D A [(t, .inr (4, [.ref q6, .null, .int 0, .int 0, .int 0, .int 0])), (q6, .inl (k6, 3, .inr (.inr (.inr (.inr (va_up f_12 (Int32.toNatClampNeg 2) (some q28_13))))))), (q28, .inr (9, u_4)), (q28_7, .inr (9, u_10)), (q28_13, .inr (9, u_16))] := hD
  generalize va_up f_12 (Int32.toNatClampNeg 2) (some q28_13) = f_18 at hP hD
  refine lv_iinc (v := 3) (lv' := [(1, .int 3), (0, .ref t)]) hx hb dX1_init_36 hl (k := 0) rfl (by decide) (by decide) rfl (fun ls hl => ?_)
  refine lv_goto (tgt := 14) hx hb dX1_init_39 (by decide) ?_
  refine lv_iload_n hx hb dX1_init_14 rfl (lv_at hl 0 rfl) ?_
  refine lv_aload_n hx hb dX1_init_15 rfl (lv_at hl 1 rfl) ?_
  refine va_get (D := (dC, dI)) (ci := 4) (v := .ref q6) (C := RX1) (T := TX1) (N := 6) hx hb hts (fun w h => List.mem_cons_of_mem _ (List.mem_append_right _ (List.mem_append_left _ h))) hown hK hP 0 rfl rfl 0 (by decide) (hts (.fieldLink RX1 11 "Spotbeat$Paces" "tracks" "[LSpotbeat$Track;") (by decide +kernel)) (fun _ h9 => h9) rfl dX1_init_16 ?_
  refine va_alen (v := 3) hx hb hK hP 1 0 rfl rfl rfl dX1_init_19 ?_
  refine lv_icmp_ge (tgt := 42) hx hb dX1_init_20 (by decide) (fun _ => ?_) (fun c_19 => absurd c_19 (by decide))
  refine lv_aload_n hx hb dX1_init_42 rfl (lv_at hl 1 rfl) ?_
  refine lv_sipush (v := 2197) hx hb dX1_init_43 (by decide) ?_
  refine va_newa (atype := .boolean) (N' := 2197) (a0 := (2197, .inl (fun _ => 0))) hx hb (hts (.arrayClass .boolean) (by decide +kernel)) rfl hK hP hD hS hA (fun _ => rfl) (by decide) (by decide +kernel) (by decide) (Nat.le_of_ble_eq_true rfl) (Nat.le_of_ble_eq_true rfl) dX1_init_46 (fun q46 k46 H hK hP hD hS => ?_)
  have hK : va_K (dC, dI) vwCl [(k6, .object RX6), (k46, .boolean)] s := hK
  have hP : va_P (dC, dI) vwCl [(t, .inr (4, [.ref q6, .null, .int 0, .int 0, .int 0, .int 0])), (q6, .inl (k6, 3, .inr (.inr (.inr (.inr f_18))))), (q28, .inr (9, u_4)), (q28_7, .inr (9, u_10)), (q28_13, .inr (9, u_16)), (q46, .inl (k46, 2197, .inl (fun _ => 0)))] H := hP
  have hD : va_D A [(t, .inr (4, [.ref q6, .null, .int 0, .int 0, .int 0, .int 0])), (q6, .inl (k6, 3, .inr (.inr (.inr (.inr f_18))))), (q28, .inr (9, u_4)), (q28_7, .inr (9, u_10)), (q28_13, .inr (9, u_16)), (q46, .inl (k46, 2197, .inl (fun _ => 0)))] := hD
  refine va_putF (D := (dC, dI)) (ci := 4) (v := .ref q46) (ty := .array .boolean) (C := RX1) (T := TX1) (N := 6) hx hb hts (fun w h => List.mem_cons_of_mem _ (List.mem_append_right _ (List.mem_append_left _ h))) tyX1 tyX1_ok nmX1 hown hK hP hD hS 0 rfl rfl 1 (by decide) (hts (.fieldLink RX1 18 "Spotbeat$Paces" "seen" "[Z") (by decide +kernel)) (fun _ h9 => h9) rfl hin rfl (by decide +kernel) rfl rfl (Nat.le_of_ble_eq_true rfl) dX1_init_48 (fun H locs hP hD hS => ?_)
  have hP : va_P (dC, dI) vwCl [(t, .inr (4, [.ref q6, .ref q46, .int 0, .int 0, .int 0, .int 0])), (q6, .inl (k6, 3, .inr (.inr (.inr (.inr f_18))))), (q28, .inr (9, u_4)), (q28_7, .inr (9, u_10)), (q28_13, .inr (9, u_16)), (q46, .inl (k46, 2197, .inl (fun _ => 0)))] H := hP
  have hD : va_D A [(t, .inr (4, [.ref q6, .ref q46, .int 0, .int 0, .int 0, .int 0])), (q6, .inl (k6, 3, .inr (.inr (.inr (.inr f_18))))), (q28, .inr (9, u_4)), (q28_7, .inr (9, u_10)), (q28_13, .inr (9, u_16)), (q46, .inl (k46, 2197, .inl (fun _ => 0)))] := hD
  refine W.widen (k := 17) (n := 2374) (Nat.le_of_ble_eq_true rfl) (Nat.le_of_ble_eq_true rfl) ?_
  exact W.vret hx hb hr (fun t ht hW => ⟨⟨(), rfl, trivial, trivial⟩, hS.F ht⟩) hS.2.2 dX1_init_51

def zwX7_init : List Cond := .code yX7_init cX7_init 1 none :: (([.methodLink RX7 3 objectInit, .instanceMethod objectInit, .code objectInit ⟨#[0xb1]⟩ 1 none, .arrayClass .int, .fieldLink RX7 9 "Spotbeat" "parents" "[I", .classLink RX7 13 RX4, .fieldLink RX7 15 "Spotbeat" "spotRow" "[LSpotbeat$Spot;", .classLink RX7 19 RX5, .fieldLink RX7 21 "Spotbeat" "stationRow" "[LSpotbeat$Station;", .classLink RX7 25 RX3, .fieldLink RX7 27 "Spotbeat" "robotRow" "[LSpotbeat$Robot;", .classLink RX7 31 RX0, .fieldLink RX7 33 "Spotbeat" "bodyRow" "[LSpotbeat$Body;", .classLink RX7 37 RX1, .instantiable RX1 6, .initialized RX1, .methodLink RX7 39 yX1_init, .instanceMethod yX1_init, .fieldLink RX7 40 "Spotbeat" "paces" "LSpotbeat$Paces;"] : List Cond) ++ (wsX70 ++ (wsX10 ++ (zwX1_init))))
theorem zgX7_init : zwX7_init.all goodWord = true := zgo rfl (zga (by decide +kernel) (zga zgcX7 (zga zgcX1 (zgX1_init))))
set_option maxHeartbeats 4000000 in
set_option maxRecDepth 100000 in
/-- Spotbeat(): the world of a new object -/
theorem c_X7_init (l : Launch) (dC : Nat → ClassId) (dI : Nat → Nat → Nat) (sz : Nat) (x : Nat) : Met l yX7_init zwX7_init ({ frames := 3, cells := 23, slots := 2468, locals := 53 }) (gPcE dC dI sz [(x, .inr (10, [.null, .null, .null, .null, .null, .null, .int 0, .int 0, .int 0, .int 0, .int 0, .int 0]))] [] [.ref x]) (va_Qv (fun (u : (Nat → Nat) × (Nat → ClassId)) => True) (fun u t => va_P (dC, dI) vwCl (xW x u.1 u.2) t.heap ∧ va_K (dC, dI) vwCl (xT u.2) t ∧ va_D (va_A [(x, .inr (10, [.null, .null, .null, .null, .null, .null, .int 0, .int 0, .int 0, .int 0, .int 0, .int 0]))] sz) (xW x u.1 u.2)) (va_A [(x, .inr (10, [.null, .null, .null, .null, .null, .null, .int 0, .int 0, .int 0, .int 0, .int 0, .int 0]))] sz)) 23 2468 (va_A [(x, .inr (10, [.null, .null, .null, .null, .null, .null, .int 0, .int 0, .int 0, .int 0, .int 0, .int 0]))] sz) := by
  refine Met.ofW (cc := cX7_init) (maxL := 1) (ret := none) (by decide) rfl ?_
  intro p e s m args below meth c s₁ B hml hv
  obtain ⟨rfl, hsz, hP, hK, hD0, hE⟩ := hv
  have hx := B.exec
  have hb := B.bytes
  have hr := B.returns
  have hts := atoms_spec (ws := zwX7_init) B.pre
  have hown : s.vm.findClass RX7 = some m.cls := findClass_of_methodNamed B.named
  have hlocks := B.notSynchronized
  have hin : meth.name = "<init>" := (name_of_methodNamed B.named B.method).1
  subst hsz
  have hD := hD0.self (sz := s.heap.size)
  generalize hAe : va_A [(x, .inr (10, [.null, .null, .null, .null, .null, .null, .int 0, .int 0, .int 0, .int 0, .int 0, .int 0]))] s.heap.size = A at hD hE ⊢
  have hA : ∀ q : Nat, s.heap.size ≤ q → A q := fun q h => by rw [← hAe]; exact Or.inr h
  have hS : va_S A s.heap s.heap [] := va_S.rf
  have hP : va_P (dC, dI) vwCl [(x, .inr (10, [.null, .null, .null, .null, .null, .null, .int 0, .int 0, .int 0, .int 0, .int 0, .int 0]))] s.heap := hP
  have hl := lv_entry ([.ref x]) (n := 1) (Nat.le_of_ble_eq_true rfl)
  rw [lg_entry_eq]
  generalize (lg_sl ([.ref x]) ++ List.replicate (1 - (lg_sl ([.ref x])).length) Slot.unset).toArray = ls at hl ⊢
  have hl : lv_has ls 1 [(0, .ref x)] := hl
  refine lv_aload_n hx hb dX7_init_0 rfl (lv_at hl 0 rfl) ?_
  refine W.objInit hx hb hown (hts (.methodLink RX7 3 objectInit) (by decide +kernel)) (hts (.instanceMethod objectInit) (by decide +kernel)) (hts (.code objectInit ⟨#[0xb1]⟩ 1 none) (by decide +kernel)) rfl (by rw [hml]; exact hl.1) rfl dX7_init_1 (Nat.le_of_ble_eq_true rfl) (Nat.le_of_ble_eq_true rfl) ?_
  refine W.eq (g2 := F0 m 4 ls []) rfl ?_
  refine lv_aload_n hx hb dX7_init_4 rfl (lv_at hl 0 rfl) ?_
  refine lv_bipush (v := 8) hx hb dX7_init_5 (by decide) ?_
  refine va_newa (atype := .int) (N' := 8) (a0 := (8, .inl (fun _ => 0))) hx hb (hts (.arrayClass .int) (by decide +kernel)) rfl hK hP hD hS hA (fun _ => rfl) (by decide) (by decide +kernel) (by decide) (Nat.le_of_ble_eq_true rfl) (Nat.le_of_ble_eq_true rfl) dX7_init_7 (fun q7 k7 H hK hP hD hS => ?_)
  have hK : va_K (dC, dI) vwCl [(k7, .int)] s := hK
  have hP : va_P (dC, dI) vwCl [(x, .inr (10, [.null, .null, .null, .null, .null, .null, .int 0, .int 0, .int 0, .int 0, .int 0, .int 0])), (q7, .inl (k7, 8, .inl (fun _ => 0)))] H := hP
  have hD : va_D A [(x, .inr (10, [.null, .null, .null, .null, .null, .null, .int 0, .int 0, .int 0, .int 0, .int 0, .int 0])), (q7, .inl (k7, 8, .inl (fun _ => 0)))] := hD
  refine va_putF (D := (dC, dI)) (ci := 10) (v := .ref q7) (ty := .array .int) (C := RX7) (T := TX7) (N := 12) hx hb hts (fun w h => List.mem_cons_of_mem _ (List.mem_append_right _ (List.mem_append_left _ h))) tyX7 tyX7_ok nmX7 hown hK hP hD hS 0 rfl rfl 0 (by decide) (hts (.fieldLink RX7 9 "Spotbeat" "parents" "[I") (by decide +kernel)) (fun _ h9 => h9) rfl hin rfl (by decide +kernel) rfl rfl (Nat.le_of_ble_eq_true rfl) dX7_init_9 (fun H locs hP hD hS => ?_)
  have hP : va_P (dC, dI) vwCl [(x, .inr (10, [.ref q7, .null, .null, .null, .null, .null, .int 0, .int 0, .int 0, .int 0, .int 0, .int 0])), (q7, .inl (k7, 8, .inl (fun _ => 0)))] H := hP
  have hD : va_D A [(x, .inr (10, [.ref q7, .null, .null, .null, .null, .null, .int 0, .int 0, .int 0, .int 0, .int 0, .int 0])), (q7, .inl (k7, 8, .inl (fun _ => 0)))] := hD
  refine lv_aload_n hx hb dX7_init_12 rfl (lv_at hl 0 rfl) ?_
  refine lv_bipush (v := 24) hx hb dX7_init_13 (by decide) ?_
  refine va_newq (N' := 24) hx hb hown (hts (.classLink RX7 13 RX4) (by decide +kernel)) (hE.2.2.2.2.2.1 _ (by decide)) hK hP hD hS hA (by decide) (by decide +kernel) (by decide) (Nat.le_of_ble_eq_true rfl) (Nat.le_of_ble_eq_true rfl) dX7_init_15 (fun q15 k15 H hK hP hD hS => ?_)
  have hK : va_K (dC, dI) vwCl [(k7, .int), (k15, .object RX4)] s := hK
  have hP : va_P (dC, dI) vwCl [(x, .inr (10, [.ref q7, .null, .null, .null, .null, .null, .int 0, .int 0, .int 0, .int 0, .int 0, .int 0])), (q7, .inl (k7, 8, .inl (fun _ => 0))), (q15, .inl (k15, 24, .inr (.inr (.inr (.inr (fun _ => none))))))] H := hP
  have hD : va_D A [(x, .inr (10, [.ref q7, .null, .null, .null, .null, .null, .int 0, .int 0, .int 0, .int 0, .int 0, .int 0])), (q7, .inl (k7, 8, .inl (fun _ => 0))), (q15, .inl (k15, 24, .inr (.inr (.inr (.inr (fun _ => none))))))] := hD
  refine va_putF (D := (dC, dI)) (ci := 10) (v := .ref q15) (ty := .array (.object "Spotbeat$Spot")) (C := RX7) (T := TX7) (N := 12) hx hb hts (fun w h => List.mem_cons_of_mem _ (List.mem_append_right _ (List.mem_append_left _ h))) tyX7 tyX7_ok nmX7 hown hK hP hD hS 0 rfl rfl 1 (by decide) (hts (.fieldLink RX7 15 "Spotbeat" "spotRow" "[LSpotbeat$Spot;") (by decide +kernel)) (fun _ h9 => h9) rfl hin rfl (by decide +kernel) rfl rfl (Nat.le_of_ble_eq_true rfl) dX7_init_18 (fun H locs hP hD hS => ?_)
  have hP : va_P (dC, dI) vwCl [(x, .inr (10, [.ref q7, .ref q15, .null, .null, .null, .null, .int 0, .int 0, .int 0, .int 0, .int 0, .int 0])), (q7, .inl (k7, 8, .inl (fun _ => 0))), (q15, .inl (k15, 24, .inr (.inr (.inr (.inr (fun _ => none))))))] H := hP
  have hD : va_D A [(x, .inr (10, [.ref q7, .ref q15, .null, .null, .null, .null, .int 0, .int 0, .int 0, .int 0, .int 0, .int 0])), (q7, .inl (k7, 8, .inl (fun _ => 0))), (q15, .inl (k15, 24, .inr (.inr (.inr (.inr (fun _ => none))))))] := hD
  refine lv_aload_n hx hb dX7_init_21 rfl (lv_at hl 0 rfl) ?_
  refine lv_iconst (v := 4) hx hb dX7_init_22 (by decide) ?_
  refine va_newq (N' := 4) hx hb hown (hts (.classLink RX7 19 RX5) (by decide +kernel)) (hE.2.2.2.2.2.1 _ (by decide)) hK hP hD hS hA (by decide) (by decide +kernel) (by decide) (Nat.le_of_ble_eq_true rfl) (Nat.le_of_ble_eq_true rfl) dX7_init_23 (fun q23 k23 H hK hP hD hS => ?_)
  have hK : va_K (dC, dI) vwCl [(k7, .int), (k15, .object RX4), (k23, .object RX5)] s := hK
  have hP : va_P (dC, dI) vwCl [(x, .inr (10, [.ref q7, .ref q15, .null, .null, .null, .null, .int 0, .int 0, .int 0, .int 0, .int 0, .int 0])), (q7, .inl (k7, 8, .inl (fun _ => 0))), (q15, .inl (k15, 24, .inr (.inr (.inr (.inr (fun _ => none)))))), (q23, .inl (k23, 4, .inr (.inr (.inr (.inr (fun _ => none))))))] H := hP
  have hD : va_D A [(x, .inr (10, [.ref q7, .ref q15, .null, .null, .null, .null, .int 0, .int 0, .int 0, .int 0, .int 0, .int 0])), (q7, .inl (k7, 8, .inl (fun _ => 0))), (q15, .inl (k15, 24, .inr (.inr (.inr (.inr (fun _ => none)))))), (q23, .inl (k23, 4, .inr (.inr (.inr (.inr (fun _ => none))))))] := hD
  refine va_putF (D := (dC, dI)) (ci := 10) (v := .ref q23) (ty := .array (.object "Spotbeat$Station")) (C := RX7) (T := TX7) (N := 12) hx hb hts (fun w h => List.mem_cons_of_mem _ (List.mem_append_right _ (List.mem_append_left _ h))) tyX7 tyX7_ok nmX7 hown hK hP hD hS 0 rfl rfl 2 (by decide) (hts (.fieldLink RX7 21 "Spotbeat" "stationRow" "[LSpotbeat$Station;") (by decide +kernel)) (fun _ h9 => h9) rfl hin rfl (by decide +kernel) rfl rfl (Nat.le_of_ble_eq_true rfl) dX7_init_26 (fun H locs hP hD hS => ?_)
  have hP : va_P (dC, dI) vwCl [(x, .inr (10, [.ref q7, .ref q15, .ref q23, .null, .null, .null, .int 0, .int 0, .int 0, .int 0, .int 0, .int 0])), (q7, .inl (k7, 8, .inl (fun _ => 0))), (q15, .inl (k15, 24, .inr (.inr (.inr (.inr (fun _ => none)))))), (q23, .inl (k23, 4, .inr (.inr (.inr (.inr (fun _ => none))))))] H := hP
  have hD : va_D A [(x, .inr (10, [.ref q7, .ref q15, .ref q23, .null, .null, .null, .int 0, .int 0, .int 0, .int 0, .int 0, .int 0])), (q7, .inl (k7, 8, .inl (fun _ => 0))), (q15, .inl (k15, 24, .inr (.inr (.inr (.inr (fun _ => none)))))), (q23, .inl (k23, 4, .inr (.inr (.inr (.inr (fun _ => none))))))] := hD
  refine lv_aload_n hx hb dX7_init_29 rfl (lv_at hl 0 rfl) ?_
  refine lv_bipush (v := 12) hx hb dX7_init_30 (by decide) ?_
  refine va_newq (N' := 12) hx hb hown (hts (.classLink RX7 25 RX3) (by decide +kernel)) (hE.2.2.2.2.2.1 _ (by decide)) hK hP hD hS hA (by decide) (by decide +kernel) (by decide) (Nat.le_of_ble_eq_true rfl) (Nat.le_of_ble_eq_true rfl) dX7_init_32 (fun q32 k32 H hK hP hD hS => ?_)
  have hK : va_K (dC, dI) vwCl [(k7, .int), (k15, .object RX4), (k23, .object RX5), (k32, .object RX3)] s := hK
  have hP : va_P (dC, dI) vwCl [(x, .inr (10, [.ref q7, .ref q15, .ref q23, .null, .null, .null, .int 0, .int 0, .int 0, .int 0, .int 0, .int 0])), (q7, .inl (k7, 8, .inl (fun _ => 0))), (q15, .inl (k15, 24, .inr (.inr (.inr (.inr (fun _ => none)))))), (q23, .inl (k23, 4, .inr (.inr (.inr (.inr (fun _ => none)))))), (q32, .inl (k32, 12, .inr (.inr (.inr (.inr (fun _ => none))))))] H := hP
  have hD : va_D A [(x, .inr (10, [.ref q7, .ref q15, .ref q23, .null, .null, .null, .int 0, .int 0, .int 0, .int 0, .int 0, .int 0])), (q7, .inl (k7, 8, .inl (fun _ => 0))), (q15, .inl (k15, 24, .inr (.inr (.inr (.inr (fun _ => none)))))), (q23, .inl (k23, 4, .inr (.inr (.inr (.inr (fun _ => none)))))), (q32, .inl (k32, 12, .inr (.inr (.inr (.inr (fun _ => none))))))] := hD
  refine va_putF (D := (dC, dI)) (ci := 10) (v := .ref q32) (ty := .array (.object "Spotbeat$Robot")) (C := RX7) (T := TX7) (N := 12) hx hb hts (fun w h => List.mem_cons_of_mem _ (List.mem_append_right _ (List.mem_append_left _ h))) tyX7 tyX7_ok nmX7 hown hK hP hD hS 0 rfl rfl 3 (by decide) (hts (.fieldLink RX7 27 "Spotbeat" "robotRow" "[LSpotbeat$Robot;") (by decide +kernel)) (fun _ h9 => h9) rfl hin rfl (by decide +kernel) rfl rfl (Nat.le_of_ble_eq_true rfl) dX7_init_35 (fun H locs hP hD hS => ?_)
  have hP : va_P (dC, dI) vwCl [(x, .inr (10, [.ref q7, .ref q15, .ref q23, .ref q32, .null, .null, .int 0, .int 0, .int 0, .int 0, .int 0, .int 0])), (q7, .inl (k7, 8, .inl (fun _ => 0))), (q15, .inl (k15, 24, .inr (.inr (.inr (.inr (fun _ => none)))))), (q23, .inl (k23, 4, .inr (.inr (.inr (.inr (fun _ => none)))))), (q32, .inl (k32, 12, .inr (.inr (.inr (.inr (fun _ => none))))))] H := hP
  have hD : va_D A [(x, .inr (10, [.ref q7, .ref q15, .ref q23, .ref q32, .null, .null, .int 0, .int 0, .int 0, .int 0, .int 0, .int 0])), (q7, .inl (k7, 8, .inl (fun _ => 0))), (q15, .inl (k15, 24, .inr (.inr (.inr (.inr (fun _ => none)))))), (q23, .inl (k23, 4, .inr (.inr (.inr (.inr (fun _ => none)))))), (q32, .inl (k32, 12, .inr (.inr (.inr (.inr (fun _ => none))))))] := hD
  refine lv_aload_n hx hb dX7_init_38 rfl (lv_at hl 0 rfl) ?_
  refine lv_bipush (v := 40) hx hb dX7_init_39 (by decide) ?_
  refine va_newq (N' := 40) hx hb hown (hts (.classLink RX7 31 RX0) (by decide +kernel)) (hE.2.2.2.2.2.1 _ (by decide)) hK hP hD hS hA (by decide) (by decide +kernel) (by decide) (Nat.le_of_ble_eq_true rfl) (Nat.le_of_ble_eq_true rfl) dX7_init_41 (fun q41 k41 H hK hP hD hS => ?_)
  have hK : va_K (dC, dI) vwCl [(k7, .int), (k15, .object RX4), (k23, .object RX5), (k32, .object RX3), (k41, .object RX0)] s := hK
  have hP : va_P (dC, dI) vwCl [(x, .inr (10, [.ref q7, .ref q15, .ref q23, .ref q32, .null, .null, .int 0, .int 0, .int 0, .int 0, .int 0, .int 0])), (q7, .inl (k7, 8, .inl (fun _ => 0))), (q15, .inl (k15, 24, .inr (.inr (.inr (.inr (fun _ => none)))))), (q23, .inl (k23, 4, .inr (.inr (.inr (.inr (fun _ => none)))))), (q32, .inl (k32, 12, .inr (.inr (.inr (.inr (fun _ => none)))))), (q41, .inl (k41, 40, .inr (.inr (.inr (.inr (fun _ => none))))))] H := hP
  have hD : va_D A [(x, .inr (10, [.ref q7, .ref q15, .ref q23, .ref q32, .null, .null, .int 0, .int 0, .int 0, .int 0, .int 0, .int 0])), (q7, .inl (k7, 8, .inl (fun _ => 0))), (q15, .inl (k15, 24, .inr (.inr (.inr (.inr (fun _ => none)))))), (q23, .inl (k23, 4, .inr (.inr (.inr (.inr (fun _ => none)))))), (q32, .inl (k32, 12, .inr (.inr (.inr (.inr (fun _ => none)))))), (q41, .inl (k41, 40, .inr (.inr (.inr (.inr (fun _ => none))))))] := hD
  refine va_putF (D := (dC, dI)) (ci := 10) (v := .ref q41) (ty := .array (.object "Spotbeat$Body")) (C := RX7) (T := TX7) (N := 12) hx hb hts (fun w h => List.mem_cons_of_mem _ (List.mem_append_right _ (List.mem_append_left _ h))) tyX7 tyX7_ok nmX7 hown hK hP hD hS 0 rfl rfl 4 (by decide) (hts (.fieldLink RX7 33 "Spotbeat" "bodyRow" "[LSpotbeat$Body;") (by decide +kernel)) (fun _ h9 => h9) rfl hin rfl (by decide +kernel) rfl rfl (Nat.le_of_ble_eq_true rfl) dX7_init_44 (fun H locs hP hD hS => ?_)
  have hP : va_P (dC, dI) vwCl [(x, .inr (10, [.ref q7, .ref q15, .ref q23, .ref q32, .ref q41, .null, .int 0, .int 0, .int 0, .int 0, .int 0, .int 0])), (q7, .inl (k7, 8, .inl (fun _ => 0))), (q15, .inl (k15, 24, .inr (.inr (.inr (.inr (fun _ => none)))))), (q23, .inl (k23, 4, .inr (.inr (.inr (.inr (fun _ => none)))))), (q32, .inl (k32, 12, .inr (.inr (.inr (.inr (fun _ => none)))))), (q41, .inl (k41, 40, .inr (.inr (.inr (.inr (fun _ => none))))))] H := hP
  have hD : va_D A [(x, .inr (10, [.ref q7, .ref q15, .ref q23, .ref q32, .ref q41, .null, .int 0, .int 0, .int 0, .int 0, .int 0, .int 0])), (q7, .inl (k7, 8, .inl (fun _ => 0))), (q15, .inl (k15, 24, .inr (.inr (.inr (.inr (fun _ => none)))))), (q23, .inl (k23, 4, .inr (.inr (.inr (.inr (fun _ => none)))))), (q32, .inl (k32, 12, .inr (.inr (.inr (.inr (fun _ => none)))))), (q41, .inl (k41, 40, .inr (.inr (.inr (.inr (fun _ => none))))))] := hD
  refine lv_aload_n hx hb dX7_init_47 rfl (lv_at hl 0 rfl) ?_
  refine va_new (ci := 4) (fs := [.null, .null, .int 0, .int 0, .int 0, .int 0]) (C := RX1) (T := TX1) (N := 6) hx hb hts (fun w h => List.mem_cons_of_mem _ (List.mem_append_right _ (List.mem_append_right _ (List.mem_append_left _ h)))) tyX1 tyX1_ok hown (hts (.classLink RX7 37 RX1) (by decide +kernel)) (hts (.instantiable RX1 6) (by decide +kernel)) (hts (.initialized RX1) (by decide +kernel)) hK hP hD hS hA rfl (fun j hj => by rcases (show j = 0 ∨ j = 1 ∨ j = 2 ∨ j = 3 ∨ j = 4 ∨ j = 5 by omega) with rfl | rfl | rfl | rfl | rfl | rfl <;> rfl) (Nat.le_of_ble_eq_true rfl) (Nat.le_of_ble_eq_true rfl) dX7_init_48 (fun q48 H hP hD hS => ?_)
  have hP : va_P (dC, dI) vwCl [(x, .inr (10, [.ref q7, .ref q15, .ref q23, .ref q32, .ref q41, .null, .int 0, .int 0, .int 0, .int 0, .int 0, .int 0])), (q7, .inl (k7, 8, .inl (fun _ => 0))), (q15, .inl (k15, 24, .inr (.inr (.inr (.inr (fun _ => none)))))), (q23, .inl (k23, 4, .inr (.inr (.inr (.inr (fun _ => none)))))), (q32, .inl (k32, 12, .inr (.inr (.inr (.inr (fun _ => none)))))), (q41, .inl (k41, 40, .inr (.inr (.inr (.inr (fun _ => none)))))), (q48, .inr (4, [.null, .null, .int 0, .int 0, .int 0, .int 0]))] H := hP
  have hD : va_D A [(x, .inr (10, [.ref q7, .ref q15, .ref q23, .ref q32, .ref q41, .null, .int 0, .int 0, .int 0, .int 0, .int 0, .int 0])), (q7, .inl (k7, 8, .inl (fun _ => 0))), (q15, .inl (k15, 24, .inr (.inr (.inr (.inr (fun _ => none)))))), (q23, .inl (k23, 4, .inr (.inr (.inr (.inr (fun _ => none)))))), (q32, .inl (k32, 12, .inr (.inr (.inr (.inr (fun _ => none)))))), (q41, .inl (k41, 40, .inr (.inr (.inr (.inr (fun _ => none)))))), (q48, .inr (4, [.null, .null, .int 0, .int 0, .int 0, .int 0]))] := hD
  refine lv_dup hx hb dX7_init_51 rfl ?_
  have hPc := hP.sub (ws' := [(q48, .inr (4, [.null, .null, .int 0, .int 0, .int 0, .int 0]))]) [6] rfl
  have hDc := hD.sub (ws' := [(q48, .inr (4, [.null, .null, .int 0, .int 0, .int 0, .int 0]))]) [6] (by decide) rfl
  have hKc := hK.sub (tys' := []) [] rfl
  have hFc := va_free (wc := [(q48, .inr (4, [.null, .null, .int 0, .int 0, .int 0, .int 0]))]) hD hS hA [6] rfl
  refine va_callv (va_runI (As := []) (rest := [.ref q48, .ref x]) ⟨hx, hb, hml, hown, hts⟩ (c_X1_init l dC dI H.size q48) (cwI 0 hts (goodIn_sub ((fun w h => List.mem_cons_of_mem _ (List.mem_append_right _ (List.mem_append_right _ (List.mem_append_right _ (h)))))) zgX1_init) rfl rfl rfl (hts (.initialized RX1) (by decide +kernel)) (hts (.methodLink RX7 39 yX1_init) (by decide +kernel)) (hts (.instanceMethod yX1_init) (by decide +kernel)) rfl (by decide +kernel) ⟨Nat.le_of_ble_eq_true rfl, Nat.le_of_ble_eq_true rfl⟩) ⟨gPcE_blind, gPcE_pass hPc hKc hDc hE hS hFc⟩ rfl rfl hl.1 rfl (lv_room (Nat.le_of_ble_eq_true rfl)) dX7_init_52 ⟨Nat.le_of_ble_eq_true rfl, Nat.le_of_ble_eq_true rfl⟩) hS (fun q _ h => hFc q h) hFc (fun u_3 t H locs ht hvm hw hB hz hk hS => ?_)
  obtain ⟨hP, hD⟩ := va_join (wr := [(x, .inr (10, [.ref q7, .ref q15, .ref q23, .ref q32, .ref q41, .null, .int 0, .int 0, .int 0, .int 0, .int 0, .int 0])), (q7, .inl (k7, 8, .inl (fun _ => 0))), (q15, .inl (k15, 24, .inr (.inr (.inr (.inr (fun _ => none)))))), (q23, .inl (k23, 4, .inr (.inr (.inr (.inr (fun _ => none)))))), (q32, .inl (k32, 12, .inr (.inr (.inr (.inr (fun _ => none)))))), (q41, .inl (k41, 40, .inr (.inr (.inr (.inr (fun _ => none))))))]) (w1 := []) hP hD [6] [0, 1, 2, 3, 4, 5] rfl rfl (by decide) (by decide) hk hFc zP_nil zD_nil
  have hP : va_P (dC, dI) vwCl [(x, .inr (10, [.ref q7, .ref q15, .ref q23, .ref q32, .ref q41, .null, .int 0, .int 0, .int 0, .int 0, .int 0, .int 0])), (q7, .inl (k7, 8, .inl (fun _ => 0))), (q15, .inl (k15, 24, .inr (.inr (.inr (.inr (fun _ => none)))))), (q23, .inl (k23, 4, .inr (.inr (.inr (.inr (fun _ => none)))))), (q32, .inl (k32, 12, .inr (.inr (.inr (.inr (fun _ => none)))))), (q41, .inl (k41, 40, .inr (.inr (.inr (.inr (fun _ => none))))))] H := hP
  have hD : va_D A [(x, .inr (10, [.ref q7, .ref q15, .ref q23, .ref q32, .ref q41, .null, .int 0, .int 0, .int 0, .int 0, .int 0, .int 0])), (q7, .inl (k7, 8, .inl (fun _ => 0))), (q15, .inl (k15, 24, .inr (.inr (.inr (.inr (fun _ => none)))))), (q23, .inl (k23, 4, .inr (.inr (.inr (.inr (fun _ => none)))))), (q32, .inl (k32, 12, .inr (.inr (.inr (.inr (fun _ => none)))))), (q41, .inl (k41, 40, .inr (.inr (.inr (.inr (fun _ => none))))))] := hD
  have w_4 : True := hw
  refine va_putF (D := (dC, dI)) (ci := 10) (v := .ref q48) (ty := .object "Spotbeat$Paces") (C := RX7) (T := TX7) (N := 12) hx hb hts (fun w h => List.mem_cons_of_mem _ (List.mem_append_right _ (List.mem_append_left _ h))) tyX7 tyX7_ok nmX7 hown hK hP hD hS 0 rfl rfl 5 (by decide) (hts (.fieldLink RX7 40 "Spotbeat" "paces" "LSpotbeat$Paces;") (by decide +kernel)) (fun _ h9 => h9) rfl hin rfl (by decide +kernel) rfl rfl (Nat.le_of_ble_eq_true rfl) dX7_init_55 (fun H locs hP hD hS => ?_)
  have hP : va_P (dC, dI) vwCl [(x, .inr (10, [.ref q7, .ref q15, .ref q23, .ref q32, .ref q41, .ref q48, .int 0, .int 0, .int 0, .int 0, .int 0, .int 0])), (q7, .inl (k7, 8, .inl (fun _ => 0))), (q15, .inl (k15, 24, .inr (.inr (.inr (.inr (fun _ => none)))))), (q23, .inl (k23, 4, .inr (.inr (.inr (.inr (fun _ => none)))))), (q32, .inl (k32, 12, .inr (.inr (.inr (.inr (fun _ => none)))))), (q41, .inl (k41, 40, .inr (.inr (.inr (.inr (fun _ => none))))))] H := hP
  have hD : va_D A [(x, .inr (10, [.ref q7, .ref q15, .ref q23, .ref q32, .ref q41, .ref q48, .int 0, .int 0, .int 0, .int 0, .int 0, .int 0])), (q7, .inl (k7, 8, .inl (fun _ => 0))), (q15, .inl (k15, 24, .inr (.inr (.inr (.inr (fun _ => none)))))), (q23, .inl (k23, 4, .inr (.inr (.inr (.inr (fun _ => none)))))), (q32, .inl (k32, 12, .inr (.inr (.inr (.inr (fun _ => none)))))), (q41, .inl (k41, 40, .inr (.inr (.inr (.inr (fun _ => none))))))] := hD
  have hP9 := hP.sub (ws' := [(x, .inr (10, [.ref q7, .ref q15, .ref q23, .ref q32, .ref q41, .ref q48, .int 0, .int 0, .int 0, .int 0, .int 0, .int 0])), (q7, .inl (k7, 8, .inl (fun _ => 0))), (q15, .inl (k15, 24, .inr (.inr (.inr (.inr (fun _ => none)))))), (q23, .inl (k23, 4, .inr (.inr (.inr (.inr (fun _ => none)))))), (q32, .inl (k32, 12, .inr (.inr (.inr (.inr (fun _ => none)))))), (q41, .inl (k41, 40, .inr (.inr (.inr (.inr (fun _ => none))))))]) [0, 1, 2, 3, 4, 5] rfl
  have hD9 := hD.sub (ws' := [(x, .inr (10, [.ref q7, .ref q15, .ref q23, .ref q32, .ref q41, .ref q48, .int 0, .int 0, .int 0, .int 0, .int 0, .int 0])), (q7, .inl (k7, 8, .inl (fun _ => 0))), (q15, .inl (k15, 24, .inr (.inr (.inr (.inr (fun _ => none)))))), (q23, .inl (k23, 4, .inr (.inr (.inr (.inr (fun _ => none)))))), (q32, .inl (k32, 12, .inr (.inr (.inr (.inr (fun _ => none)))))), (q41, .inl (k41, 40, .inr (.inr (.inr (.inr (fun _ => none))))))]) [0, 1, 2, 3, 4, 5] (by decide) rfl
  have hK9 := hK.sub (tys' := [(k7, .int), (k15, .object RX4), (k23, .object RX5), (k32, .object RX3), (k41, .object RX0)]) [0, 1, 2, 3, 4] rfl
  refine W.widen (k := 23) (n := 2468) (Nat.le_of_ble_eq_true rfl) (Nat.le_of_ble_eq_true rfl) ?_
  exact W.vret hx hb hr (fun t ht hW => ⟨⟨((fun k => [q7, q15, q23, q32, q41, q48].getD k 0), (fun k => [k7, k15, k23, k32, k41].getD k 0)), rfl, trivial, by rw [ht]; exact hP9, va_K.moved hW.alike hK9, hD9⟩, hS.F ht⟩) hS.2.2 dX7_init_58

def zwX7_panel : List Cond := .code yX7_panel cX7_panel 3 (some .int) :: (([.fieldLink RX7 44 "Spotbeat" "panelCount" "I", .fieldLink RX7 9 "Spotbeat" "parents" "[I"] : List Cond) ++ (wsX70))
theorem zgX7_panel : zwX7_panel.all goodWord = true := zgo rfl (zga (by decide +kernel) (zgcX7))
set_option maxHeartbeats 4000000 in
set_option maxRecDepth 100000 in
/-- panel(a) of a new object: 0 -/
theorem c_X7_panel (l : Launch) (dC : Nat → ClassId) (dI : Nat → Nat → Nat) (sz : Nat) (x : Nat) (ax : Nat → Nat) (kx : Nat → ClassId) (a : Int32) : Met l yX7_panel zwX7_panel ({ frames := 0, cells := 0, slots := 0, locals := 0 }) (gPcE dC dI sz [(x, .inr (10, [.ref (ax 0), .ref (ax 1), .ref (ax 2), .ref (ax 3), .ref (ax 4), .ref (ax 5), .int 0, .int 0, .int 0, .int 0, .int 0, .int 0])), ((ax 0), .inl ((kx 0), 8, .inl (fun _ => 0))), ((ax 1), .inl ((kx 1), 24, .inr (.inr (.inr (.inr (fun _ => none)))))), ((ax 2), .inl ((kx 2), 4, .inr (.inr (.inr (.inr (fun _ => none)))))), ((ax 3), .inl ((kx 3), 12, .inr (.inr (.inr (.inr (fun _ => none)))))), ((ax 4), .inl ((kx 4), 40, .inr (.inr (.inr (.inr (fun _ => none))))))] [((kx 0), .int), ((kx 1), .object RX4), ((kx 2), .object RX5), ((kx 3), .object RX3), ((kx 4), .object RX0)] [.ref x, .int a]) (va_Qi (fun (r : Int32) (u : Unit) => r = 0) (fun u t => True) (va_A [(x, .inr (10, [.ref (ax 0), .ref (ax 1), .ref (ax 2), .ref (ax 3), .ref (ax 4), .ref (ax 5), .int 0, .int 0, .int 0, .int 0, .int 0, .int 0])), ((ax 0), .inl ((kx 0), 8, .inl (fun _ => 0))), ((ax 1), .inl ((kx 1), 24, .inr (.inr (.inr (.inr (fun _ => none)))))), ((ax 2), .inl ((kx 2), 4, .inr (.inr (.inr (.inr (fun _ => none)))))), ((ax 3), .inl ((kx 3), 12, .inr (.inr (.inr (.inr (fun _ => none)))))), ((ax 4), .inl ((kx 4), 40, .inr (.inr (.inr (.inr (fun _ => none))))))] sz)) 0 0 (va_A [(x, .inr (10, [.ref (ax 0), .ref (ax 1), .ref (ax 2), .ref (ax 3), .ref (ax 4), .ref (ax 5), .int 0, .int 0, .int 0, .int 0, .int 0, .int 0])), ((ax 0), .inl ((kx 0), 8, .inl (fun _ => 0))), ((ax 1), .inl ((kx 1), 24, .inr (.inr (.inr (.inr (fun _ => none)))))), ((ax 2), .inl ((kx 2), 4, .inr (.inr (.inr (.inr (fun _ => none)))))), ((ax 3), .inl ((kx 3), 12, .inr (.inr (.inr (.inr (fun _ => none)))))), ((ax 4), .inl ((kx 4), 40, .inr (.inr (.inr (.inr (fun _ => none))))))] sz) := by
  refine Met.ofW (cc := cX7_panel) (maxL := 3) (ret := (some .int)) (by decide) rfl ?_
  intro p e s m args below meth c s₁ B hml hv
  obtain ⟨rfl, hsz, hP, hK, hD0, hE⟩ := hv
  have hx := B.exec
  have hb := B.bytes
  have hr := B.returns
  have hts := atoms_spec (ws := zwX7_panel) B.pre
  have hown : s.vm.findClass RX7 = some m.cls := findClass_of_methodNamed B.named
  have hlocks := B.notSynchronized
  subst hsz
  have hD := hD0.self (sz := s.heap.size)
  generalize hAe : va_A [(x, .inr (10, [.ref (ax 0), .ref (ax 1), .ref (ax 2), .ref (ax 3), .ref (ax 4), .ref (ax 5), .int 0, .int 0, .int 0, .int 0, .int 0, .int 0])), ((ax 0), .inl ((kx 0), 8, .inl (fun _ => 0))), ((ax 1), .inl ((kx 1), 24, .inr (.inr (.inr (.inr (fun _ => none)))))), ((ax 2), .inl ((kx 2), 4, .inr (.inr (.inr (.inr (fun _ => none)))))), ((ax 3), .inl ((kx 3), 12, .inr (.inr (.inr (.inr (fun _ => none)))))), ((ax 4), .inl ((kx 4), 40, .inr (.inr (.inr (.inr (fun _ => none))))))] s.heap.size = A at hD hE ⊢
  have hA : ∀ q : Nat, s.heap.size ≤ q → A q := fun q h => by rw [← hAe]; exact Or.inr h
  have hS : va_S A s.heap s.heap [] := va_S.rf
  have hP : va_P (dC, dI) vwCl [(x, .inr (10, [.ref (ax 0), .ref (ax 1), .ref (ax 2), .ref (ax 3), .ref (ax 4), .ref (ax 5), .int 0, .int 0, .int 0, .int 0, .int 0, .int 0])), ((ax 0), .inl ((kx 0), 8, .inl (fun _ => 0))), ((ax 1), .inl ((kx 1), 24, .inr (.inr (.inr (.inr (fun _ => none)))))), ((ax 2), .inl ((kx 2), 4, .inr (.inr (.inr (.inr (fun _ => none)))))), ((ax 3), .inl ((kx 3), 12, .inr (.inr (.inr (.inr (fun _ => none)))))), ((ax 4), .inl ((kx 4), 40, .inr (.inr (.inr (.inr (fun _ => none))))))] s.heap := hP
  have hl := lv_entry ([.ref x, .int a]) (n := 3) (Nat.le_of_ble_eq_true rfl)
  rw [lg_entry_eq]
  generalize (lg_sl ([.ref x, .int a]) ++ List.replicate (3 - (lg_sl ([.ref x, .int a])).length) Slot.unset).toArray = ls at hl ⊢
  have hl : lv_has ls 3 [(0, .ref x), (1, .int a)] := hl
  refine lv_aload_n hx hb dX7_panel_0 rfl (lv_at hl 0 rfl) ?_
  refine va_get (D := (dC, dI)) (ci := 10) (v := .int 0) (C := RX7) (T := TX7) (N := 12) hx hb hts (fun w h => List.mem_cons_of_mem _ (List.mem_append_right _ (h))) hown hK hP 0 rfl rfl 6 (by decide) (hts (.fieldLink RX7 44 "Spotbeat" "panelCount" "I") (by decide +kernel)) (fun _ h9 => h9) rfl dX7_panel_1 ?_
  refine lv_if_le (tgt := 25) hx hb dX7_panel_4 (by decide) (fun _ => ?_) (fun c_1 => absurd c_1 (by decide))
  refine lv_aload_n hx hb dX7_panel_25 rfl (lv_at hl 0 rfl) ?_
  refine va_get (D := (dC, dI)) (ci := 10) (v := .int 0) (C := RX7) (T := TX7) (N := 12) hx hb hts (fun w h => List.mem_cons_of_mem _ (List.mem_append_right _ (h))) hown hK hP 0 rfl rfl 6 (by decide) (hts (.fieldLink RX7 44 "Spotbeat" "panelCount" "I") (by decide +kernel)) (fun _ h9 => h9) rfl dX7_panel_26 ?_
  refine lv_istore_n (lv' := [(2, .int 0), (0, .ref x), (1, .int a)]) hx hb dX7_panel_29 rfl hl (by decide) rfl (fun ls hl => ?_)
  refine lv_iload_n hx hb dX7_panel_30 rfl (lv_at hl 0 rfl) ?_
  refine lv_if_lt (tgt := 43) hx hb dX7_panel_31 (by decide) (fun c_2 => absurd c_2 (by decide)) (fun _ => ?_)
  refine lv_iload_n hx hb dX7_panel_34 rfl (lv_at hl 0 rfl) ?_
  refine lv_aload_n hx hb dX7_panel_35 rfl (lv_at hl 1 rfl) ?_
  refine va_get (D := (dC, dI)) (ci := 10) (v := .ref (ax 0)) (C := RX7) (T := TX7) (N := 12) hx hb hts (fun w h => List.mem_cons_of_mem _ (List.mem_append_right _ (h))) hown hK hP 0 rfl rfl 0 (by decide) (hts (.fieldLink RX7 9 "Spotbeat" "parents" "[I") (by decide +kernel)) (fun _ h9 => h9) rfl dX7_panel_36 ?_
  refine va_alen (v := 8) hx hb hK hP 1 0 rfl rfl rfl dX7_panel_39 ?_
  refine lv_icmp_lt (tgt := 53) hx hb dX7_panel_40 (by decide) (fun _ => ?_) (fun c_3 => absurd c_3 (by decide))
  refine lv_aload_n hx hb dX7_panel_53 rfl (lv_at hl 1 rfl) ?_
  refine va_get (D := (dC, dI)) (ci := 10) (v := .ref (ax 0)) (C := RX7) (T := TX7) (N := 12) hx hb hts (fun w h => List.mem_cons_of_mem _ (List.mem_append_right _ (h))) hown hK hP 0 rfl rfl 0 (by decide) (hts (.fieldLink RX7 9 "Spotbeat" "parents" "[I") (by decide +kernel)) (fun _ h9 => h9) rfl dX7_panel_54 ?_
  refine lv_iload_n hx hb dX7_panel_57 rfl (lv_at hl 0 rfl) ?_
  refine lv_iload_n hx hb dX7_panel_58 rfl (lv_at hl 0 rfl) ?_
  refine lv_if_ne (tgt := 66) hx hb dX7_panel_59 (by decide) (fun c_4 => absurd c_4 (by decide)) (fun _ => ?_)
  refine lv_iconst (v := (-1)) hx hb dX7_panel_62 (by decide) ?_
  refine lv_goto (tgt := 67) hx hb dX7_panel_63 (by decide) ?_
  refine va_iast hx hb hK hP hD hS 1 0 rfl rfl (by decide +kernel) dX7_panel_67 (fun H locs hP hD hS => ?_)
  have hP : va_P (dC, dI) vwCl [(x, .inr (10, [.ref (ax 0), .ref (ax 1), .ref (ax 2), .ref (ax 3), .ref (ax 4), .ref (ax 5), .int 0, .int 0, .int 0, .int 0, .int 0, .int 0])), ((ax 0), .inl ((kx 0), 8, .inl (upd (fun _ => 0) (Int32.toNatClampNeg 0) (-1)))), ((ax 1), .inl ((kx 1), 24, .inr (.inr (.inr (.inr (fun _ => none)))))), ((ax 2), .inl ((kx 2), 4, .inr (.inr (.inr (.inr (fun _ => none)))))), ((ax 3), .inl ((kx 3), 12, .inr (.inr (.inr (.inr (fun _ => none)))))), ((ax 4), .inl ((kx 4), 40, .inr (.inr (.inr (.inr (fun _ => none))))))] H := hP
  have hD : va_D A [(x, .inr (10, [.ref (ax 0), .ref (ax 1), .ref (ax 2), .ref (ax 3), .ref (ax 4), .ref (ax 5), .int 0, .int 0, .int 0, .int 0, .int 0, .int 0])), ((ax 0), .inl ((kx 0), 8, .inl (upd (fun _ => 0) (Int32.toNatClampNeg 0) (-1)))), ((ax 1), .inl ((kx 1), 24, .inr (.inr (.inr (.inr (fun _ => none)))))), ((ax 2), .inl ((kx 2), 4, .inr (.inr (.inr (.inr (fun _ => none)))))), ((ax 3), .inl ((kx 3), 12, .inr (.inr (.inr (.inr (fun _ => none)))))), ((ax 4), .inl ((kx 4), 40, .inr (.inr (.inr (.inr (fun _ => none))))))] := hD
  generalize upd (fun _ => 0) (Int32.toNatClampNeg 0) (-1) = f_5 at hP hD
  refine lv_aload_n hx hb dX7_panel_68 rfl (lv_at hl 1 rfl) ?_
  refine lv_iload_n hx hb dX7_panel_69 rfl (lv_at hl 0 rfl) ?_
  refine lv_iconst (v := 1) hx hb dX7_panel_70 (by decide) ?_
  refine lv_iadd hx hb dX7_panel_71 ?_
  refine lv_topi (fun y_6 ey_6 => ?_)
  obtain rfl : y_6 = 1 := ey_6.trans (by decide +kernel)
  refine va_put (D := (dC, dI)) (ci := 10) (v := .int 1) (ty := .int) (C := RX7) (T := TX7) (N := 12) hx hb hts (fun w h => List.mem_cons_of_mem _ (List.mem_append_right _ (h))) tyX7 tyX7_ok nmX7 hown hK hP hD hS 0 rfl rfl 6 (by decide) (hts (.fieldLink RX7 44 "Spotbeat" "panelCount" "I") (by decide +kernel)) (fun _ h9 => h9) rfl (by decide +kernel) rfl rfl (Nat.le_of_ble_eq_true rfl) dX7_panel_72 (fun H locs hP hD hS => ?_)
  have hP : va_P (dC, dI) vwCl [(x, .inr (10, [.ref (ax 0), .ref (ax 1), .ref (ax 2), .ref (ax 3), .ref (ax 4), .ref (ax 5), .int 1, .int 0, .int 0, .int 0, .int 0, .int 0])), ((ax 0), .inl ((kx 0), 8, .inl f_5)), ((ax 1), .inl ((kx 1), 24, .inr (.inr (.inr (.inr (fun _ => none)))))), ((ax 2), .inl ((kx 2), 4, .inr (.inr (.inr (.inr (fun _ => none)))))), ((ax 3), .inl ((kx 3), 12, .inr (.inr (.inr (.inr (fun _ => none)))))), ((ax 4), .inl ((kx 4), 40, .inr (.inr (.inr (.inr (fun _ => none))))))] H := hP
  have hD : va_D A [(x, .inr (10, [.ref (ax 0), .ref (ax 1), .ref (ax 2), .ref (ax 3), .ref (ax 4), .ref (ax 5), .int 1, .int 0, .int 0, .int 0, .int 0, .int 0])), ((ax 0), .inl ((kx 0), 8, .inl f_5)), ((ax 1), .inl ((kx 1), 24, .inr (.inr (.inr (.inr (fun _ => none)))))), ((ax 2), .inl ((kx 2), 4, .inr (.inr (.inr (.inr (fun _ => none)))))), ((ax 3), .inl ((kx 3), 12, .inr (.inr (.inr (.inr (fun _ => none)))))), ((ax 4), .inl ((kx 4), 40, .inr (.inr (.inr (.inr (fun _ => none))))))] := hD
  refine lv_iload_n hx hb dX7_panel_75 rfl (lv_at hl 0 rfl) ?_
  refine W.widen (k := 0) (n := 0) (Nat.le_of_ble_eq_true rfl) (Nat.le_of_ble_eq_true rfl) ?_
  exact W.iret (v := 0) hx hb hr (fun t ht hW => ⟨⟨0, (), rfl, rfl, trivial⟩, hS.F ht⟩) hS.2.2 dX7_panel_76

def zwX7_station : List Cond := .code yX7_station cX7_station 2 (some .int) :: (([.fieldLink RX7 107 "Spotbeat" "stationCount" "I", .fieldLink RX7 21 "Spotbeat" "stationRow" "[LSpotbeat$Station;", .classLink RX7 19 RX5, .instantiable RX5 12, .initialized RX5, .fieldLink RX7 112 "Spotbeat" "beatCount" "I", .methodLink RX7 115 yX5_init, .instanceMethod yX5_init] : List Cond) ++ (wsX70 ++ (wsX50 ++ (zwX5_init))))
theorem zgX7_station : zwX7_station.all goodWord = true := zgo rfl (zga (by decide +kernel) (zga zgcX7 (zga zgcX5 (zgX5_init))))
set_option maxHeartbeats 4000000 in
set_option maxRecDepth 100000 in
/-- station() of a new object: 0 -/
theorem c_X7_station (l : Launch) (dC : Nat → ClassId) (dI : Nat → Nat → Nat) (sz : Nat) (x : Nat) (ax : Nat → Nat) (kx : Nat → ClassId) : Met l yX7_station zwX7_station ({ frames := 2, cells := 2, slots := 15, locals := 34 }) (gPcE dC dI sz [(x, .inr (10, [.ref (ax 0), .ref (ax 1), .ref (ax 2), .ref (ax 3), .ref (ax 4), .ref (ax 5), .int 0, .int 0, .int 0, .int 0, .int 0, .int 0])), ((ax 0), .inl ((kx 0), 8, .inl (fun _ => 0))), ((ax 1), .inl ((kx 1), 24, .inr (.inr (.inr (.inr (fun _ => none)))))), ((ax 2), .inl ((kx 2), 4, .inr (.inr (.inr (.inr (fun _ => none)))))), ((ax 3), .inl ((kx 3), 12, .inr (.inr (.inr (.inr (fun _ => none)))))), ((ax 4), .inl ((kx 4), 40, .inr (.inr (.inr (.inr (fun _ => none))))))] [((kx 0), .int), ((kx 1), .object RX4), ((kx 2), .object RX5), ((kx 3), .object RX3), ((kx 4), .object RX0)] [.ref x]) (va_Qi (fun (r : Int32) (u : Unit) => r = 0) (fun u t => True) (va_A [(x, .inr (10, [.ref (ax 0), .ref (ax 1), .ref (ax 2), .ref (ax 3), .ref (ax 4), .ref (ax 5), .int 0, .int 0, .int 0, .int 0, .int 0, .int 0])), ((ax 0), .inl ((kx 0), 8, .inl (fun _ => 0))), ((ax 1), .inl ((kx 1), 24, .inr (.inr (.inr (.inr (fun _ => none)))))), ((ax 2), .inl ((kx 2), 4, .inr (.inr (.inr (.inr (fun _ => none)))))), ((ax 3), .inl ((kx 3), 12, .inr (.inr (.inr (.inr (fun _ => none)))))), ((ax 4), .inl ((kx 4), 40, .inr (.inr (.inr (.inr (fun _ => none))))))] sz)) 2 15 (va_A [(x, .inr (10, [.ref (ax 0), .ref (ax 1), .ref (ax 2), .ref (ax 3), .ref (ax 4), .ref (ax 5), .int 0, .int 0, .int 0, .int 0, .int 0, .int 0])), ((ax 0), .inl ((kx 0), 8, .inl (fun _ => 0))), ((ax 1), .inl ((kx 1), 24, .inr (.inr (.inr (.inr (fun _ => none)))))), ((ax 2), .inl ((kx 2), 4, .inr (.inr (.inr (.inr (fun _ => none)))))), ((ax 3), .inl ((kx 3), 12, .inr (.inr (.inr (.inr (fun _ => none)))))), ((ax 4), .inl ((kx 4), 40, .inr (.inr (.inr (.inr (fun _ => none))))))] sz) := by
  refine Met.ofW (cc := cX7_station) (maxL := 2) (ret := (some .int)) (by decide) rfl ?_
  intro p e s m args below meth c s₁ B hml hv
  obtain ⟨rfl, hsz, hP, hK, hD0, hE⟩ := hv
  have hx := B.exec
  have hb := B.bytes
  have hr := B.returns
  have hts := atoms_spec (ws := zwX7_station) B.pre
  have hown : s.vm.findClass RX7 = some m.cls := findClass_of_methodNamed B.named
  have hlocks := B.notSynchronized
  subst hsz
  have hD := hD0.self (sz := s.heap.size)
  generalize hAe : va_A [(x, .inr (10, [.ref (ax 0), .ref (ax 1), .ref (ax 2), .ref (ax 3), .ref (ax 4), .ref (ax 5), .int 0, .int 0, .int 0, .int 0, .int 0, .int 0])), ((ax 0), .inl ((kx 0), 8, .inl (fun _ => 0))), ((ax 1), .inl ((kx 1), 24, .inr (.inr (.inr (.inr (fun _ => none)))))), ((ax 2), .inl ((kx 2), 4, .inr (.inr (.inr (.inr (fun _ => none)))))), ((ax 3), .inl ((kx 3), 12, .inr (.inr (.inr (.inr (fun _ => none)))))), ((ax 4), .inl ((kx 4), 40, .inr (.inr (.inr (.inr (fun _ => none))))))] s.heap.size = A at hD hE ⊢
  have hA : ∀ q : Nat, s.heap.size ≤ q → A q := fun q h => by rw [← hAe]; exact Or.inr h
  have hS : va_S A s.heap s.heap [] := va_S.rf
  have hP : va_P (dC, dI) vwCl [(x, .inr (10, [.ref (ax 0), .ref (ax 1), .ref (ax 2), .ref (ax 3), .ref (ax 4), .ref (ax 5), .int 0, .int 0, .int 0, .int 0, .int 0, .int 0])), ((ax 0), .inl ((kx 0), 8, .inl (fun _ => 0))), ((ax 1), .inl ((kx 1), 24, .inr (.inr (.inr (.inr (fun _ => none)))))), ((ax 2), .inl ((kx 2), 4, .inr (.inr (.inr (.inr (fun _ => none)))))), ((ax 3), .inl ((kx 3), 12, .inr (.inr (.inr (.inr (fun _ => none)))))), ((ax 4), .inl ((kx 4), 40, .inr (.inr (.inr (.inr (fun _ => none))))))] s.heap := hP
  have hl := lv_entry ([.ref x]) (n := 2) (Nat.le_of_ble_eq_true rfl)
  rw [lg_entry_eq]
  generalize (lg_sl ([.ref x]) ++ List.replicate (2 - (lg_sl ([.ref x])).length) Slot.unset).toArray = ls at hl ⊢
  have hl : lv_has ls 2 [(0, .ref x)] := hl
  refine lv_aload_n hx hb dX7_station_0 rfl (lv_at hl 0 rfl) ?_
  refine va_get (D := (dC, dI)) (ci := 10) (v := .int 0) (C := RX7) (T := TX7) (N := 12) hx hb hts (fun w h => List.mem_cons_of_mem _ (List.mem_append_right _ (List.mem_append_left _ h))) hown hK hP 0 rfl rfl 8 (by decide) (hts (.fieldLink RX7 107 "Spotbeat" "stationCount" "I") (by decide +kernel)) (fun _ h9 => h9) rfl dX7_station_1 ?_
  refine lv_istore_n (lv' := [(1, .int 0), (0, .ref x)]) hx hb dX7_station_4 rfl hl (by decide) rfl (fun ls hl => ?_)
  refine lv_iload_n hx hb dX7_station_5 rfl (lv_at hl 0 rfl) ?_
  refine lv_if_lt (tgt := 18) hx hb dX7_station_6 (by decide) (fun c_1 => absurd c_1 (by decide)) (fun _ => ?_)
  refine lv_iload_n hx hb dX7_station_9 rfl (lv_at hl 0 rfl) ?_
  refine lv_aload_n hx hb dX7_station_10 rfl (lv_at hl 1 rfl) ?_
  refine va_get (D := (dC, dI)) (ci := 10) (v := .ref (ax 2)) (C := RX7) (T := TX7) (N := 12) hx hb hts (fun w h => List.mem_cons_of_mem _ (List.mem_append_right _ (List.mem_append_left _ h))) hown hK hP 0 rfl rfl 2 (by decide) (hts (.fieldLink RX7 21 "Spotbeat" "stationRow" "[LSpotbeat$Station;") (by decide +kernel)) (fun _ h9 => h9) rfl dX7_station_11 ?_
  refine va_alen (v := 4) hx hb hK hP 3 2 rfl rfl rfl dX7_station_14 ?_
  refine lv_icmp_lt (tgt := 28) hx hb dX7_station_15 (by decide) (fun _ => ?_) (fun c_2 => absurd c_2 (by decide))
  refine lv_aload_n hx hb dX7_station_28 rfl (lv_at hl 1 rfl) ?_
  refine va_get (D := (dC, dI)) (ci := 10) (v := .ref (ax 2)) (C := RX7) (T := TX7) (N := 12) hx hb hts (fun w h => List.mem_cons_of_mem _ (List.mem_append_right _ (List.mem_append_left _ h))) hown hK hP 0 rfl rfl 2 (by decide) (hts (.fieldLink RX7 21 "Spotbeat" "stationRow" "[LSpotbeat$Station;") (by decide +kernel)) (fun _ h9 => h9) rfl dX7_station_29 ?_
  refine lv_iload_n hx hb dX7_station_32 rfl (lv_at hl 0 rfl) ?_
  refine va_new (ci := 8) (fs := [.int 0, .int 0, .null, .int 0, .null, .int 0, .int 0, .int 0, .int 0, .int 0, .int 0, .int 0]) (C := RX5) (T := TX5) (N := 12) hx hb hts (fun w h => List.mem_cons_of_mem _ (List.mem_append_right _ (List.mem_append_right _ (List.mem_append_left _ h)))) tyX5 tyX5_ok hown (hts (.classLink RX7 19 RX5) (by decide +kernel)) (hts (.instantiable RX5 12) (by decide +kernel)) (hts (.initialized RX5) (by decide +kernel)) hK hP hD hS hA rfl (fun j hj => by rcases (show j = 0 ∨ j = 1 ∨ j = 2 ∨ j = 3 ∨ j = 4 ∨ j = 5 ∨ j = 6 ∨ j = 7 ∨ j = 8 ∨ j = 9 ∨ j = 10 ∨ j = 11 by omega) with rfl | rfl | rfl | rfl | rfl | rfl | rfl | rfl | rfl | rfl | rfl | rfl <;> rfl) (Nat.le_of_ble_eq_true rfl) (Nat.le_of_ble_eq_true rfl) dX7_station_33 (fun q33 H hP hD hS => ?_)
  have hP : va_P (dC, dI) vwCl [(x, .inr (10, [.ref (ax 0), .ref (ax 1), .ref (ax 2), .ref (ax 3), .ref (ax 4), .ref (ax 5), .int 0, .int 0, .int 0, .int 0, .int 0, .int 0])), ((ax 0), .inl ((kx 0), 8, .inl (fun _ => 0))), ((ax 1), .inl ((kx 1), 24, .inr (.inr (.inr (.inr (fun _ => none)))))), ((ax 2), .inl ((kx 2), 4, .inr (.inr (.inr (.inr (fun _ => none)))))), ((ax 3), .inl ((kx 3), 12, .inr (.inr (.inr (.inr (fun _ => none)))))), ((ax 4), .inl ((kx 4), 40, .inr (.inr (.inr (.inr (fun _ => none)))))), (q33, .inr (8, [.int 0, .int 0, .null, .int 0, .null, .int 0, .int 0, .int 0, .int 0, .int 0, .int 0, .int 0]))] H := hP
  have hD : va_D A [(x, .inr (10, [.ref (ax 0), .ref (ax 1), .ref (ax 2), .ref (ax 3), .ref (ax 4), .ref (ax 5), .int 0, .int 0, .int 0, .int 0, .int 0, .int 0])), ((ax 0), .inl ((kx 0), 8, .inl (fun _ => 0))), ((ax 1), .inl ((kx 1), 24, .inr (.inr (.inr (.inr (fun _ => none)))))), ((ax 2), .inl ((kx 2), 4, .inr (.inr (.inr (.inr (fun _ => none)))))), ((ax 3), .inl ((kx 3), 12, .inr (.inr (.inr (.inr (fun _ => none)))))), ((ax 4), .inl ((kx 4), 40, .inr (.inr (.inr (.inr (fun _ => none)))))), (q33, .inr (8, [.int 0, .int 0, .null, .int 0, .null, .int 0, .int 0, .int 0, .int 0, .int 0, .int 0, .int 0]))] := hD
  refine lv_dup hx hb dX7_station_36 rfl ?_
  refine lv_iload_n hx hb dX7_station_37 rfl (lv_at hl 0 rfl) ?_
  refine lv_aload_n hx hb dX7_station_38 rfl (lv_at hl 1 rfl) ?_
  refine va_get (D := (dC, dI)) (ci := 10) (v := .int 0) (C := RX7) (T := TX7) (N := 12) hx hb hts (fun w h => List.mem_cons_of_mem _ (List.mem_append_right _ (List.mem_append_left _ h))) hown hK hP 0 rfl rfl 11 (by decide) (hts (.fieldLink RX7 112 "Spotbeat" "beatCount" "I") (by decide +kernel)) (fun _ h9 => h9) rfl dX7_station_39 ?_
  have hPc := hP.sub (ws' := [(q33, .inr (8, [.int 0, .int 0, .null, .int 0, .null, .int 0, .int 0, .int 0, .int 0, .int 0, .int 0, .int 0]))]) [6] rfl
  have hDc := hD.sub (ws' := [(q33, .inr (8, [.int 0, .int 0, .null, .int 0, .null, .int 0, .int 0, .int 0, .int 0, .int 0, .int 0, .int 0]))]) [6] (by decide) rfl
  have hKc := hK.sub (tys' := []) [] rfl
  have hFc := va_free (wc := [(q33, .inr (8, [.int 0, .int 0, .null, .int 0, .null, .int 0, .int 0, .int 0, .int 0, .int 0, .int 0, .int 0]))]) hD hS hA [6] rfl
  refine va_callv (va_runI (As := [.int 0, .int 0]) (rest := [.ref q33, .int 0, .ref (ax 2)]) ⟨hx, hb, hml, hown, hts⟩ (c_X5_init l dC dI H.size q33 0 0) (cwI 2 hts (goodIn_sub ((fun w h => List.mem_cons_of_mem _ (List.mem_append_right _ (List.mem_append_right _ (List.mem_append_right _ (h)))))) zgX5_init) rfl rfl rfl (hts (.initialized RX5) (by decide +kernel)) (hts (.methodLink RX7 115 yX5_init) (by decide +kernel)) (hts (.instanceMethod yX5_init) (by decide +kernel)) rfl (by decide +kernel) ⟨Nat.le_of_ble_eq_true rfl, Nat.le_of_ble_eq_true rfl⟩) ⟨gPcE_blind, gPcE_pass hPc hKc hDc hE hS hFc⟩ rfl rfl hl.1 rfl (lv_room (Nat.le_of_ble_eq_true rfl)) dX7_station_42 ⟨Nat.le_of_ble_eq_true rfl, Nat.le_of_ble_eq_true rfl⟩) hS (fun q _ h => hFc q h) hFc (fun u_5 t H locs ht hvm hw hB hz hk hS => ?_)
  obtain ⟨hP1, hK1, hD1⟩ := hB
  rw [ht] at hP1
  obtain ⟨hP, hD⟩ := va_join (wr := [(x, .inr (10, [.ref (ax 0), .ref (ax 1), .ref (ax 2), .ref (ax 3), .ref (ax 4), .ref (ax 5), .int 0, .int 0, .int 0, .int 0, .int 0, .int 0])), ((ax 0), .inl ((kx 0), 8, .inl (fun _ => 0))), ((ax 1), .inl ((kx 1), 24, .inr (.inr (.inr (.inr (fun _ => none)))))), ((ax 2), .inl ((kx 2), 4, .inr (.inr (.inr (.inr (fun _ => none)))))), ((ax 3), .inl ((kx 3), 12, .inr (.inr (.inr (.inr (fun _ => none)))))), ((ax 4), .inl ((kx 4), 40, .inr (.inr (.inr (.inr (fun _ => none))))))]) (w1 := [(q33, .inr (8, u_5))]) hP hD [6] [0, 1, 2, 3, 4, 5] rfl rfl (by decide) (by decide) hk hFc hP1 hD1
  have hP : va_P (dC, dI) vwCl [(x, .inr (10, [.ref (ax 0), .ref (ax 1), .ref (ax 2), .ref (ax 3), .ref (ax 4), .ref (ax 5), .int 0, .int 0, .int 0, .int 0, .int 0, .int 0])), ((ax 0), .inl ((kx 0), 8, .inl (fun _ => 0))), ((ax 1), .inl ((kx 1), 24, .inr (.inr (.inr (.inr (fun _ => none)))))), ((ax 2), .inl ((kx 2), 4, .inr (.inr (.inr (.inr (fun _ => none)))))), ((ax 3), .inl ((kx 3), 12, .inr (.inr (.inr (.inr (fun _ => none)))))), ((ax 4), .inl ((kx 4), 40, .inr (.inr (.inr (.inr (fun _ => none)))))), (q33, .inr (8, u_5))] H := hP
  have hD : va_D A [(x, .inr (10, [.ref (ax 0), .ref (ax 1), .ref (ax 2), .ref (ax 3), .ref (ax 4), .ref (ax 5), .int 0, .int 0, .int 0, .int 0, .int 0, .int 0])), ((ax 0), .inl ((kx 0), 8, .inl (fun _ => 0))), ((ax 1), .inl ((kx 1), 24, .inr (.inr (.inr (.inr (fun _ => none)))))), ((ax 2), .inl ((kx 2), 4, .inr (.inr (.inr (.inr (fun _ => none)))))), ((ax 3), .inl ((kx 3), 12, .inr (.inr (.inr (.inr (fun _ => none)))))), ((ax 4), .inl ((kx 4), 40, .inr (.inr (.inr (.inr (fun _ => none)))))), (q33, .inr (8, u_5))] := hD
  have w_6 : True := hw
  refine va_astq hx hb hK hP hD hS 3 2 6 8 rfl rfl rfl rfl (by decide +kernel) dX7_station_45 (fun H locs hP hD hS => ?_)
  have hP : va_P (dC, dI) vwCl [(x, .inr (10, [.ref (ax 0), .ref (ax 1), .ref (ax 2), .ref (ax 3), .ref (ax 4), .ref (ax 5), .int 0, .int 0, .int 0, .int 0, .int 0, .int 0])), ((ax 0), .inl ((kx 0), 8, .inl (fun _ => 0))), ((ax 1), .inl ((kx 1), 24, .inr (.inr (.inr (.inr (fun _ => none)))))), ((ax 2), .inl ((kx 2), 4, .inr (.inr (.inr (.inr (va_up (fun _ => none) (Int32.toNatClampNeg 0) (some q33))))))), ((ax 3), .inl ((kx 3), 12, .inr (.inr (.inr (.inr (fun _ => none)))))), ((ax 4), .inl ((kx 4), 40, .inr (.inr (.inr (.inr (fun _ => none)))))), (q33, .inr (8, u_5))] H := hP
  have hD : va_D A [(x, .inr (10, [.ref (ax 0), .ref (ax 1), .ref (ax 2), .ref (ax 3), .ref (ax 4), .ref (ax 5), .int 0, .int 0, .int 0, .int 0, .int 0, .int 0])), ((ax 0), .inl ((kx 0), 8, .inl (fun _ => 0))), ((ax 1), .inl ((kx 1), 24, .inr (.inr (.inr (.inr (fun _ => none)))))), ((ax 2), .inl ((kx 2), 4, .inr (.inr (.inr (.inr (va_up (fun _ => none) (Int32.toNatClampNeg 0) (some q33))))))), ((ax 3), .inl ((kx 3), 12, .inr (.inr (.inr (.inr (fun _ => none)))))), ((ax 4), .inl ((kx 4), 40, .inr (.inr (.inr (.inr (fun _ => none)))))), (q33, .inr (8, u_5))] := hD
  generalize va_up (fun _ => none) (Int32.toNatClampNeg 0) (some q33) = f_7 at hP hD
  refine lv_aload_n hx hb dX7_station_46 rfl (lv_at hl 1 rfl) ?_
  refine lv_iload_n hx hb dX7_station_47 rfl (lv_at hl 0 rfl) ?_
  refine lv_iconst (v := 1) hx hb dX7_station_48 (by decide) ?_
  refine lv_iadd hx hb dX7_station_49 ?_
  refine lv_topi (fun y_8 ey_8 => ?_)
  obtain rfl : y_8 = 1 := ey_8.trans (by decide +kernel)
  refine va_put (D := (dC, dI)) (ci := 10) (v := .int 1) (ty := .int) (C := RX7) (T := TX7) (N := 12) hx hb hts (fun w h => List.mem_cons_of_mem _ (List.mem_append_right _ (List.mem_append_left _ h))) tyX7 tyX7_ok nmX7 hown hK hP hD hS 0 rfl rfl 8 (by decide) (hts (.fieldLink RX7 107 "Spotbeat" "stationCount" "I") (by decide +kernel)) (fun _ h9 => h9) rfl (by decide +kernel) rfl rfl (Nat.le_of_ble_eq_true rfl) dX7_station_50 (fun H locs hP hD hS => ?_)
  have hP : va_P (dC, dI) vwCl [(x, .inr (10, [.ref (ax 0), .ref (ax 1), .ref (ax 2), .ref (ax 3), .ref (ax 4), .ref (ax 5), .int 0, .int 0, .int 1, .int 0, .int 0, .int 0])), ((ax 0), .inl ((kx 0), 8, .inl (fun _ => 0))), ((ax 1), .inl ((kx 1), 24, .inr (.inr (.inr (.inr (fun _ => none)))))), ((ax 2), .inl ((kx 2), 4, .inr (.inr (.inr (.inr f_7))))), ((ax 3), .inl ((kx 3), 12, .inr (.inr (.inr (.inr (fun _ => none)))))), ((ax 4), .inl ((kx 4), 40, .inr (.inr (.inr (.inr (fun _ => none)))))), (q33, .inr (8, u_5))] H := hP
  have hD : va_D A [(x, .inr (10, [.ref (ax 0), .ref (ax 1), .ref (ax 2), .ref (ax 3), .ref (ax 4), .ref (ax 5), .int 0, .int 0, .int 1, .int 0, .int 0, .int 0])), ((ax 0), .inl ((kx 0), 8, .inl (fun _ => 0))), ((ax 1), .inl ((kx 1), 24, .inr (.inr (.inr (.inr (fun _ => none)))))), ((ax 2), .inl ((kx 2), 4, .inr (.inr (.inr (.inr f_7))))), ((ax 3), .inl ((kx 3), 12, .inr (.inr (.inr (.inr (fun _ => none)))))), ((ax 4), .inl ((kx 4), 40, .inr (.inr (.inr (.inr (fun _ => none)))))), (q33, .inr (8, u_5))] := hD
  refine lv_iload_n hx hb dX7_station_53 rfl (lv_at hl 0 rfl) ?_
  refine W.widen (k := 2) (n := 15) (Nat.le_of_ble_eq_true rfl) (Nat.le_of_ble_eq_true rfl) ?_
  exact W.iret (v := 0) hx hb hr (fun t ht hW => ⟨⟨0, (), rfl, rfl, trivial⟩, hS.F ht⟩) hS.2.2 dX7_station_54

def zwX7_order : List Cond := .code yX7_order cX7_order 3 (some .int) :: (([.methodLink RX7 89 yX7_requireVariant, .static yX7_requireVariant, .initialized RX7, .fieldLink RX7 283 "Spotbeat" "bodyCount" "I", .fieldLink RX7 33 "Spotbeat" "bodyRow" "[LSpotbeat$Body;", .classLink RX7 31 RX0, .instantiable RX0 5, .initialized RX0, .methodLink RX7 288 yX0_init, .instanceMethod yX0_init] : List Cond) ++ (zwX7_requireVariant ++ (wsX70 ++ (wsX00 ++ (zwX0_init)))))
theorem zgX7_order : zwX7_order.all goodWord = true := zgo rfl (zga (by decide +kernel) (zga zgX7_requireVariant (zga zgcX7 (zga zgcX0 (zgX0_init)))))
set_option maxHeartbeats 4000000 in
set_option maxRecDepth 100000 in
/-- order(v) of a new object: 0 -/
theorem c_X7_order (l : Launch) (hst : l.stackTraces = false) (dC : Nat → ClassId) (dI : Nat → Nat → Nat) (sz : Nat) (x : Nat) (ax : Nat → Nat) (kx : Nat → ClassId) (v : Int32) : vx_Met l yX7_order zwX7_order ({ frames := 7, cells := 3, slots := 35, locals := 102 }) (gPcE dC dI sz [(x, .inr (10, [.ref (ax 0), .ref (ax 1), .ref (ax 2), .ref (ax 3), .ref (ax 4), .ref (ax 5), .int 0, .int 0, .int 0, .int 0, .int 0, .int 0])), ((ax 0), .inl ((kx 0), 8, .inl (fun _ => 0))), ((ax 1), .inl ((kx 1), 24, .inr (.inr (.inr (.inr (fun _ => none)))))), ((ax 2), .inl ((kx 2), 4, .inr (.inr (.inr (.inr (fun _ => none)))))), ((ax 3), .inl ((kx 3), 12, .inr (.inr (.inr (.inr (fun _ => none)))))), ((ax 4), .inl ((kx 4), 40, .inr (.inr (.inr (.inr (fun _ => none))))))] [((kx 0), .int), ((kx 1), .object RX4), ((kx 2), .object RX5), ((kx 3), .object RX3), ((kx 4), .object RX0)] [.ref x, .int v]) (va_Qi (fun (r : Int32) (u : Unit) => r = 0 ∧ ¬ (v < 0 ∨ 4 ≤ v)) (fun u t => True) (va_A [(x, .inr (10, [.ref (ax 0), .ref (ax 1), .ref (ax 2), .ref (ax 3), .ref (ax 4), .ref (ax 5), .int 0, .int 0, .int 0, .int 0, .int 0, .int 0])), ((ax 0), .inl ((kx 0), 8, .inl (fun _ => 0))), ((ax 1), .inl ((kx 1), 24, .inr (.inr (.inr (.inr (fun _ => none)))))), ((ax 2), .inl ((kx 2), 4, .inr (.inr (.inr (.inr (fun _ => none)))))), ((ax 3), .inl ((kx 3), 12, .inr (.inr (.inr (.inr (fun _ => none)))))), ((ax 4), .inl ((kx 4), 40, .inr (.inr (.inr (.inr (fun _ => none))))))] sz)) (zX (v < 0 ∨ 4 ≤ v) "java/lang/IndexOutOfBoundsException" (va_A [(x, .inr (10, [.ref (ax 0), .ref (ax 1), .ref (ax 2), .ref (ax 3), .ref (ax 4), .ref (ax 5), .int 0, .int 0, .int 0, .int 0, .int 0, .int 0])), ((ax 0), .inl ((kx 0), 8, .inl (fun _ => 0))), ((ax 1), .inl ((kx 1), 24, .inr (.inr (.inr (.inr (fun _ => none)))))), ((ax 2), .inl ((kx 2), 4, .inr (.inr (.inr (.inr (fun _ => none)))))), ((ax 3), .inl ((kx 3), 12, .inr (.inr (.inr (.inr (fun _ => none)))))), ((ax 4), .inl ((kx 4), 40, .inr (.inr (.inr (.inr (fun _ => none))))))] sz)) 3 35 (va_A [(x, .inr (10, [.ref (ax 0), .ref (ax 1), .ref (ax 2), .ref (ax 3), .ref (ax 4), .ref (ax 5), .int 0, .int 0, .int 0, .int 0, .int 0, .int 0])), ((ax 0), .inl ((kx 0), 8, .inl (fun _ => 0))), ((ax 1), .inl ((kx 1), 24, .inr (.inr (.inr (.inr (fun _ => none)))))), ((ax 2), .inl ((kx 2), 4, .inr (.inr (.inr (.inr (fun _ => none)))))), ((ax 3), .inl ((kx 3), 12, .inr (.inr (.inr (.inr (fun _ => none)))))), ((ax 4), .inl ((kx 4), 40, .inr (.inr (.inr (.inr (fun _ => none))))))] sz) := by
  refine vx_ofW (cc := cX7_order) (maxL := 3) (ret := (some .int)) (by decide) rfl ?_
  intro p e s m args below meth c s₁ B hml hnt hv
  obtain ⟨rfl, hsz, hP, hK, hD0, hE⟩ := hv
  have hx := B.exec
  have hb := B.bytes
  have hr := B.returns
  have hts := atoms_spec (ws := zwX7_order) B.pre
  have hown : s.vm.findClass RX7 = some m.cls := findClass_of_methodNamed B.named
  have hlocks := B.notSynchronized
  subst hsz
  have hD := hD0.self (sz := s.heap.size)
  generalize hAe : va_A [(x, .inr (10, [.ref (ax 0), .ref (ax 1), .ref (ax 2), .ref (ax 3), .ref (ax 4), .ref (ax 5), .int 0, .int 0, .int 0, .int 0, .int 0, .int 0])), ((ax 0), .inl ((kx 0), 8, .inl (fun _ => 0))), ((ax 1), .inl ((kx 1), 24, .inr (.inr (.inr (.inr (fun _ => none)))))), ((ax 2), .inl ((kx 2), 4, .inr (.inr (.inr (.inr (fun _ => none)))))), ((ax 3), .inl ((kx 3), 12, .inr (.inr (.inr (.inr (fun _ => none)))))), ((ax 4), .inl ((kx 4), 40, .inr (.inr (.inr (.inr (fun _ => none))))))] s.heap.size = A at hD hE ⊢
  have hA : ∀ q : Nat, s.heap.size ≤ q → A q := fun q h => by rw [← hAe]; exact Or.inr h
  have hS : va_S A s.heap s.heap [] := va_S.rf
  have hP : va_P (dC, dI) vwCl [(x, .inr (10, [.ref (ax 0), .ref (ax 1), .ref (ax 2), .ref (ax 3), .ref (ax 4), .ref (ax 5), .int 0, .int 0, .int 0, .int 0, .int 0, .int 0])), ((ax 0), .inl ((kx 0), 8, .inl (fun _ => 0))), ((ax 1), .inl ((kx 1), 24, .inr (.inr (.inr (.inr (fun _ => none)))))), ((ax 2), .inl ((kx 2), 4, .inr (.inr (.inr (.inr (fun _ => none)))))), ((ax 3), .inl ((kx 3), 12, .inr (.inr (.inr (.inr (fun _ => none)))))), ((ax 4), .inl ((kx 4), 40, .inr (.inr (.inr (.inr (fun _ => none))))))] s.heap := hP
  have hl := lv_entry ([.ref x, .int v]) (n := 3) (Nat.le_of_ble_eq_true rfl)
  rw [lg_entry_eq]
  generalize (lg_sl ([.ref x, .int v]) ++ List.replicate (3 - (lg_sl ([.ref x, .int v])).length) Slot.unset).toArray = ls at hl ⊢
  have hl : lv_has ls 3 [(0, .ref x), (1, .int v)] := hl
  refine lv_iload_n hx hb dX7_order_0 rfl (lv_at hl 1 rfl) ?_
  refine vx_callv (vx_runS (As := [.int v]) (rest := []) ⟨hx, hb, hml, hown, hts⟩ (c_X7_requireVariant l hst dC dI s.heap.size v) (va_cwS 1 hts (goodIn_app (goodIn_of _ (by decide +kernel)) (goodIn_sub ((fun w h => List.mem_cons_of_mem _ (List.mem_append_right _ (List.mem_append_left _ h)))) zgX7_requireVariant)) rfl rfl rfl (by decide +kernel) ⟨Nat.le_of_ble_eq_true rfl, Nat.le_of_ble_eq_true rfl⟩) ⟨ePc_blind, ePc_pass hE hS (fun q h => hA q (Nat.le_trans hS.1 h))⟩ rfl rfl hl.1 rfl (lv_room (Nat.le_of_ble_eq_true rfl)) dX7_order_1 ⟨Nat.le_of_ble_eq_true rfl, Nat.le_of_ble_eq_true rfl⟩) hS (fun q _ h => hA q (Nat.le_trans hS.1 h)) (fun q h => hA q (Nat.le_trans hS.1 h)) (fun q _ h => hA q (Nat.le_trans hS.1 h)) (fun E ce q9 _ t H locs ht hvm hpx hBX hz hk hS hcell hv hcl => ?_) (fun u_2 t H locs ht hvm hw hB hz hk hS => ?_)
  · have hBX : E = "java/lang/IndexOutOfBoundsException" := hBX
    subst hBX
    exact zOut (px := v < 0 ∨ 4 ≤ v) (E := "java/lang/IndexOutOfBoundsException") hnt hlocks hcell hv hcl hS hpx hS.2.2 (Nat.le_of_ble_eq_true rfl) (Nat.le_of_ble_eq_true rfl)
  have hP := zkn hP hk
  have w_3 : ¬ (v < 0 ∨ 4 ≤ v) := hw
  refine lv_aload_n hx hb dX7_order_4 rfl (lv_at hl 0 rfl) ?_
  refine va_get (D := (dC, dI)) (ci := 10) (v := .int 0) (C := RX7) (T := TX7) (N := 12) hx hb hts (fun w h => List.mem_cons_of_mem _ (List.mem_append_right _ (List.mem_append_right _ (List.mem_append_left _ h)))) hown hK hP 0 rfl rfl 10 (by decide) (hts (.fieldLink RX7 283 "Spotbeat" "bodyCount" "I") (by decide +kernel)) (fun _ h9 => h9) rfl dX7_order_5 ?_
  refine lv_istore_n (lv' := [(2, .int 0), (0, .ref x), (1, .int v)]) hx hb dX7_order_8 rfl hl (by decide) rfl (fun ls hl => ?_)
  refine lv_iload_n hx hb dX7_order_9 rfl (lv_at hl 0 rfl) ?_
  refine lv_if_lt (tgt := 22) hx hb dX7_order_10 (by decide) (fun c_4 => absurd c_4 (by decide)) (fun _ => ?_)
  refine lv_iload_n hx hb dX7_order_13 rfl (lv_at hl 0 rfl) ?_
  refine lv_aload_n hx hb dX7_order_14 rfl (lv_at hl 1 rfl) ?_
  refine va_get (D := (dC, dI)) (ci := 10) (v := .ref (ax 4)) (C := RX7) (T := TX7) (N := 12) hx hb hts (fun w h => List.mem_cons_of_mem _ (List.mem_append_right _ (List.mem_append_right _ (List.mem_append_left _ h)))) hown hK hP 0 rfl rfl 4 (by decide) (hts (.fieldLink RX7 33 "Spotbeat" "bodyRow" "[LSpotbeat$Body;") (by decide +kernel)) (fun _ h9 => h9) rfl dX7_order_15 ?_
  refine va_alen (v := 40) hx hb hK hP 5 4 rfl rfl rfl dX7_order_18 ?_
  refine lv_icmp_lt (tgt := 33) hx hb dX7_order_19 (by decide) (fun _ => ?_) (fun c_5 => absurd c_5 (by decide))
  refine lv_aload_n hx hb dX7_order_33 rfl (lv_at hl 1 rfl) ?_
  refine va_get (D := (dC, dI)) (ci := 10) (v := .ref (ax 4)) (C := RX7) (T := TX7) (N := 12) hx hb hts (fun w h => List.mem_cons_of_mem _ (List.mem_append_right _ (List.mem_append_right _ (List.mem_append_left _ h)))) hown hK hP 0 rfl rfl 4 (by decide) (hts (.fieldLink RX7 33 "Spotbeat" "bodyRow" "[LSpotbeat$Body;") (by decide +kernel)) (fun _ h9 => h9) rfl dX7_order_34 ?_
  refine lv_iload_n hx hb dX7_order_37 rfl (lv_at hl 0 rfl) ?_
  refine va_new (ci := 3) (fs := [.int 0, .int 0, .null, .int 0, .int 0]) (C := RX0) (T := TX0) (N := 5) hx hb hts (fun w h => List.mem_cons_of_mem _ (List.mem_append_right _ (List.mem_append_right _ (List.mem_append_right _ (List.mem_append_left _ h))))) tyX0 tyX0_ok hown (hts (.classLink RX7 31 RX0) (by decide +kernel)) (hts (.instantiable RX0 5) (by decide +kernel)) (hts (.initialized RX0) (by decide +kernel)) hK hP hD hS hA rfl (fun j hj => by rcases (show j = 0 ∨ j = 1 ∨ j = 2 ∨ j = 3 ∨ j = 4 by omega) with rfl | rfl | rfl | rfl | rfl <;> rfl) (Nat.le_of_ble_eq_true rfl) (Nat.le_of_ble_eq_true rfl) dX7_order_38 (fun q38 H hP hD hS => ?_)
  have hP : va_P (dC, dI) vwCl [(x, .inr (10, [.ref (ax 0), .ref (ax 1), .ref (ax 2), .ref (ax 3), .ref (ax 4), .ref (ax 5), .int 0, .int 0, .int 0, .int 0, .int 0, .int 0])), ((ax 0), .inl ((kx 0), 8, .inl (fun _ => 0))), ((ax 1), .inl ((kx 1), 24, .inr (.inr (.inr (.inr (fun _ => none)))))), ((ax 2), .inl ((kx 2), 4, .inr (.inr (.inr (.inr (fun _ => none)))))), ((ax 3), .inl ((kx 3), 12, .inr (.inr (.inr (.inr (fun _ => none)))))), ((ax 4), .inl ((kx 4), 40, .inr (.inr (.inr (.inr (fun _ => none)))))), (q38, .inr (3, [.int 0, .int 0, .null, .int 0, .int 0]))] H := hP
  have hD : va_D A [(x, .inr (10, [.ref (ax 0), .ref (ax 1), .ref (ax 2), .ref (ax 3), .ref (ax 4), .ref (ax 5), .int 0, .int 0, .int 0, .int 0, .int 0, .int 0])), ((ax 0), .inl ((kx 0), 8, .inl (fun _ => 0))), ((ax 1), .inl ((kx 1), 24, .inr (.inr (.inr (.inr (fun _ => none)))))), ((ax 2), .inl ((kx 2), 4, .inr (.inr (.inr (.inr (fun _ => none)))))), ((ax 3), .inl ((kx 3), 12, .inr (.inr (.inr (.inr (fun _ => none)))))), ((ax 4), .inl ((kx 4), 40, .inr (.inr (.inr (.inr (fun _ => none)))))), (q38, .inr (3, [.int 0, .int 0, .null, .int 0, .int 0]))] := hD
  refine lv_dup hx hb dX7_order_41 rfl ?_
  refine lv_iload_n hx hb dX7_order_42 rfl (lv_at hl 0 rfl) ?_
  refine lv_iload_n hx hb dX7_order_43 rfl (lv_at hl 2 rfl) ?_
  have hPc := hP.sub (ws' := [(q38, .inr (3, [.int 0, .int 0, .null, .int 0, .int 0]))]) [6] rfl
  have hDc := hD.sub (ws' := [(q38, .inr (3, [.int 0, .int 0, .null, .int 0, .int 0]))]) [6] (by decide) rfl
  have hKc := hK.sub (tys' := []) [] rfl
  have hFc := va_free (wc := [(q38, .inr (3, [.int 0, .int 0, .null, .int 0, .int 0]))]) hD hS hA [6] rfl
  refine va_callv (va_runI (As := [.int 0, .int v]) (rest := [.ref q38, .int 0, .ref (ax 4)]) ⟨hx, hb, hml, hown, hts⟩ (c_X0_init l dC dI H.size q38 0 v) (cwI 2 hts (goodIn_sub ((fun w h => List.mem_cons_of_mem _ (List.mem_append_right _ (List.mem_append_right _ (List.mem_append_right _ (List.mem_append_right _ (h))))))) zgX0_init) rfl rfl rfl (hts (.initialized RX0) (by decide +kernel)) (hts (.methodLink RX7 288 yX0_init) (by decide +kernel)) (hts (.instanceMethod yX0_init) (by decide +kernel)) rfl (by decide +kernel) ⟨Nat.le_of_ble_eq_true rfl, Nat.le_of_ble_eq_true rfl⟩) ⟨gPc_blind, gPc_pass hPc hKc hDc⟩ rfl rfl hl.1 rfl (lv_room (Nat.le_of_ble_eq_true rfl)) dX7_order_44 ⟨Nat.le_of_ble_eq_true rfl, Nat.le_of_ble_eq_true rfl⟩) hS (fun q _ h => hFc q h) hFc (fun u_8 t H locs ht hvm hw hB hz hk hS => ?_)
  obtain ⟨hP1, hK1, hD1⟩ := hB
  rw [ht] at hP1
  obtain ⟨hP, hD⟩ := va_join (wr := [(x, .inr (10, [.ref (ax 0), .ref (ax 1), .ref (ax 2), .ref (ax 3), .ref (ax 4), .ref (ax 5), .int 0, .int 0, .int 0, .int 0, .int 0, .int 0])), ((ax 0), .inl ((kx 0), 8, .inl (fun _ => 0))), ((ax 1), .inl ((kx 1), 24, .inr (.inr (.inr (.inr (fun _ => none)))))), ((ax 2), .inl ((kx 2), 4, .inr (.inr (.inr (.inr (fun _ => none)))))), ((ax 3), .inl ((kx 3), 12, .inr (.inr (.inr (.inr (fun _ => none)))))), ((ax 4), .inl ((kx 4), 40, .inr (.inr (.inr (.inr (fun _ => none))))))]) (w1 := [(q38, .inr (3, u_8))]) hP hD [6] [0, 1, 2, 3, 4, 5] rfl rfl (by decide) (by decide) hk hFc hP1 hD1
  have hP : va_P (dC, dI) vwCl [(x, .inr (10, [.ref (ax 0), .ref (ax 1), .ref (ax 2), .ref (ax 3), .ref (ax 4), .ref (ax 5), .int 0, .int 0, .int 0, .int 0, .int 0, .int 0])), ((ax 0), .inl ((kx 0), 8, .inl (fun _ => 0))), ((ax 1), .inl ((kx 1), 24, .inr (.inr (.inr (.inr (fun _ => none)))))), ((ax 2), .inl ((kx 2), 4, .inr (.inr (.inr (.inr (fun _ => none)))))), ((ax 3), .inl ((kx 3), 12, .inr (.inr (.inr (.inr (fun _ => none)))))), ((ax 4), .inl ((kx 4), 40, .inr (.inr (.inr (.inr (fun _ => none)))))), (q38, .inr (3, u_8))] H := hP
  have hD : va_D A [(x, .inr (10, [.ref (ax 0), .ref (ax 1), .ref (ax 2), .ref (ax 3), .ref (ax 4), .ref (ax 5), .int 0, .int 0, .int 0, .int 0, .int 0, .int 0])), ((ax 0), .inl ((kx 0), 8, .inl (fun _ => 0))), ((ax 1), .inl ((kx 1), 24, .inr (.inr (.inr (.inr (fun _ => none)))))), ((ax 2), .inl ((kx 2), 4, .inr (.inr (.inr (.inr (fun _ => none)))))), ((ax 3), .inl ((kx 3), 12, .inr (.inr (.inr (.inr (fun _ => none)))))), ((ax 4), .inl ((kx 4), 40, .inr (.inr (.inr (.inr (fun _ => none)))))), (q38, .inr (3, u_8))] := hD
  have w_9 : True := hw
  refine va_astq hx hb hK hP hD hS 5 4 6 3 rfl rfl rfl rfl (by decide +kernel) dX7_order_47 (fun H locs hP hD hS => ?_)
  have hP : va_P (dC, dI) vwCl [(x, .inr (10, [.ref (ax 0), .ref (ax 1), .ref (ax 2), .ref (ax 3), .ref (ax 4), .ref (ax 5), .int 0, .int 0, .int 0, .int 0, .int 0, .int 0])), ((ax 0), .inl ((kx 0), 8, .inl (fun _ => 0))), ((ax 1), .inl ((kx 1), 24, .inr (.inr (.inr (.inr (fun _ => none)))))), ((ax 2), .inl ((kx 2), 4, .inr (.inr (.inr (.inr (fun _ => none)))))), ((ax 3), .inl ((kx 3), 12, .inr (.inr (.inr (.inr (fun _ => none)))))), ((ax 4), .inl ((kx 4), 40, .inr (.inr (.inr (.inr (va_up (fun _ => none) (Int32.toNatClampNeg 0) (some q38))))))), (q38, .inr (3, u_8))] H := hP
  have hD : va_D A [(x, .inr (10, [.ref (ax 0), .ref (ax 1), .ref (ax 2), .ref (ax 3), .ref (ax 4), .ref (ax 5), .int 0, .int 0, .int 0, .int 0, .int 0, .int 0])), ((ax 0), .inl ((kx 0), 8, .inl (fun _ => 0))), ((ax 1), .inl ((kx 1), 24, .inr (.inr (.inr (.inr (fun _ => none)))))), ((ax 2), .inl ((kx 2), 4, .inr (.inr (.inr (.inr (fun _ => none)))))), ((ax 3), .inl ((kx 3), 12, .inr (.inr (.inr (.inr (fun _ => none)))))), ((ax 4), .inl ((kx 4), 40, .inr (.inr (.inr (.inr (va_up (fun _ => none) (Int32.toNatClampNeg 0) (some q38))))))), (q38, .inr (3, u_8))] := hD
  generalize va_up (fun _ => none) (Int32.toNatClampNeg 0) (some q38) = f_10 at hP hD
  refine lv_aload_n hx hb dX7_order_48 rfl (lv_at hl 1 rfl) ?_
  refine lv_iload_n hx hb dX7_order_49 rfl (lv_at hl 0 rfl) ?_
  refine lv_iconst (v := 1) hx hb dX7_order_50 (by decide) ?_
  refine lv_iadd hx hb dX7_order_51 ?_
  refine lv_topi (fun y_11 ey_11 => ?_)
  obtain rfl : y_11 = 1 := ey_11.trans (by decide +kernel)
  refine va_put (D := (dC, dI)) (ci := 10) (v := .int 1) (ty := .int) (C := RX7) (T := TX7) (N := 12) hx hb hts (fun w h => List.mem_cons_of_mem _ (List.mem_append_right _ (List.mem_append_right _ (List.mem_append_left _ h)))) tyX7 tyX7_ok nmX7 hown hK hP hD hS 0 rfl rfl 10 (by decide) (hts (.fieldLink RX7 283 "Spotbeat" "bodyCount" "I") (by decide +kernel)) (fun _ h9 => h9) rfl (by decide +kernel) rfl rfl (Nat.le_of_ble_eq_true rfl) dX7_order_52 (fun H locs hP hD hS => ?_)
  have hP : va_P (dC, dI) vwCl [(x, .inr (10, [.ref (ax 0), .ref (ax 1), .ref (ax 2), .ref (ax 3), .ref (ax 4), .ref (ax 5), .int 0, .int 0, .int 0, .int 0, .int 1, .int 0])), ((ax 0), .inl ((kx 0), 8, .inl (fun _ => 0))), ((ax 1), .inl ((kx 1), 24, .inr (.inr (.inr (.inr (fun _ => none)))))), ((ax 2), .inl ((kx 2), 4, .inr (.inr (.inr (.inr (fun _ => none)))))), ((ax 3), .inl ((kx 3), 12, .inr (.inr (.inr (.inr (fun _ => none)))))), ((ax 4), .inl ((kx 4), 40, .inr (.inr (.inr (.inr f_10))))), (q38, .inr (3, u_8))] H := hP
  have hD : va_D A [(x, .inr (10, [.ref (ax 0), .ref (ax 1), .ref (ax 2), .ref (ax 3), .ref (ax 4), .ref (ax 5), .int 0, .int 0, .int 0, .int 0, .int 1, .int 0])), ((ax 0), .inl ((kx 0), 8, .inl (fun _ => 0))), ((ax 1), .inl ((kx 1), 24, .inr (.inr (.inr (.inr (fun _ => none)))))), ((ax 2), .inl ((kx 2), 4, .inr (.inr (.inr (.inr (fun _ => none)))))), ((ax 3), .inl ((kx 3), 12, .inr (.inr (.inr (.inr (fun _ => none)))))), ((ax 4), .inl ((kx 4), 40, .inr (.inr (.inr (.inr f_10))))), (q38, .inr (3, u_8))] := hD
  refine lv_iload_n hx hb dX7_order_55 rfl (lv_at hl 0 rfl) ?_
  refine W.widen (k := 3) (n := 35) (Nat.le_of_ble_eq_true rfl) (Nat.le_of_ble_eq_true rfl) ?_
  exact vx_ret (W.iret (v := 0) hx hb hr (fun t ht hW => ⟨⟨0, (), rfl, ⟨rfl, w_9⟩, trivial⟩, hS.F ht⟩) hS.2.2 dX7_order_56)
end ZCls2
end
section
theorem zz_last : True := trivial
end
