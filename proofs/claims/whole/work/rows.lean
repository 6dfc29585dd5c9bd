section
-- ===== PART A: goes FIRST, ahead of the names: the tables' words, and 'selects' of the private methods out of them =====
/-- a private method of a class that the tables say can be made, by its rows of tables_1 -/
def lw_okq (q : MethodName × Nat) : Prop := (q.1.cls ≠ "java/lang/invoke/MethodHandle" ∧ q.1.cls ≠ "java/lang/invoke/VarHandle") ∧ Cond.instantiable q.1.cls q.2 ∈ tables_1 ∧ Cond.privateMethod q.1 ∈ tables_1 ∧ Cond.instanceMethod q.1 ∈ tables_1
theorem lw_p0 : lw_okq (⟨"WaveRing$Reader", "step", "()V"⟩, 11) := ⟨⟨by decide +kernel, by decide +kernel⟩, List.mem_of_getElem? (i := 153) (by decide +kernel), List.mem_of_getElem? (i := 381) (by decide +kernel), List.mem_of_getElem? (i := 382) (by decide +kernel)⟩
theorem lw_p1 : lw_okq (⟨"WaveRing$Reader", "readWord", "()V"⟩, 11) := ⟨⟨by decide +kernel, by decide +kernel⟩, List.mem_of_getElem? (i := 153) (by decide +kernel), List.mem_of_getElem? (i := 395) (by decide +kernel), List.mem_of_getElem? (i := 396) (by decide +kernel)⟩
theorem lw_p2 : lw_okq (⟨"WaveRing$Reader", "readNumber", "()V"⟩, 11) := ⟨⟨by decide +kernel, by decide +kernel⟩, List.mem_of_getElem? (i := 153) (by decide +kernel), List.mem_of_getElem? (i := 402) (by decide +kernel), List.mem_of_getElem? (i := 403) (by decide +kernel)⟩
theorem lw_p3 : lw_okq (⟨"WaveRing$Reader", "readLine", "()Z"⟩, 11) := ⟨⟨by decide +kernel, by decide +kernel⟩, List.mem_of_getElem? (i := 153) (by decide +kernel), List.mem_of_getElem? (i := 409) (by decide +kernel), List.mem_of_getElem? (i := 410) (by decide +kernel)⟩
theorem lw_p4 : lw_okq (⟨"WaveRing$Reader", "isWord", "(Ljava/lang/String;)Z"⟩, 11) := ⟨⟨by decide +kernel, by decide +kernel⟩, List.mem_of_getElem? (i := 153) (by decide +kernel), List.mem_of_getElem? (i := 414) (by decide +kernel), List.mem_of_getElem? (i := 415) (by decide +kernel)⟩
theorem lw_p5 : lw_okq (⟨"WaveRing$Reader", "readSeats", "()Z"⟩, 11) := ⟨⟨by decide +kernel, by decide +kernel⟩, List.mem_of_getElem? (i := 153) (by decide +kernel), List.mem_of_getElem? (i := 466) (by decide +kernel), List.mem_of_getElem? (i := 467) (by decide +kernel)⟩
theorem lw_p6 : lw_okq (⟨"WaveRing$Reader", "refuse", "()Z"⟩, 11) := ⟨⟨by decide +kernel, by decide +kernel⟩, List.mem_of_getElem? (i := 153) (by decide +kernel), List.mem_of_getElem? (i := 470) (by decide +kernel), List.mem_of_getElem? (i := 471) (by decide +kernel)⟩
theorem lw_p7 : lw_okq (⟨"WaveRing$Reader", "takeNumber", "(II)Z"⟩, 11) := ⟨⟨by decide +kernel, by decide +kernel⟩, List.mem_of_getElem? (i := 153) (by decide +kernel), List.mem_of_getElem? (i := 474) (by decide +kernel), List.mem_of_getElem? (i := 475) (by decide +kernel)⟩
theorem lw_p8 : lw_okq (⟨"WaveRing$Reader", "takeSign", "(C)Z"⟩, 11) := ⟨⟨by decide +kernel, by decide +kernel⟩, List.mem_of_getElem? (i := 153) (by decide +kernel), List.mem_of_getElem? (i := 478) (by decide +kernel), List.mem_of_getElem? (i := 479) (by decide +kernel)⟩
theorem lw_p9 : lw_okq (⟨"WaveRing$Reader", "isSign", "(C)Z"⟩, 11) := ⟨⟨by decide +kernel, by decide +kernel⟩, List.mem_of_getElem? (i := 153) (by decide +kernel), List.mem_of_getElem? (i := 482) (by decide +kernel), List.mem_of_getElem? (i := 483) (by decide +kernel)⟩
theorem lw_p10 : lw_okq (⟨"WaveRing$Reader", "readPlaces", "()Z"⟩, 11) := ⟨⟨by decide +kernel, by decide +kernel⟩, List.mem_of_getElem? (i := 153) (by decide +kernel), List.mem_of_getElem? (i := 489) (by decide +kernel), List.mem_of_getElem? (i := 490) (by decide +kernel)⟩
theorem lw_p11 : lw_okq (⟨"WaveRing$Reader", "takeWord", "(Ljava/lang/String;)Z"⟩, 11) := ⟨⟨by decide +kernel, by decide +kernel⟩, List.mem_of_getElem? (i := 153) (by decide +kernel), List.mem_of_getElem? (i := 494) (by decide +kernel), List.mem_of_getElem? (i := 495) (by decide +kernel)⟩
theorem lw_p12 : lw_okq (⟨"WaveRing$Reader", "readSlack", "()Z"⟩, 11) := ⟨⟨by decide +kernel, by decide +kernel⟩, List.mem_of_getElem? (i := 153) (by decide +kernel), List.mem_of_getElem? (i := 514) (by decide +kernel), List.mem_of_getElem? (i := 515) (by decide +kernel)⟩
theorem lw_p13 : lw_okq (⟨"WaveRing$Reader", "readLaw", "()Z"⟩, 11) := ⟨⟨by decide +kernel, by decide +kernel⟩, List.mem_of_getElem? (i := 153) (by decide +kernel), List.mem_of_getElem? (i := 524) (by decide +kernel), List.mem_of_getElem? (i := 525) (by decide +kernel)⟩
theorem lw_p14 : lw_okq (⟨"WaveRing$Reader", "readEither", "(I)Z"⟩, 11) := ⟨⟨by decide +kernel, by decide +kernel⟩, List.mem_of_getElem? (i := 153) (by decide +kernel), List.mem_of_getElem? (i := 534) (by decide +kernel), List.mem_of_getElem? (i := 535) (by decide +kernel)⟩
theorem lw_p15 : lw_okq (⟨"WaveRing$Reader", "readBoth", "(I)Z"⟩, 11) := ⟨⟨by decide +kernel, by decide +kernel⟩, List.mem_of_getElem? (i := 153) (by decide +kernel), List.mem_of_getElem? (i := 538) (by decide +kernel), List.mem_of_getElem? (i := 539) (by decide +kernel)⟩
def lw_privs_1 : List (MethodName × Nat) := [(⟨"WaveRing$Reader", "step", "()V"⟩, 11), (⟨"WaveRing$Reader", "readWord", "()V"⟩, 11), (⟨"WaveRing$Reader", "readNumber", "()V"⟩, 11), (⟨"WaveRing$Reader", "readLine", "()Z"⟩, 11), (⟨"WaveRing$Reader", "isWord", "(Ljava/lang/String;)Z"⟩, 11), (⟨"WaveRing$Reader", "readSeats", "()Z"⟩, 11), (⟨"WaveRing$Reader", "refuse", "()Z"⟩, 11), (⟨"WaveRing$Reader", "takeNumber", "(II)Z"⟩, 11), (⟨"WaveRing$Reader", "takeSign", "(C)Z"⟩, 11), (⟨"WaveRing$Reader", "isSign", "(C)Z"⟩, 11), (⟨"WaveRing$Reader", "readPlaces", "()Z"⟩, 11), (⟨"WaveRing$Reader", "takeWord", "(Ljava/lang/String;)Z"⟩, 11), (⟨"WaveRing$Reader", "readSlack", "()Z"⟩, 11), (⟨"WaveRing$Reader", "readLaw", "()Z"⟩, 11), (⟨"WaveRing$Reader", "readEither", "(I)Z"⟩, 11), (⟨"WaveRing$Reader", "readBoth", "(I)Z"⟩, 11)]
theorem lw_r1 : ∀ q ∈ lw_privs_1, lw_okq q := List.forall_mem_cons.mpr ⟨lw_p0, List.forall_mem_cons.mpr ⟨lw_p1, List.forall_mem_cons.mpr ⟨lw_p2, List.forall_mem_cons.mpr ⟨lw_p3, List.forall_mem_cons.mpr ⟨lw_p4, List.forall_mem_cons.mpr ⟨lw_p5, List.forall_mem_cons.mpr ⟨lw_p6, List.forall_mem_cons.mpr ⟨lw_p7, List.forall_mem_cons.mpr ⟨lw_p8, List.forall_mem_cons.mpr ⟨lw_p9, List.forall_mem_cons.mpr ⟨lw_p10, List.forall_mem_cons.mpr ⟨lw_p11, List.forall_mem_cons.mpr ⟨lw_p12, List.forall_mem_cons.mpr ⟨lw_p13, List.forall_mem_cons.mpr ⟨lw_p14, List.forall_mem_cons.mpr ⟨lw_p15, fun _ h => absurd h List.not_mem_nil⟩⟩⟩⟩⟩⟩⟩⟩⟩⟩⟩⟩⟩⟩⟩⟩
theorem lw_p16 : lw_okq (⟨"WaveRing$Reader", "readOne", "(I)Z"⟩, 11) := ⟨⟨by decide +kernel, by decide +kernel⟩, List.mem_of_getElem? (i := 153) (by decide +kernel), List.mem_of_getElem? (i := 542) (by decide +kernel), List.mem_of_getElem? (i := 543) (by decide +kernel)⟩
theorem lw_p17 : lw_okq (⟨"WaveRing$Reader", "readSum", "(I)Z"⟩, 11) := ⟨⟨by decide +kernel, by decide +kernel⟩, List.mem_of_getElem? (i := 153) (by decide +kernel), List.mem_of_getElem? (i := 548) (by decide +kernel), List.mem_of_getElem? (i := 549) (by decide +kernel)⟩
theorem lw_p18 : lw_okq (⟨"WaveRing$Reader", "readTerm", "(I)Z"⟩, 11) := ⟨⟨by decide +kernel, by decide +kernel⟩, List.mem_of_getElem? (i := 153) (by decide +kernel), List.mem_of_getElem? (i := 552) (by decide +kernel), List.mem_of_getElem? (i := 553) (by decide +kernel)⟩
theorem lw_p19 : lw_okq (⟨"WaveRing$Reader", "readUnit", "(I)Z"⟩, 11) := ⟨⟨by decide +kernel, by decide +kernel⟩, List.mem_of_getElem? (i := 153) (by decide +kernel), List.mem_of_getElem? (i := 556) (by decide +kernel), List.mem_of_getElem? (i := 557) (by decide +kernel)⟩
theorem lw_p20 : lw_okq (⟨"WaveRing$Reader", "readNested", "(I)Z"⟩, 11) := ⟨⟨by decide +kernel, by decide +kernel⟩, List.mem_of_getElem? (i := 153) (by decide +kernel), List.mem_of_getElem? (i := 560) (by decide +kernel), List.mem_of_getElem? (i := 561) (by decide +kernel)⟩
theorem lw_p21 : lw_okq (⟨"WaveRing$Reader", "lookHere", "()I"⟩, 11) := ⟨⟨by decide +kernel, by decide +kernel⟩, List.mem_of_getElem? (i := 153) (by decide +kernel), List.mem_of_getElem? (i := 564) (by decide +kernel), List.mem_of_getElem? (i := 565) (by decide +kernel)⟩
theorem lw_p22 : lw_okq (⟨"WaveRing$Reader", "relationHere", "()I"⟩, 11) := ⟨⟨by decide +kernel, by decide +kernel⟩, List.mem_of_getElem? (i := 153) (by decide +kernel), List.mem_of_getElem? (i := 575) (by decide +kernel), List.mem_of_getElem? (i := 576) (by decide +kernel)⟩
theorem lw_p23 : lw_okq (⟨"WaveRing$Crowd", "lookAround", "(LWaveRing$Ring;I)V"⟩, 9) := ⟨⟨by decide +kernel, by decide +kernel⟩, List.mem_of_getElem? (i := 195) (by decide +kernel), List.mem_of_getElem? (i := 628) (by decide +kernel), List.mem_of_getElem? (i := 629) (by decide +kernel)⟩
theorem lw_p24 : lw_okq (⟨"WaveRing$Crowd", "withoutTheShy", "(JI)J"⟩, 9) := ⟨⟨by decide +kernel, by decide +kernel⟩, List.mem_of_getElem? (i := 195) (by decide +kernel), List.mem_of_getElem? (i := 647) (by decide +kernel), List.mem_of_getElem? (i := 648) (by decide +kernel)⟩
theorem lw_p25 : lw_okq (⟨"WaveRing$Crowd", "drawOfTen", "()I"⟩, 9) := ⟨⟨by decide +kernel, by decide +kernel⟩, List.mem_of_getElem? (i := 195) (by decide +kernel), List.mem_of_getElem? (i := 651) (by decide +kernel), List.mem_of_getElem? (i := 652) (by decide +kernel)⟩
theorem lw_p26 : lw_okq (⟨"WaveRing$Crowd", "countWays", "(LWaveRing$Ring;J)V"⟩, 9) := ⟨⟨by decide +kernel, by decide +kernel⟩, List.mem_of_getElem? (i := 195) (by decide +kernel), List.mem_of_getElem? (i := 656) (by decide +kernel), List.mem_of_getElem? (i := 657) (by decide +kernel)⟩
theorem lw_p27 : lw_okq (⟨"WaveRing$Crowd", "countWay", "(I)V"⟩, 9) := ⟨⟨by decide +kernel, by decide +kernel⟩, List.mem_of_getElem? (i := 195) (by decide +kernel), List.mem_of_getElem? (i := 663) (by decide +kernel), List.mem_of_getElem? (i := 664) (by decide +kernel)⟩
theorem lw_p28 : lw_okq (⟨"WaveRing$Crowd", "move", "(LWaveRing$Ring;J)V"⟩, 9) := ⟨⟨by decide +kernel, by decide +kernel⟩, List.mem_of_getElem? (i := 195) (by decide +kernel), List.mem_of_getElem? (i := 667) (by decide +kernel), List.mem_of_getElem? (i := 668) (by decide +kernel)⟩
theorem lw_p29 : lw_okq (⟨"WaveRing", "canTry", "(I)Z"⟩, 12) := ⟨⟨by decide +kernel, by decide +kernel⟩, List.mem_of_getElem? (i := 17) (by decide +kernel), List.mem_of_getElem? (i := 751) (by decide +kernel), List.mem_of_getElem? (i := 752) (by decide +kernel)⟩
theorem lw_p30 : lw_okq (⟨"WaveRing", "lifeOf", "(JJ)I"⟩, 12) := ⟨⟨by decide +kernel, by decide +kernel⟩, List.mem_of_getElem? (i := 17) (by decide +kernel), List.mem_of_getElem? (i := 756) (by decide +kernel), List.mem_of_getElem? (i := 757) (by decide +kernel)⟩
theorem lw_p31 : lw_okq (⟨"WaveRing", "chancesOfAtLeast", "(II)J"⟩, 12) := ⟨⟨by decide +kernel, by decide +kernel⟩, List.mem_of_getElem? (i := 17) (by decide +kernel), List.mem_of_getElem? (i := 783) (by decide +kernel), List.mem_of_getElem? (i := 784) (by decide +kernel)⟩
def lw_privs_2 : List (MethodName × Nat) := [(⟨"WaveRing$Reader", "readOne", "(I)Z"⟩, 11), (⟨"WaveRing$Reader", "readSum", "(I)Z"⟩, 11), (⟨"WaveRing$Reader", "readTerm", "(I)Z"⟩, 11), (⟨"WaveRing$Reader", "readUnit", "(I)Z"⟩, 11), (⟨"WaveRing$Reader", "readNested", "(I)Z"⟩, 11), (⟨"WaveRing$Reader", "lookHere", "()I"⟩, 11), (⟨"WaveRing$Reader", "relationHere", "()I"⟩, 11), (⟨"WaveRing$Crowd", "lookAround", "(LWaveRing$Ring;I)V"⟩, 9), (⟨"WaveRing$Crowd", "withoutTheShy", "(JI)J"⟩, 9), (⟨"WaveRing$Crowd", "drawOfTen", "()I"⟩, 9), (⟨"WaveRing$Crowd", "countWays", "(LWaveRing$Ring;J)V"⟩, 9), (⟨"WaveRing$Crowd", "countWay", "(I)V"⟩, 9), (⟨"WaveRing$Crowd", "move", "(LWaveRing$Ring;J)V"⟩, 9), (⟨"WaveRing", "canTry", "(I)Z"⟩, 12), (⟨"WaveRing", "lifeOf", "(JJ)I"⟩, 12), (⟨"WaveRing", "chancesOfAtLeast", "(II)J"⟩, 12)]
theorem lw_r2 : ∀ q ∈ lw_privs_2, lw_okq q := List.forall_mem_cons.mpr ⟨lw_p16, List.forall_mem_cons.mpr ⟨lw_p17, List.forall_mem_cons.mpr ⟨lw_p18, List.forall_mem_cons.mpr ⟨lw_p19, List.forall_mem_cons.mpr ⟨lw_p20, List.forall_mem_cons.mpr ⟨lw_p21, List.forall_mem_cons.mpr ⟨lw_p22, List.forall_mem_cons.mpr ⟨lw_p23, List.forall_mem_cons.mpr ⟨lw_p24, List.forall_mem_cons.mpr ⟨lw_p25, List.forall_mem_cons.mpr ⟨lw_p26, List.forall_mem_cons.mpr ⟨lw_p27, List.forall_mem_cons.mpr ⟨lw_p28, List.forall_mem_cons.mpr ⟨lw_p29, List.forall_mem_cons.mpr ⟨lw_p30, List.forall_mem_cons.mpr ⟨lw_p31, fun _ h => absurd h List.not_mem_nil⟩⟩⟩⟩⟩⟩⟩⟩⟩⟩⟩⟩⟩⟩⟩⟩
theorem lw_p32 : lw_okq (⟨"WaveRing$Films", "counts", "(II)Z"⟩, 10) := ⟨⟨by decide +kernel, by decide +kernel⟩, List.mem_of_getElem? (i := 234) (by decide +kernel), List.mem_of_getElem? (i := 821) (by decide +kernel), List.mem_of_getElem? (i := 822) (by decide +kernel)⟩
theorem lw_p33 : lw_okq (⟨"WaveRing", "letByFilms", "(I)Z"⟩, 12) := ⟨⟨by decide +kernel, by decide +kernel⟩, List.mem_of_getElem? (i := 17) (by decide +kernel), List.mem_of_getElem? (i := 825) (by decide +kernel), List.mem_of_getElem? (i := 826) (by decide +kernel)⟩
theorem lw_p34 : lw_okq (⟨"WaveRing$Plain", "thoseWhoSee", "()J"⟩, 13) := ⟨⟨by decide +kernel, by decide +kernel⟩, List.mem_of_getElem? (i := 276) (by decide +kernel), List.mem_of_getElem? (i := 850) (by decide +kernel), List.mem_of_getElem? (i := 851) (by decide +kernel)⟩
theorem lw_p35 : lw_okq (⟨"WaveRing", "goAlike", "(J)Z"⟩, 12) := ⟨⟨by decide +kernel, by decide +kernel⟩, List.mem_of_getElem? (i := 17) (by decide +kernel), List.mem_of_getElem? (i := 873) (by decide +kernel), List.mem_of_getElem? (i := 874) (by decide +kernel)⟩
theorem lw_p36 : lw_okq (⟨"WaveRing", "isBox", "(I)Z"⟩, 12) := ⟨⟨by decide +kernel, by decide +kernel⟩, List.mem_of_getElem? (i := 17) (by decide +kernel), List.mem_of_getElem? (i := 884) (by decide +kernel), List.mem_of_getElem? (i := 885) (by decide +kernel)⟩
theorem lw_p37 : lw_okq (⟨"WaveRingModel", "plainLaw", "()V"⟩, 82) := ⟨⟨by decide +kernel, by decide +kernel⟩, List.mem_of_getElem? (i := 900) (by decide +kernel), List.mem_of_getElem? (i := 906) (by decide +kernel), List.mem_of_getElem? (i := 907) (by decide +kernel)⟩
theorem lw_p38 : lw_okq (⟨"WaveRingModel", "freshen", "()V"⟩, 82) := ⟨⟨by decide +kernel, by decide +kernel⟩, List.mem_of_getElem? (i := 900) (by decide +kernel), List.mem_of_getElem? (i := 910) (by decide +kernel), List.mem_of_getElem? (i := 911) (by decide +kernel)⟩
theorem lw_p39 : lw_okq (⟨"WaveRingModel", "four", "(I)V"⟩, 82) := ⟨⟨by decide +kernel, by decide +kernel⟩, List.mem_of_getElem? (i := 900) (by decide +kernel), List.mem_of_getElem? (i := 1165) (by decide +kernel), List.mem_of_getElem? (i := 1166) (by decide +kernel)⟩
theorem lw_p40 : lw_okq (⟨"WaveRingModel", "token", "()V"⟩, 82) := ⟨⟨by decide +kernel, by decide +kernel⟩, List.mem_of_getElem? (i := 900) (by decide +kernel), List.mem_of_getElem? (i := 1177) (by decide +kernel), List.mem_of_getElem? (i := 1178) (by decide +kernel)⟩
theorem lw_p41 : lw_okq (⟨"WaveRingModel", "here", "(I)I"⟩, 82) := ⟨⟨by decide +kernel, by decide +kernel⟩, List.mem_of_getElem? (i := 900) (by decide +kernel), List.mem_of_getElem? (i := 1181) (by decide +kernel), List.mem_of_getElem? (i := 1182) (by decide +kernel)⟩
theorem lw_p42 : lw_okq (⟨"WaveRingModel", "readLine", "()V"⟩, 82) := ⟨⟨by decide +kernel, by decide +kernel⟩, List.mem_of_getElem? (i := 900) (by decide +kernel), List.mem_of_getElem? (i := 1194) (by decide +kernel), List.mem_of_getElem? (i := 1195) (by decide +kernel)⟩
theorem lw_p43 : lw_okq (⟨"WaveRingModel", "isWord", "(J)Z"⟩, 82) := ⟨⟨by decide +kernel, by decide +kernel⟩, List.mem_of_getElem? (i := 900) (by decide +kernel), List.mem_of_getElem? (i := 1199) (by decide +kernel), List.mem_of_getElem? (i := 1200) (by decide +kernel)⟩
theorem lw_p44 : lw_okq (⟨"WaveRingModel", "readSeats", "()V"⟩, 82) := ⟨⟨by decide +kernel, by decide +kernel⟩, List.mem_of_getElem? (i := 900) (by decide +kernel), List.mem_of_getElem? (i := 1203) (by decide +kernel), List.mem_of_getElem? (i := 1204) (by decide +kernel)⟩
theorem lw_p45 : lw_okq (⟨"WaveRingModel", "toldNumber", "(II)I"⟩, 82) := ⟨⟨by decide +kernel, by decide +kernel⟩, List.mem_of_getElem? (i := 900) (by decide +kernel), List.mem_of_getElem? (i := 1207) (by decide +kernel), List.mem_of_getElem? (i := 1208) (by decide +kernel)⟩
theorem lw_p46 : lw_okq (⟨"WaveRingModel", "wrong", "(I)V"⟩, 82) := ⟨⟨by decide +kernel, by decide +kernel⟩, List.mem_of_getElem? (i := 900) (by decide +kernel), List.mem_of_getElem? (i := 1211) (by decide +kernel), List.mem_of_getElem? (i := 1212) (by decide +kernel)⟩
theorem lw_p47 : lw_okq (⟨"WaveRingModel", "readRow", "()V"⟩, 82) := ⟨⟨by decide +kernel, by decide +kernel⟩, List.mem_of_getElem? (i := 900) (by decide +kernel), List.mem_of_getElem? (i := 1218) (by decide +kernel), List.mem_of_getElem? (i := 1219) (by decide +kernel)⟩
def lw_privs_3 : List (MethodName × Nat) := [(⟨"WaveRing$Films", "counts", "(II)Z"⟩, 10), (⟨"WaveRing", "letByFilms", "(I)Z"⟩, 12), (⟨"WaveRing$Plain", "thoseWhoSee", "()J"⟩, 13), (⟨"WaveRing", "goAlike", "(J)Z"⟩, 12), (⟨"WaveRing", "isBox", "(I)Z"⟩, 12), (⟨"WaveRingModel", "plainLaw", "()V"⟩, 82), (⟨"WaveRingModel", "freshen", "()V"⟩, 82), (⟨"WaveRingModel", "four", "(I)V"⟩, 82), (⟨"WaveRingModel", "token", "()V"⟩, 82), (⟨"WaveRingModel", "here", "(I)I"⟩, 82), (⟨"WaveRingModel", "readLine", "()V"⟩, 82), (⟨"WaveRingModel", "isWord", "(J)Z"⟩, 82), (⟨"WaveRingModel", "readSeats", "()V"⟩, 82), (⟨"WaveRingModel", "toldNumber", "(II)I"⟩, 82), (⟨"WaveRingModel", "wrong", "(I)V"⟩, 82), (⟨"WaveRingModel", "readRow", "()V"⟩, 82)]
theorem lw_r3 : ∀ q ∈ lw_privs_3, lw_okq q := List.forall_mem_cons.mpr ⟨lw_p32, List.forall_mem_cons.mpr ⟨lw_p33, List.forall_mem_cons.mpr ⟨lw_p34, List.forall_mem_cons.mpr ⟨lw_p35, List.forall_mem_cons.mpr ⟨lw_p36, List.forall_mem_cons.mpr ⟨lw_p37, List.forall_mem_cons.mpr ⟨lw_p38, List.forall_mem_cons.mpr ⟨lw_p39, List.forall_mem_cons.mpr ⟨lw_p40, List.forall_mem_cons.mpr ⟨lw_p41, List.forall_mem_cons.mpr ⟨lw_p42, List.forall_mem_cons.mpr ⟨lw_p43, List.forall_mem_cons.mpr ⟨lw_p44, List.forall_mem_cons.mpr ⟨lw_p45, List.forall_mem_cons.mpr ⟨lw_p46, List.forall_mem_cons.mpr ⟨lw_p47, fun _ h => absurd h List.not_mem_nil⟩⟩⟩⟩⟩⟩⟩⟩⟩⟩⟩⟩⟩⟩⟩⟩
theorem lw_p48 : lw_okq (⟨"WaveRingModel", "told", "(JII)I"⟩, 82) := ⟨⟨by decide +kernel, by decide +kernel⟩, List.mem_of_getElem? (i := 900) (by decide +kernel), List.mem_of_getElem? (i := 1223) (by decide +kernel), List.mem_of_getElem? (i := 1224) (by decide +kernel)⟩
theorem lw_p49 : lw_okq (⟨"WaveRingModel", "want", "(J)V"⟩, 82) := ⟨⟨by decide +kernel, by decide +kernel⟩, List.mem_of_getElem? (i := 900) (by decide +kernel), List.mem_of_getElem? (i := 1227) (by decide +kernel), List.mem_of_getElem? (i := 1228) (by decide +kernel)⟩
theorem lw_p50 : lw_okq (⟨"WaveRingModel", "readSlack", "()V"⟩, 82) := ⟨⟨by decide +kernel, by decide +kernel⟩, List.mem_of_getElem? (i := 900) (by decide +kernel), List.mem_of_getElem? (i := 1232) (by decide +kernel), List.mem_of_getElem? (i := 1233) (by decide +kernel)⟩
theorem lw_p51 : lw_okq (⟨"WaveRingModel", "readLaw", "()V"⟩, 82) := ⟨⟨by decide +kernel, by decide +kernel⟩, List.mem_of_getElem? (i := 900) (by decide +kernel), List.mem_of_getElem? (i := 1238) (by decide +kernel), List.mem_of_getElem? (i := 1239) (by decide +kernel)⟩
theorem lw_p52 : lw_okq (⟨"WaveRingModel", "isOpen", "()Z"⟩, 82) := ⟨⟨by decide +kernel, by decide +kernel⟩, List.mem_of_getElem? (i := 900) (by decide +kernel), List.mem_of_getElem? (i := 1247) (by decide +kernel), List.mem_of_getElem? (i := 1248) (by decide +kernel)⟩
theorem lw_p53 : lw_okq (⟨"WaveRingModel", "sign", "()I"⟩, 82) := ⟨⟨by decide +kernel, by decide +kernel⟩, List.mem_of_getElem? (i := 900) (by decide +kernel), List.mem_of_getElem? (i := 1251) (by decide +kernel), List.mem_of_getElem? (i := 1252) (by decide +kernel)⟩
theorem lw_p54 : lw_okq (⟨"WaveRingModel", "settle", "(I)V"⟩, 82) := ⟨⟨by decide +kernel, by decide +kernel⟩, List.mem_of_getElem? (i := 900) (by decide +kernel), List.mem_of_getElem? (i := 1257) (by decide +kernel), List.mem_of_getElem? (i := 1258) (by decide +kernel)⟩
theorem lw_p55 : lw_okq (⟨"WaveRingModel", "upper", "()I"⟩, 82) := ⟨⟨by decide +kernel, by decide +kernel⟩, List.mem_of_getElem? (i := 900) (by decide +kernel), List.mem_of_getElem? (i := 1261) (by decide +kernel), List.mem_of_getElem? (i := 1262) (by decide +kernel)⟩
theorem lw_p56 : lw_okq (⟨"WaveRingModel", "pop", "()V"⟩, 82) := ⟨⟨by decide +kernel, by decide +kernel⟩, List.mem_of_getElem? (i := 900) (by decide +kernel), List.mem_of_getElem? (i := 1265) (by decide +kernel), List.mem_of_getElem? (i := 1266) (by decide +kernel)⟩
theorem lw_p57 : lw_okq (⟨"WaveRingModel", "note", "(II)V"⟩, 82) := ⟨⟨by decide +kernel, by decide +kernel⟩, List.mem_of_getElem? (i := 900) (by decide +kernel), List.mem_of_getElem? (i := 1269) (by decide +kernel), List.mem_of_getElem? (i := 1270) (by decide +kernel)⟩
theorem lw_p58 : lw_okq (⟨"WaveRingModel", "hold", "(I)V"⟩, 82) := ⟨⟨by decide +kernel, by decide +kernel⟩, List.mem_of_getElem? (i := 900) (by decide +kernel), List.mem_of_getElem? (i := 1276) (by decide +kernel), List.mem_of_getElem? (i := 1277) (by decide +kernel)⟩
theorem lw_p59 : lw_okq (⟨"WaveRingModel", "operand", "(I)I"⟩, 82) := ⟨⟨by decide +kernel, by decide +kernel⟩, List.mem_of_getElem? (i := 900) (by decide +kernel), List.mem_of_getElem? (i := 1280) (by decide +kernel), List.mem_of_getElem? (i := 1281) (by decide +kernel)⟩
theorem lw_p60 : lw_okq (⟨"WaveRingModel", "known", "()I"⟩, 82) := ⟨⟨by decide +kernel, by decide +kernel⟩, List.mem_of_getElem? (i := 900) (by decide +kernel), List.mem_of_getElem? (i := 1285) (by decide +kernel), List.mem_of_getElem? (i := 1286) (by decide +kernel)⟩
theorem lw_p61 : lw_okq (⟨"WaveRingModel", "tries", "(I)Z"⟩, 82) := ⟨⟨by decide +kernel, by decide +kernel⟩, List.mem_of_getElem? (i := 900) (by decide +kernel), List.mem_of_getElem? (i := 1303) (by decide +kernel), List.mem_of_getElem? (i := 1304) (by decide +kernel)⟩
theorem lw_p62 : lw_okq (⟨"WaveRingModel", "step", "(Z)I"⟩, 82) := ⟨⟨by decide +kernel, by decide +kernel⟩, List.mem_of_getElem? (i := 900) (by decide +kernel), List.mem_of_getElem? (i := 1312) (by decide +kernel), List.mem_of_getElem? (i := 1313) (by decide +kernel)⟩
theorem lw_p63 : lw_okq (⟨"WaveRingModel", "ups", "()I"⟩, 82) := ⟨⟨by decide +kernel, by decide +kernel⟩, List.mem_of_getElem? (i := 900) (by decide +kernel), List.mem_of_getElem? (i := 1316) (by decide +kernel), List.mem_of_getElem? (i := 1317) (by decide +kernel)⟩
def lw_privs_4 : List (MethodName × Nat) := [(⟨"WaveRingModel", "told", "(JII)I"⟩, 82), (⟨"WaveRingModel", "want", "(J)V"⟩, 82), (⟨"WaveRingModel", "readSlack", "()V"⟩, 82), (⟨"WaveRingModel", "readLaw", "()V"⟩, 82), (⟨"WaveRingModel", "isOpen", "()Z"⟩, 82), (⟨"WaveRingModel", "sign", "()I"⟩, 82), (⟨"WaveRingModel", "settle", "(I)V"⟩, 82), (⟨"WaveRingModel", "upper", "()I"⟩, 82), (⟨"WaveRingModel", "pop", "()V"⟩, 82), (⟨"WaveRingModel", "note", "(II)V"⟩, 82), (⟨"WaveRingModel", "hold", "(I)V"⟩, 82), (⟨"WaveRingModel", "operand", "(I)I"⟩, 82), (⟨"WaveRingModel", "known", "()I"⟩, 82), (⟨"WaveRingModel", "tries", "(I)Z"⟩, 82), (⟨"WaveRingModel", "step", "(Z)I"⟩, 82), (⟨"WaveRingModel", "ups", "()I"⟩, 82)]
theorem lw_r4 : ∀ q ∈ lw_privs_4, lw_okq q := List.forall_mem_cons.mpr ⟨lw_p48, List.forall_mem_cons.mpr ⟨lw_p49, List.forall_mem_cons.mpr ⟨lw_p50, List.forall_mem_cons.mpr ⟨lw_p51, List.forall_mem_cons.mpr ⟨lw_p52, List.forall_mem_cons.mpr ⟨lw_p53, List.forall_mem_cons.mpr ⟨lw_p54, List.forall_mem_cons.mpr ⟨lw_p55, List.forall_mem_cons.mpr ⟨lw_p56, List.forall_mem_cons.mpr ⟨lw_p57, List.forall_mem_cons.mpr ⟨lw_p58, List.forall_mem_cons.mpr ⟨lw_p59, List.forall_mem_cons.mpr ⟨lw_p60, List.forall_mem_cons.mpr ⟨lw_p61, List.forall_mem_cons.mpr ⟨lw_p62, List.forall_mem_cons.mpr ⟨lw_p63, fun _ h => absurd h List.not_mem_nil⟩⟩⟩⟩⟩⟩⟩⟩⟩⟩⟩⟩⟩⟩⟩⟩
theorem lw_p64 : lw_okq (⟨"WaveRingModel", "wants", "(II)Z"⟩, 82) := ⟨⟨by decide +kernel, by decide +kernel⟩, List.mem_of_getElem? (i := 900) (by decide +kernel), List.mem_of_getElem? (i := 1323) (by decide +kernel), List.mem_of_getElem? (i := 1324) (by decide +kernel)⟩
theorem lw_p65 : lw_okq (⟨"WaveRingModel", "askedOf", "(III)I"⟩, 82) := ⟨⟨by decide +kernel, by decide +kernel⟩, List.mem_of_getElem? (i := 900) (by decide +kernel), List.mem_of_getElem? (i := 1327) (by decide +kernel), List.mem_of_getElem? (i := 1328) (by decide +kernel)⟩
theorem lw_p66 : lw_okq (⟨"WaveRingModel", "seen", "([IIII)I"⟩, 82) := ⟨⟨by decide +kernel, by decide +kernel⟩, List.mem_of_getElem? (i := 900) (by decide +kernel), List.mem_of_getElem? (i := 1331) (by decide +kernel), List.mem_of_getElem? (i := 1332) (by decide +kernel)⟩
theorem lw_p67 : lw_okq (⟨"WaveRingModel", "wrap", "(I)I"⟩, 82) := ⟨⟨by decide +kernel, by decide +kernel⟩, List.mem_of_getElem? (i := 900) (by decide +kernel), List.mem_of_getElem? (i := 1335) (by decide +kernel), List.mem_of_getElem? (i := 1336) (by decide +kernel)⟩
theorem lw_p68 : lw_okq (⟨"WaveRingModel", "slackNow", "()I"⟩, 82) := ⟨⟨by decide +kernel, by decide +kernel⟩, List.mem_of_getElem? (i := 900) (by decide +kernel), List.mem_of_getElem? (i := 1339) (by decide +kernel), List.mem_of_getElem? (i := 1340) (by decide +kernel)⟩
theorem lw_p69 : lw_okq (⟨"WaveRingModel", "draw", "(I)I"⟩, 82) := ⟨⟨by decide +kernel, by decide +kernel⟩, List.mem_of_getElem? (i := 900) (by decide +kernel), List.mem_of_getElem? (i := 1346) (by decide +kernel), List.mem_of_getElem? (i := 1347) (by decide +kernel)⟩
theorem lw_p70 : lw_okq (⟨"WaveRingModel", "isSeat", "(I)Z"⟩, 82) := ⟨⟨by decide +kernel, by decide +kernel⟩, List.mem_of_getElem? (i := 900) (by decide +kernel), List.mem_of_getElem? (i := 1358) (by decide +kernel), List.mem_of_getElem? (i := 1359) (by decide +kernel)⟩
theorem lw_p71 : lw_okq (⟨"WaveRingModel", "wouldRise", "()I"⟩, 82) := ⟨⟨by decide +kernel, by decide +kernel⟩, List.mem_of_getElem? (i := 900) (by decide +kernel), List.mem_of_getElem? (i := 1366) (by decide +kernel), List.mem_of_getElem? (i := 1367) (by decide +kernel)⟩
theorem lw_p72 : lw_okq (⟨"WaveRingModel", "waveMany", "()I"⟩, 82) := ⟨⟨by decide +kernel, by decide +kernel⟩, List.mem_of_getElem? (i := 900) (by decide +kernel), List.mem_of_getElem? (i := 1382) (by decide +kernel), List.mem_of_getElem? (i := 1383) (by decide +kernel)⟩
theorem lw_p73 : lw_okq (⟨"WaveRingModel", "put", "()V"⟩, 82) := ⟨⟨by decide +kernel, by decide +kernel⟩, List.mem_of_getElem? (i := 900) (by decide +kernel), List.mem_of_getElem? (i := 1390) (by decide +kernel), List.mem_of_getElem? (i := 1391) (by decide +kernel)⟩
theorem lw_p74 : lw_okq (⟨"WaveRingModel", "bring", "()V"⟩, 82) := ⟨⟨by decide +kernel, by decide +kernel⟩, List.mem_of_getElem? (i := 900) (by decide +kernel), List.mem_of_getElem? (i := 1394) (by decide +kernel), List.mem_of_getElem? (i := 1395) (by decide +kernel)⟩
theorem lw_p75 : lw_okq (⟨"WaveRingModel", "isMany", "(I)Z"⟩, 82) := ⟨⟨by decide +kernel, by decide +kernel⟩, List.mem_of_getElem? (i := 900) (by decide +kernel), List.mem_of_getElem? (i := 1406) (by decide +kernel), List.mem_of_getElem? (i := 1407) (by decide +kernel)⟩
theorem lw_p76 : lw_okq (⟨"WaveRingModel", "livesBy", "(IIII)I"⟩, 82) := ⟨⟨by decide +kernel, by decide +kernel⟩, List.mem_of_getElem? (i := 900) (by decide +kernel), List.mem_of_getElem? (i := 1410) (by decide +kernel), List.mem_of_getElem? (i := 1411) (by decide +kernel)⟩
theorem lw_p77 : lw_okq (⟨"WaveRingModel", "start", "(II)V"⟩, 82) := ⟨⟨by decide +kernel, by decide +kernel⟩, List.mem_of_getElem? (i := 900) (by decide +kernel), List.mem_of_getElem? (i := 1414) (by decide +kernel), List.mem_of_getElem? (i := 1415) (by decide +kernel)⟩
theorem lw_p78 : lw_okq (⟨"WaveRingModel", "life", "()I"⟩, 82) := ⟨⟨by decide +kernel, by decide +kernel⟩, List.mem_of_getElem? (i := 900) (by decide +kernel), List.mem_of_getElem? (i := 1418) (by decide +kernel), List.mem_of_getElem? (i := 1419) (by decide +kernel)⟩
theorem lw_p79 : lw_okq (⟨"WaveRingModel", "seekFits", "(I)I"⟩, 82) := ⟨⟨by decide +kernel, by decide +kernel⟩, List.mem_of_getElem? (i := 900) (by decide +kernel), List.mem_of_getElem? (i := 1465) (by decide +kernel), List.mem_of_getElem? (i := 1466) (by decide +kernel)⟩
def lw_privs_5 : List (MethodName × Nat) := [(⟨"WaveRingModel", "wants", "(II)Z"⟩, 82), (⟨"WaveRingModel", "askedOf", "(III)I"⟩, 82), (⟨"WaveRingModel", "seen", "([IIII)I"⟩, 82), (⟨"WaveRingModel", "wrap", "(I)I"⟩, 82), (⟨"WaveRingModel", "slackNow", "()I"⟩, 82), (⟨"WaveRingModel", "draw", "(I)I"⟩, 82), (⟨"WaveRingModel", "isSeat", "(I)Z"⟩, 82), (⟨"WaveRingModel", "wouldRise", "()I"⟩, 82), (⟨"WaveRingModel", "waveMany", "()I"⟩, 82), (⟨"WaveRingModel", "put", "()V"⟩, 82), (⟨"WaveRingModel", "bring", "()V"⟩, 82), (⟨"WaveRingModel", "isMany", "(I)Z"⟩, 82), (⟨"WaveRingModel", "livesBy", "(IIII)I"⟩, 82), (⟨"WaveRingModel", "start", "(II)V"⟩, 82), (⟨"WaveRingModel", "life", "()I"⟩, 82), (⟨"WaveRingModel", "seekFits", "(I)I"⟩, 82)]
theorem lw_r5 : ∀ q ∈ lw_privs_5, lw_okq q := List.forall_mem_cons.mpr ⟨lw_p64, List.forall_mem_cons.mpr ⟨lw_p65, List.forall_mem_cons.mpr ⟨lw_p66, List.forall_mem_cons.mpr ⟨lw_p67, List.forall_mem_cons.mpr ⟨lw_p68, List.forall_mem_cons.mpr ⟨lw_p69, List.forall_mem_cons.mpr ⟨lw_p70, List.forall_mem_cons.mpr ⟨lw_p71, List.forall_mem_cons.mpr ⟨lw_p72, List.forall_mem_cons.mpr ⟨lw_p73, List.forall_mem_cons.mpr ⟨lw_p74, List.forall_mem_cons.mpr ⟨lw_p75, List.forall_mem_cons.mpr ⟨lw_p76, List.forall_mem_cons.mpr ⟨lw_p77, List.forall_mem_cons.mpr ⟨lw_p78, List.forall_mem_cons.mpr ⟨lw_p79, fun _ h => absurd h List.not_mem_nil⟩⟩⟩⟩⟩⟩⟩⟩⟩⟩⟩⟩⟩⟩⟩⟩
theorem lw_p80 : lw_okq (⟨"WaveRingModel", "layOut", "(I)Z"⟩, 82) := ⟨⟨by decide +kernel, by decide +kernel⟩, List.mem_of_getElem? (i := 900) (by decide +kernel), List.mem_of_getElem? (i := 1469) (by decide +kernel), List.mem_of_getElem? (i := 1470) (by decide +kernel)⟩
theorem lw_p81 : lw_okq (⟨"WaveRingModel", "fitsAll", "(I)Z"⟩, 82) := ⟨⟨by decide +kernel, by decide +kernel⟩, List.mem_of_getElem? (i := 900) (by decide +kernel), List.mem_of_getElem? (i := 1473) (by decide +kernel), List.mem_of_getElem? (i := 1474) (by decide +kernel)⟩
theorem lw_p82 : lw_okq (⟨"WaveRingModel", "startPlain", "(IJ)V"⟩, 82) := ⟨⟨by decide +kernel, by decide +kernel⟩, List.mem_of_getElem? (i := 900) (by decide +kernel), List.mem_of_getElem? (i := 1477) (by decide +kernel), List.mem_of_getElem? (i := 1478) (by decide +kernel)⟩
theorem lw_p83 : lw_okq (⟨"WaveRingModel", "stepPlain", "(II)V"⟩, 82) := ⟨⟨by decide +kernel, by decide +kernel⟩, List.mem_of_getElem? (i := 900) (by decide +kernel), List.mem_of_getElem? (i := 1481) (by decide +kernel), List.mem_of_getElem? (i := 1482) (by decide +kernel)⟩
theorem lw_p84 : lw_okq (⟨"WaveRingModel", "upsOf", "(I)J"⟩, 82) := ⟨⟨by decide +kernel, by decide +kernel⟩, List.mem_of_getElem? (i := 900) (by decide +kernel), List.mem_of_getElem? (i := 1485) (by decide +kernel), List.mem_of_getElem? (i := 1486) (by decide +kernel)⟩
def lw_privs_6 : List (MethodName × Nat) := [(⟨"WaveRingModel", "layOut", "(I)Z"⟩, 82), (⟨"WaveRingModel", "fitsAll", "(I)Z"⟩, 82), (⟨"WaveRingModel", "startPlain", "(IJ)V"⟩, 82), (⟨"WaveRingModel", "stepPlain", "(II)V"⟩, 82), (⟨"WaveRingModel", "upsOf", "(I)J"⟩, 82)]
theorem lw_r6 : ∀ q ∈ lw_privs_6, lw_okq q := List.forall_mem_cons.mpr ⟨lw_p80, List.forall_mem_cons.mpr ⟨lw_p81, List.forall_mem_cons.mpr ⟨lw_p82, List.forall_mem_cons.mpr ⟨lw_p83, List.forall_mem_cons.mpr ⟨lw_p84, fun _ h => absurd h List.not_mem_nil⟩⟩⟩⟩⟩
def lw_privs : List (MethodName × Nat) := lw_privs_1 ++ (lw_privs_2 ++ (lw_privs_3 ++ (lw_privs_4 ++ (lw_privs_5 ++ (lw_privs_6)))))
def lw_tbl : List Cond := k2_sels lw_privs ++ tables_1
theorem lw_privs_ok : ∀ q ∈ lw_privs, lw_okq q := by
  show ∀ q ∈ lw_privs_1 ++ (lw_privs_2 ++ (lw_privs_3 ++ (lw_privs_4 ++ (lw_privs_5 ++ (lw_privs_6))))), lw_okq q
  exact List.forall_mem_append.mpr ⟨lw_r1, List.forall_mem_append.mpr ⟨lw_r2, List.forall_mem_append.mpr ⟨lw_r3, List.forall_mem_append.mpr ⟨lw_r4, List.forall_mem_append.mpr ⟨lw_r5, lw_r6⟩⟩⟩⟩⟩
end
section
def RX0 : String := "WaveRing$Crowd"
def TX0 : u_T := fun k => match k with
  | 0 => ("WaveRing$Crowd", "states", "[I", true)
  | 1 => ("WaveRing$Crowd", "rises", "[I", true)
  | 2 => ("WaveRing$Crowd", "ways", "[I", true)
  | 3 => ("WaveRing$Crowd", "looks", "[I", true)
  | 4 => ("WaveRing$Crowd", "ups", "J", false)
  | 5 => ("WaveRing$Crowd", "firsts", "J", false)
  | 6 => ("WaveRing$Crowd", "tenths", "I", false)
  | 7 => ("WaveRing$Crowd", "asked", "I", false)
  | _ => ("WaveRing$Crowd", "drawn", "I", false)
def tyX0 : Nat → FieldType := fun k => match k with
  | 0 => .array .int
  | 1 => .array .int
  | 2 => .array .int
  | 3 => .array .int
  | 4 => .long
  | 5 => .long
  | 6 => .int
  | 7 => .int
  | _ => .int
theorem nmX0 : ∀ a, a < 9 → ∀ b, b < 9 → a ≠ b → (TX0 a).2.1 ≠ (TX0 b).2.1 := by decide +kernel
theorem tyX0_ok : ∀ k, k < 9 → parseFieldDescriptor (TX0 k).2.2.1 = some (tyX0 k) := by decide +kernel
abbrev cX0_init : ByteArray := prog_2_method_1_code
def yX0_init : MethodName := ⟨RX0, "<init>", "()V"⟩
abbrev cX0_freshen : ByteArray := prog_2_method_2_code
def yX0_freshen : MethodName := ⟨RX0, "freshen", "()V"⟩
abbrev cX0_copy : ByteArray := prog_2_method_3_code
def yX0_copy : MethodName := ⟨RX0, "copy", "(LWaveRing$Crowd;)V"⟩
abbrev cX0_stateOf : ByteArray := prog_2_method_4_code
def yX0_stateOf : MethodName := ⟨RX0, "stateOf", "(I)I"⟩
abbrev cX0_risesOf : ByteArray := prog_2_method_5_code
def yX0_risesOf : MethodName := ⟨RX0, "risesOf", "(I)I"⟩
abbrev cX0_risenBy : ByteArray := prog_2_method_6_code
def yX0_risenBy : MethodName := ⟨RX0, "risenBy", "(I)I"⟩
abbrev cX0_raise : ByteArray := prog_2_method_7_code
def yX0_raise : MethodName := ⟨RX0, "raise", "(LWaveRing$Ring;J)I"⟩
abbrev cX0_willing : ByteArray := prog_2_method_8_code
def yX0_willing : MethodName := ⟨RX0, "willing", "(LWaveRing$Ring;J)J"⟩
abbrev cX0_lookAround : ByteArray := prog_2_method_9_code
def yX0_lookAround : MethodName := ⟨RX0, "lookAround", "(LWaveRing$Ring;I)V"⟩
abbrev cX0_liveOn : ByteArray := prog_2_method_10_code
def yX0_liveOn : MethodName := ⟨RX0, "liveOn", "(LWaveRing$Ring;)J"⟩
abbrev cX0_dreamOn : ByteArray := prog_2_method_11_code
def yX0_dreamOn : MethodName := ⟨RX0, "dreamOn", "(LWaveRing$Ring;J)J"⟩
abbrev cX0_tillNobodyUp : ByteArray := prog_2_method_12_code
def yX0_tillNobodyUp : MethodName := ⟨RX0, "tillNobodyUp", "(LWaveRing$Ring;JI)I"⟩
abbrev cX0_withoutTheShy : ByteArray := prog_2_method_13_code
def yX0_withoutTheShy : MethodName := ⟨RX0, "withoutTheShy", "(JI)J"⟩
abbrev cX0_drawOfTen : ByteArray := prog_2_method_14_code
def yX0_drawOfTen : MethodName := ⟨RX0, "drawOfTen", "()I"⟩
abbrev cX0_countWays : ByteArray := prog_2_method_15_code
def yX0_countWays : MethodName := ⟨RX0, "countWays", "(LWaveRing$Ring;J)V"⟩
abbrev cX0_countWay : ByteArray := prog_2_method_16_code
def yX0_countWay : MethodName := ⟨RX0, "countWay", "(I)V"⟩
abbrev cX0_wayOf : ByteArray := prog_2_method_17_code
def yX0_wayOf : MethodName := ⟨RX0, "wayOf", "(II)I"⟩
abbrev cX0_move : ByteArray := prog_2_method_18_code
def yX0_move : MethodName := ⟨RX0, "move", "(LWaveRing$Ring;J)V"⟩
abbrev cX0_stateBehind : ByteArray := prog_2_method_19_code
def yX0_stateBehind : MethodName := ⟨RX0, "stateBehind", "(LWaveRing$Ring;I)I"⟩
def RX1 : String := "WaveRing$Films"
def TX1 : u_T := fun k => match k with
  | 0 => ("WaveRing$Films", "moments", "[I", true)
  | 1 => ("WaveRing$Films", "ups", "[J", true)
  | 2 => ("WaveRing$Films", "toldAt", "[I", true)
  | 3 => ("WaveRing$Films", "untoldAt", "[I", true)
  | 4 => ("WaveRing$Films", "known", "[Z", true)
  | 5 => ("WaveRing$Films", "shown", "[J", true)
  | 6 => ("WaveRing$Films", "count", "I", false)
  | 7 => ("WaveRing$Films", "time", "I", false)
  | 8 => ("WaveRing$Films", "first", "I", false)
  | _ => ("WaveRing$Films", "last", "I", false)
def tyX1 : Nat → FieldType := fun k => match k with
  | 0 => .array .int
  | 1 => .array .long
  | 2 => .array .int
  | 3 => .array .int
  | 4 => .array .boolean
  | 5 => .array .long
  | 6 => .int
  | 7 => .int
  | 8 => .int
  | _ => .int
theorem nmX1 : ∀ a, a < 10 → ∀ b, b < 10 → a ≠ b → (TX1 a).2.1 ≠ (TX1 b).2.1 := by decide +kernel
theorem tyX1_ok : ∀ k, k < 10 → parseFieldDescriptor (TX1 k).2.2.1 = some (tyX1 k) := by decide +kernel
abbrev cX1_init : ByteArray := prog_3_method_1_code
def yX1_init : MethodName := ⟨RX1, "<init>", "()V"⟩
abbrev cX1_forget : ByteArray := prog_3_method_2_code
def yX1_forget : MethodName := ⟨RX1, "forget", "()V"⟩
abbrev cX1_tell : ByteArray := prog_3_method_3_code
def yX1_tell : MethodName := ⟨RX1, "tell", "(IJ)I"⟩
abbrev cX1_takeBack : ByteArray := prog_3_method_4_code
def yX1_takeBack : MethodName := ⟨RX1, "takeBack", "(I)Z"⟩
abbrev cX1_recall : ByteArray := prog_3_method_5_code
def yX1_recall : MethodName := ⟨RX1, "recall", "(I)V"⟩
abbrev cX1_counts : ByteArray := prog_3_method_6_code
def yX1_counts : MethodName := ⟨RX1, "counts", "(II)Z"⟩
abbrev cX1_let : ByteArray := prog_3_method_7_code
def yX1_let : MethodName := ⟨RX1, "let", "(LWaveRing$Plain;)Z"⟩
abbrev cX1_shownBy : ByteArray := prog_3_method_8_code
def yX1_shownBy : MethodName := ⟨RX1, "shownBy", "(LWaveRing$Plain;I)J"⟩
def RX2 : String := "WaveRing$Law"
def TX2 : u_T := fun k => match k with
  | 0 => ("WaveRing$Law", "code", "[I", true)
  | 1 => ("WaveRing$Law", "stack", "[I", true)
  | 2 => ("WaveRing$Law", "length", "I", false)
  | _ => ("WaveRing$Law", "units", "I", false)
def tyX2 : Nat → FieldType := fun k => match k with
  | 0 => .array .int
  | 1 => .array .int
  | 2 => .int
  | _ => .int
theorem nmX2 : ∀ a, a < 4 → ∀ b, b < 4 → a ≠ b → (TX2 a).2.1 ≠ (TX2 b).2.1 := by decide +kernel
theorem tyX2_ok : ∀ k, k < 4 → parseFieldDescriptor (TX2 k).2.2.1 = some (tyX2 k) := by decide +kernel
abbrev cX2_init : ByteArray := prog_4_method_1_code
def yX2_init : MethodName := ⟨RX2, "<init>", "()V"⟩
abbrev cX2_clear : ByteArray := prog_4_method_2_code
def yX2_clear : MethodName := ⟨RX2, "clear", "()V"⟩
abbrev cX2_add : ByteArray := prog_4_method_3_code
def yX2_add : MethodName := ⟨RX2, "add", "(I)V"⟩
abbrev cX2_addUnit : ByteArray := prog_4_method_4_code
def yX2_addUnit : MethodName := ⟨RX2, "addUnit", "(I)V"⟩
abbrev cX2_worth : ByteArray := prog_4_method_5_code
def yX2_worth : MethodName := ⟨RX2, "worth", "([I)I"⟩
abbrev cX2_lookedUp : ByteArray := prog_4_method_6_code
def yX2_lookedUp : MethodName := ⟨RX2, "lookedUp", "([II)I"⟩
abbrev cX2_joined : ByteArray := prog_4_method_7_code
def yX2_joined : MethodName := ⟨RX2, "joined", "(III)I"⟩
def RX3 : String := "WaveRing$Plain"
def TX3 : u_T := fun k => match k with
  | 0 => ("WaveRing$Plain", "ring", "LWaveRing$Ring;", false)
  | 1 => ("WaveRing$Plain", "looksLeft", "Z", false)
  | 2 => ("WaveRing$Plain", "looksRight", "Z", false)
  | 3 => ("WaveRing$Plain", "sight", "I", false)
  | 4 => ("WaveRing$Plain", "need", "I", false)
  | 5 => ("WaveRing$Plain", "up", "I", false)
  | 6 => ("WaveRing$Plain", "rest", "I", false)
  | 7 => ("WaveRing$Plain", "up1", "J", false)
  | 8 => ("WaveRing$Plain", "up2", "J", false)
  | 9 => ("WaveRing$Plain", "up3", "J", false)
  | 10 => ("WaveRing$Plain", "rest1", "J", false)
  | 11 => ("WaveRing$Plain", "rest2", "J", false)
  | _ => ("WaveRing$Plain", "rest3", "J", false)
def tyX3 : Nat → FieldType := fun k => match k with
  | 0 => .object "WaveRing$Ring"
  | 1 => .boolean
  | 2 => .boolean
  | 3 => .int
  | 4 => .int
  | 5 => .int
  | 6 => .int
  | 7 => .long
  | 8 => .long
  | 9 => .long
  | 10 => .long
  | 11 => .long
  | _ => .long
theorem nmX3 : ∀ a, a < 13 → ∀ b, b < 13 → a ≠ b → (TX3 a).2.1 ≠ (TX3 b).2.1 := by decide +kernel
theorem tyX3_ok : ∀ k, k < 13 → parseFieldDescriptor (TX3 k).2.2.1 = some (tyX3 k) := by decide +kernel
abbrev cX3_init : ByteArray := prog_5_method_1_code
def yX3_init : MethodName := ⟨RX3, "<init>", "(LWaveRing$Ring;)V"⟩
abbrev cX3_take : ByteArray := prog_5_method_2_code
def yX3_take : MethodName := ⟨RX3, "take", "(ILWaveRing$Ring;)V"⟩
abbrev cX3_begin : ByteArray := prog_5_method_3_code
def yX3_begin : MethodName := ⟨RX3, "begin", "(J)V"⟩
abbrev cX3_allUp : ByteArray := prog_5_method_4_code
def yX3_allUp : MethodName := ⟨RX3, "allUp", "()J"⟩
abbrev cX3_goOn : ByteArray := prog_5_method_5_code
def yX3_goOn : MethodName := ⟨RX3, "goOn", "()V"⟩
abbrev cX3_thoseWhoSee : ByteArray := prog_5_method_6_code
def yX3_thoseWhoSee : MethodName := ⟨RX3, "thoseWhoSee", "()J"⟩
def RX4 : String := "WaveRing$Reader"
def TX4 : u_T := fun k => match k with
  | 0 => ("WaveRing$Reader", "tape", "LWaveRing$Tape;", true)
  | 1 => ("WaveRing$Reader", "into", "LWaveRing$Ring;", false)
  | 2 => ("WaveRing$Reader", "seatsTold", "Z", false)
  | 3 => ("WaveRing$Reader", "placesTold", "Z", false)
  | 4 => ("WaveRing$Reader", "lawTold", "Z", false)
  | 5 => ("WaveRing$Reader", "kind", "I", false)
  | 6 => ("WaveRing$Reader", "tokenAt", "I", false)
  | 7 => ("WaveRing$Reader", "tokenEnd", "I", false)
  | 8 => ("WaveRing$Reader", "number", "I", false)
  | 9 => ("WaveRing$Reader", "fault", "I", false)
  | _ => ("WaveRing$Reader", "place", "I", false)
def tyX4 : Nat → FieldType := fun k => match k with
  | 0 => .object "WaveRing$Tape"
  | 1 => .object "WaveRing$Ring"
  | 2 => .boolean
  | 3 => .boolean
  | 4 => .boolean
  | 5 => .int
  | 6 => .int
  | 7 => .int
  | 8 => .int
  | 9 => .int
  | _ => .int
theorem nmX4 : ∀ a, a < 11 → ∀ b, b < 11 → a ≠ b → (TX4 a).2.1 ≠ (TX4 b).2.1 := by decide +kernel
theorem tyX4_ok : ∀ k, k < 11 → parseFieldDescriptor (TX4 k).2.2.1 = some (tyX4 k) := by decide +kernel
abbrev cX4_init : ByteArray := prog_6_method_1_code
def yX4_init : MethodName := ⟨RX4, "<init>", "(LWaveRing$Tape;LWaveRing$Ring;)V"⟩
abbrev cX4_readInto : ByteArray := prog_6_method_2_code
def yX4_readInto : MethodName := ⟨RX4, "readInto", "(LWaveRing$Ring;)Z"⟩
abbrev cX4_readLine : ByteArray := prog_6_method_3_code
def yX4_readLine : MethodName := ⟨RX4, "readLine", "()Z"⟩
abbrev cX4_readSeats : ByteArray := prog_6_method_4_code
def yX4_readSeats : MethodName := ⟨RX4, "readSeats", "()Z"⟩
abbrev cX4_readPlaces : ByteArray := prog_6_method_5_code
def yX4_readPlaces : MethodName := ⟨RX4, "readPlaces", "()Z"⟩
abbrev cX4_readSlack : ByteArray := prog_6_method_6_code
def yX4_readSlack : MethodName := ⟨RX4, "readSlack", "()Z"⟩
abbrev cX4_readLaw : ByteArray := prog_6_method_7_code
def yX4_readLaw : MethodName := ⟨RX4, "readLaw", "()Z"⟩
abbrev cX4_readEither : ByteArray := prog_6_method_8_code
def yX4_readEither : MethodName := ⟨RX4, "readEither", "(I)Z"⟩
abbrev cX4_readBoth : ByteArray := prog_6_method_9_code
def yX4_readBoth : MethodName := ⟨RX4, "readBoth", "(I)Z"⟩
abbrev cX4_readOne : ByteArray := prog_6_method_10_code
def yX4_readOne : MethodName := ⟨RX4, "readOne", "(I)Z"⟩
abbrev cX4_relationHere : ByteArray := prog_6_method_11_code
def yX4_relationHere : MethodName := ⟨RX4, "relationHere", "()I"⟩
abbrev cX4_readSum : ByteArray := prog_6_method_12_code
def yX4_readSum : MethodName := ⟨RX4, "readSum", "(I)Z"⟩
abbrev cX4_readTerm : ByteArray := prog_6_method_13_code
def yX4_readTerm : MethodName := ⟨RX4, "readTerm", "(I)Z"⟩
abbrev cX4_readUnit : ByteArray := prog_6_method_14_code
def yX4_readUnit : MethodName := ⟨RX4, "readUnit", "(I)Z"⟩
abbrev cX4_readNested : ByteArray := prog_6_method_15_code
def yX4_readNested : MethodName := ⟨RX4, "readNested", "(I)Z"⟩
abbrev cX4_lookHere : ByteArray := prog_6_method_16_code
def yX4_lookHere : MethodName := ⟨RX4, "lookHere", "()I"⟩
abbrev cX4_takeWord : ByteArray := prog_6_method_17_code
def yX4_takeWord : MethodName := ⟨RX4, "takeWord", "(Ljava/lang/String;)Z"⟩
abbrev cX4_takeSign : ByteArray := prog_6_method_18_code
def yX4_takeSign : MethodName := ⟨RX4, "takeSign", "(C)Z"⟩
abbrev cX4_takeNumber : ByteArray := prog_6_method_19_code
def yX4_takeNumber : MethodName := ⟨RX4, "takeNumber", "(II)Z"⟩
abbrev cX4_refuse : ByteArray := prog_6_method_20_code
def yX4_refuse : MethodName := ⟨RX4, "refuse", "()Z"⟩
abbrev cX4_isSign : ByteArray := prog_6_method_21_code
def yX4_isSign : MethodName := ⟨RX4, "isSign", "(C)Z"⟩
abbrev cX4_isWord : ByteArray := prog_6_method_22_code
def yX4_isWord : MethodName := ⟨RX4, "isWord", "(Ljava/lang/String;)Z"⟩
abbrev cX4_step : ByteArray := prog_6_method_23_code
def yX4_step : MethodName := ⟨RX4, "step", "()V"⟩
abbrev cX4_readWord : ByteArray := prog_6_method_24_code
def yX4_readWord : MethodName := ⟨RX4, "readWord", "()V"⟩
abbrev cX4_readNumber : ByteArray := prog_6_method_25_code
def yX4_readNumber : MethodName := ⟨RX4, "readNumber", "()V"⟩
abbrev cX4_isBlank : ByteArray := prog_6_method_26_code
def yX4_isBlank : MethodName := ⟨RX4, "isBlank", "(I)Z"⟩
abbrev cX4_isLetter : ByteArray := prog_6_method_27_code
def yX4_isLetter : MethodName := ⟨RX4, "isLetter", "(I)Z"⟩
abbrev cX4_isDigit : ByteArray := prog_6_method_28_code
def yX4_isDigit : MethodName := ⟨RX4, "isDigit", "(I)Z"⟩
abbrev cX4_isOneOfTheSigns : ByteArray := prog_6_method_29_code
def yX4_isOneOfTheSigns : MethodName := ⟨RX4, "isOneOfTheSigns", "(I)Z"⟩
def RX5 : String := "WaveRing$Ring"
def TX5 : u_T := fun k => match k with
  | 0 => ("WaveRing$Ring", "law", "LWaveRing$Law;", true)
  | 1 => ("WaveRing$Ring", "slackFrom", "[I", true)
  | 2 => ("WaveRing$Ring", "slackTo", "[I", true)
  | 3 => ("WaveRing$Ring", "slackBy", "[I", true)
  | 4 => ("WaveRing$Ring", "slacks", "I", false)
  | 5 => ("WaveRing$Ring", "seats", "I", false)
  | 6 => ("WaveRing$Ring", "gaps", "J", false)
  | 7 => ("WaveRing$Ring", "dear", "J", false)
  | 8 => ("WaveRing$Ring", "few", "J", false)
  | 9 => ("WaveRing$Ring", "up", "I", false)
  | 10 => ("WaveRing$Ring", "rest", "I", false)
  | 11 => ("WaveRing$Ring", "sees", "I", false)
  | _ => ("WaveRing$Ring", "shy", "I", false)
def tyX5 : Nat → FieldType := fun k => match k with
  | 0 => .object "WaveRing$Law"
  | 1 => .array .int
  | 2 => .array .int
  | 3 => .array .int
  | 4 => .int
  | 5 => .int
  | 6 => .long
  | 7 => .long
  | 8 => .long
  | 9 => .int
  | 10 => .int
  | 11 => .int
  | _ => .int
theorem nmX5 : ∀ a, a < 13 → ∀ b, b < 13 → a ≠ b → (TX5 a).2.1 ≠ (TX5 b).2.1 := by decide +kernel
theorem tyX5_ok : ∀ k, k < 13 → parseFieldDescriptor (TX5 k).2.2.1 = some (tyX5 k) := by decide +kernel
abbrev cX5_init : ByteArray := prog_7_method_1_code
def yX5_init : MethodName := ⟨RX5, "<init>", "()V"⟩
abbrev cX5_empty : ByteArray := prog_7_method_2_code
def yX5_empty : MethodName := ⟨RX5, "empty", "()V"⟩
abbrev cX5_has : ByteArray := prog_7_method_3_code
def yX5_has : MethodName := ⟨RX5, "has", "(I)Z"⟩
abbrev cX5_everySeat : ByteArray := prog_7_method_4_code
def yX5_everySeat : MethodName := ⟨RX5, "everySeat", "()J"⟩
abbrev cX5_seatsFrom : ByteArray := prog_7_method_5_code
def yX5_seatsFrom : MethodName := ⟨RX5, "seatsFrom", "(II)J"⟩
abbrev cX5_turned : ByteArray := prog_7_method_6_code
def yX5_turned : MethodName := ⟨RX5, "turned", "(JI)J"⟩
abbrev cX5_sightOf : ByteArray := prog_7_method_7_code
def yX5_sightOf : MethodName := ⟨RX5, "sightOf", "(I)I"⟩
abbrev cX5_addSlack : ByteArray := prog_7_method_8_code
def yX5_addSlack : MethodName := ⟨RX5, "addSlack", "(III)V"⟩
abbrev cX5_slackIn : ByteArray := prog_7_method_9_code
def yX5_slackIn : MethodName := ⟨RX5, "slackIn", "(I)I"⟩
abbrev cX5_widest : ByteArray := prog_7_method_10_code
def yX5_widest : MethodName := ⟨RX5, "widest", "(J)I"⟩
abbrev cX5_stretches : ByteArray := prog_7_method_11_code
def yX5_stretches : MethodName := ⟨RX5, "stretches", "(J)I"⟩
def RX6 : String := "WaveRing$Tape"
def TX6 : u_T := fun k => match k with
  | 0 => ("WaveRing$Tape", "bytes", "[B", true)
  | _ => ("WaveRing$Tape", "length", "I", false)
def tyX6 : Nat → FieldType := fun k => match k with
  | 0 => .array .byte
  | _ => .int
theorem nmX6 : ∀ a, a < 2 → ∀ b, b < 2 → a ≠ b → (TX6 a).2.1 ≠ (TX6 b).2.1 := by decide +kernel
theorem tyX6_ok : ∀ k, k < 2 → parseFieldDescriptor (TX6 k).2.2.1 = some (tyX6 k) := by decide +kernel
abbrev cX6_init : ByteArray := prog_8_method_1_code
def yX6_init : MethodName := ⟨RX6, "<init>", "()V"⟩
abbrev cX6_add : ByteArray := prog_8_method_2_code
def yX6_add : MethodName := ⟨RX6, "add", "(I)V"⟩
abbrev cX6_at : ByteArray := prog_8_method_3_code
def yX6_at : MethodName := ⟨RX6, "at", "(I)I"⟩
def RX7 : String := "WaveRing"
def TX7 : u_T := fun k => match k with
  | 0 => ("WaveRing", "tape", "LWaveRing$Tape;", true)
  | 1 => ("WaveRing", "told", "LWaveRing$Ring;", false)
  | 2 => ("WaveRing", "spare", "LWaveRing$Ring;", false)
  | 3 => ("WaveRing", "reader", "LWaveRing$Reader;", true)
  | 4 => ("WaveRing", "crowd", "LWaveRing$Crowd;", true)
  | 5 => ("WaveRing", "dream", "LWaveRing$Crowd;", true)
  | 6 => ("WaveRing", "boxes", "[LWaveRing$Crowd;", true)
  | 7 => ("WaveRing", "kept", "[Z", true)
  | 8 => ("WaveRing", "films", "LWaveRing$Films;", true)
  | 9 => ("WaveRing", "plain", "LWaveRing$Plain;", true)
  | 10 => ("WaveRing", "otherPlain", "LWaveRing$Plain;", true)
  | _ => ("WaveRing", "chances", "[J", true)
def tyX7 : Nat → FieldType := fun k => match k with
  | 0 => .object "WaveRing$Tape"
  | 1 => .object "WaveRing$Ring"
  | 2 => .object "WaveRing$Ring"
  | 3 => .object "WaveRing$Reader"
  | 4 => .object "WaveRing$Crowd"
  | 5 => .object "WaveRing$Crowd"
  | 6 => .array (.object "WaveRing$Crowd")
  | 7 => .array .boolean
  | 8 => .object "WaveRing$Films"
  | 9 => .object "WaveRing$Plain"
  | 10 => .object "WaveRing$Plain"
  | _ => .array .long
theorem nmX7 : ∀ a, a < 12 → ∀ b, b < 12 → a ≠ b → (TX7 a).2.1 ≠ (TX7 b).2.1 := by decide +kernel
theorem tyX7_ok : ∀ k, k < 12 → parseFieldDescriptor (TX7 k).2.2.1 = some (tyX7 k) := by decide +kernel
abbrev cX7_init : ByteArray := prog_1_method_1_code
def yX7_init : MethodName := ⟨RX7, "<init>", "()V"⟩
abbrev cX7_feed : ByteArray := prog_1_method_2_code
def yX7_feed : MethodName := ⟨RX7, "feed", "(IIIII)I"⟩
abbrev cX7_end : ByteArray := prog_1_method_3_code
def yX7_end : MethodName := ⟨RX7, "end", "(I)I"⟩
abbrev cX7_ring : ByteArray := prog_1_method_4_code
def yX7_ring : MethodName := ⟨RX7, "ring", "()I"⟩
abbrev cX7_fault : ByteArray := prog_1_method_5_code
def yX7_fault : MethodName := ⟨RX7, "fault", "(I)I"⟩
abbrev cX7_tryNow : ByteArray := prog_1_method_6_code
def yX7_tryNow : MethodName := ⟨RX7, "tryNow", "()I"⟩
abbrev cX7_run : ByteArray := prog_1_method_7_code
def yX7_run : MethodName := ⟨RX7, "run", "(I)I"⟩
abbrev cX7_seat : ByteArray := prog_1_method_8_code
def yX7_seat : MethodName := ⟨RX7, "seat", "(II)I"⟩
abbrev cX7_would : ByteArray := prog_1_method_9_code
def yX7_would : MethodName := ⟨RX7, "would", "()I"⟩
abbrev cX7_way : ByteArray := prog_1_method_10_code
def yX7_way : MethodName := ⟨RX7, "way", "(I)I"⟩
abbrev cX7_wide : ByteArray := prog_1_method_11_code
def yX7_wide : MethodName := ⟨RX7, "wide", "()I"⟩
abbrev cX7_waves : ByteArray := prog_1_method_12_code
def yX7_waves : MethodName := ⟨RX7, "waves", "()I"⟩
abbrev cX7_till : ByteArray := prog_1_method_13_code
def yX7_till : MethodName := ⟨RX7, "till", "(II)I"⟩
abbrev cX7_dies : ByteArray := prog_1_method_14_code
def yX7_dies : MethodName := ⟨RX7, "dies", "()I"⟩
abbrev cX7_lives : ByteArray := prog_1_method_15_code
def yX7_lives : MethodName := ⟨RX7, "lives", "(II)I"⟩
abbrev cX7_fewest : ByteArray := prog_1_method_16_code
def yX7_fewest : MethodName := ⟨RX7, "fewest", "(I)I"⟩
abbrev cX7_best : ByteArray := prog_1_method_17_code
def yX7_best : MethodName := ⟨RX7, "best", "(II)I"⟩
abbrev cX7_jumps : ByteArray := prog_1_method_18_code
def yX7_jumps : MethodName := ⟨RX7, "jumps", "(III)I"⟩
abbrev cX7_meet : ByteArray := prog_1_method_19_code
def yX7_meet : MethodName := ⟨RX7, "meet", "(III)I"⟩
abbrev cX7_odds : ByteArray := prog_1_method_20_code
def yX7_odds : MethodName := ⟨RX7, "odds", "(II)J"⟩
abbrev cX7_film : ByteArray := prog_1_method_21_code
def yX7_film : MethodName := ⟨RX7, "film", "(IJ)I"⟩
abbrev cX7_untell : ByteArray := prog_1_method_22_code
def yX7_untell : MethodName := ⟨RX7, "untell", "(I)Z"⟩
abbrev cX7_later : ByteArray := prog_1_method_23_code
def yX7_later : MethodName := ⟨RX7, "later", "(I)I"⟩
abbrev cX7_fits : ByteArray := prog_1_method_24_code
def yX7_fits : MethodName := ⟨RX7, "fits", "(I)I"⟩
abbrev cX7_fit : ByteArray := prog_1_method_25_code
def yX7_fit : MethodName := ⟨RX7, "fit", "(II)I"⟩
abbrev cX7_sure : ByteArray := prog_1_method_26_code
def yX7_sure : MethodName := ⟨RX7, "sure", "(III)I"⟩
abbrev cX7_same : ByteArray := prog_1_method_27_code
def yX7_same : MethodName := ⟨RX7, "same", "(II)I"⟩
abbrev cX7_image : ByteArray := prog_1_method_28_code
def yX7_image : MethodName := ⟨RX7, "image", "(I)I"⟩
abbrev cX7_back : ByteArray := prog_1_method_29_code
def yX7_back : MethodName := ⟨RX7, "back", "(I)I"⟩
abbrev cX7_seed : ByteArray := prog_1_method_30_code
def yX7_seed : MethodName := ⟨RX7, "seed", "(I)I"⟩
abbrev cX7_about : ByteArray := prog_1_method_31_code
def yX7_about : MethodName := ⟨RX7, "about", "(I)I"⟩
abbrev cX7_isBox : ByteArray := prog_1_method_32_code
def yX7_isBox : MethodName := ⟨RX7, "isBox", "(I)Z"⟩
abbrev cX7_canTry : ByteArray := prog_1_method_33_code
def yX7_canTry : MethodName := ⟨RX7, "canTry", "(I)Z"⟩
abbrev cX7_lifeOf : ByteArray := prog_1_method_34_code
def yX7_lifeOf : MethodName := ⟨RX7, "lifeOf", "(JJ)I"⟩
abbrev cX7_chancesOfAtLeast : ByteArray := prog_1_method_35_code
def yX7_chancesOfAtLeast : MethodName := ⟨RX7, "chancesOfAtLeast", "(II)J"⟩
abbrev cX7_greatestDivisor : ByteArray := prog_1_method_36_code
def yX7_greatestDivisor : MethodName := ⟨RX7, "greatestDivisor", "(JJ)J"⟩
abbrev cX7_letByFilms : ByteArray := prog_1_method_37_code
def yX7_letByFilms : MethodName := ⟨RX7, "letByFilms", "(I)Z"⟩
abbrev cX7_goAlike : ByteArray := prog_1_method_38_code
def yX7_goAlike : MethodName := ⟨RX7, "goAlike", "(J)Z"⟩
abbrev cX7_holds : ByteArray := prog_1_method_39_code
def yX7_holds : MethodName := ⟨RX7, "holds", "(JI)Z"⟩
abbrev cX7_oneIf : ByteArray := prog_1_method_40_code
def yX7_oneIf : MethodName := ⟨RX7, "oneIf", "(Z)I"⟩
def RX8 : String := "WaveRingModel"
def TX8 : u_T := fun k => match k with
  | 0 => ("WaveRingModel", "tape", "[I", true)
  | 1 => ("WaveRingModel", "taped", "I", false)
  | 2 => ("WaveRingModel", "fault", "I", false)
  | 3 => ("WaveRingModel", "faultPlace", "I", false)
  | 4 => ("WaveRingModel", "at", "I", false)
  | 5 => ("WaveRingModel", "size", "I", false)
  | 6 => ("WaveRingModel", "sort", "I", false)
  | 7 => ("WaveRingModel", "place", "I", false)
  | 8 => ("WaveRingModel", "number", "I", false)
  | 9 => ("WaveRingModel", "word", "J", false)
  | 10 => ("WaveRingModel", "nDear", "[Z", true)
  | 11 => ("WaveRingModel", "nGap", "[Z", true)
  | 12 => ("WaveRingModel", "nFew", "[Z", true)
  | 13 => ("WaveRingModel", "dear", "[Z", true)
  | 14 => ("WaveRingModel", "gap", "[Z", true)
  | 15 => ("WaveRingModel", "few", "[Z", true)
  | 16 => ("WaveRingModel", "nFrom", "[I", true)
  | 17 => ("WaveRingModel", "nTo", "[I", true)
  | 18 => ("WaveRingModel", "nBy", "[I", true)
  | 19 => ("WaveRingModel", "from", "[I", true)
  | 20 => ("WaveRingModel", "to", "[I", true)
  | 21 => ("WaveRingModel", "by", "[I", true)
  | 22 => ("WaveRingModel", "nSeats", "I", false)
  | 23 => ("WaveRingModel", "nSlacks", "I", false)
  | 24 => ("WaveRingModel", "nUp", "I", false)
  | 25 => ("WaveRingModel", "nRest", "I", false)
  | 26 => ("WaveRingModel", "nSees", "I", false)
  | 27 => ("WaveRingModel", "nShy", "I", false)
  | 28 => ("WaveRingModel", "seats", "I", false)
  | 29 => ("WaveRingModel", "slacks", "I", false)
  | 30 => ("WaveRingModel", "up", "I", false)
  | 31 => ("WaveRingModel", "rest", "I", false)
  | 32 => ("WaveRingModel", "sees", "I", false)
  | 33 => ("WaveRingModel", "shy", "I", false)
  | 34 => ("WaveRingModel", "hasSeats", "Z", false)
  | 35 => ("WaveRingModel", "hasRows", "Z", false)
  | 36 => ("WaveRingModel", "hasLaw", "Z", false)
  | 37 => ("WaveRingModel", "nWhat", "[I", true)
  | 38 => ("WaveRingModel", "nNumber", "[I", true)
  | 39 => ("WaveRingModel", "whats", "[I", true)
  | 40 => ("WaveRingModel", "numbers", "[I", true)
  | 41 => ("WaveRingModel", "waits", "[I", true)
  | 42 => ("WaveRingModel", "pile", "[I", true)
  | 43 => ("WaveRingModel", "nNotes", "I", false)
  | 44 => ("WaveRingModel", "notes", "I", false)
  | 45 => ("WaveRingModel", "nUnits", "I", false)
  | 46 => ("WaveRingModel", "units", "I", false)
  | 47 => ("WaveRingModel", "waiting", "I", false)
  | 48 => ("WaveRingModel", "deep", "I", false)
  | 49 => ("WaveRingModel", "state", "[I", true)
  | 50 => ("WaveRingModel", "rose", "[I", true)
  | 51 => ("WaveRingModel", "then", "[I", true)
  | 52 => ("WaveRingModel", "oldState", "[I", true)
  | 53 => ("WaveRingModel", "oldRose", "[I", true)
  | 54 => ("WaveRingModel", "ways", "[I", true)
  | 55 => ("WaveRingModel", "oldWays", "[I", true)
  | 56 => ("WaveRingModel", "isMore", "[Z", true)
  | 57 => ("WaveRingModel", "tenths", "I", false)
  | 58 => ("WaveRingModel", "asked", "I", false)
  | 59 => ("WaveRingModel", "w", "I", false)
  | 60 => ("WaveRingModel", "oldTenths", "I", false)
  | 61 => ("WaveRingModel", "oldAsked", "I", false)
  | 62 => ("WaveRingModel", "fMoment", "[I", true)
  | 63 => ("WaveRingModel", "fTold", "[I", true)
  | 64 => ("WaveRingModel", "fUntold", "[I", true)
  | 65 => ("WaveRingModel", "fUps", "[J", true)
  | 66 => ("WaveRingModel", "filmAt", "[J", true)
  | 67 => ("WaveRingModel", "hasFilm", "[Z", true)
  | 68 => ("WaveRingModel", "isFit", "[Z", true)
  | 69 => ("WaveRingModel", "films", "I", false)
  | 70 => ("WaveRingModel", "time", "I", false)
  | 71 => ("WaveRingModel", "firstFilm", "I", false)
  | 72 => ("WaveRingModel", "plain", "[I", true)
  | 73 => ("WaveRingModel", "next", "[I", true)
  | 74 => ("WaveRingModel", "own", "[I", true)
  | 75 => ("WaveRingModel", "hasBox", "[Z", true)
  | 76 => ("WaveRingModel", "boxState", "[I", true)
  | 77 => ("WaveRingModel", "boxRose", "[I", true)
  | 78 => ("WaveRingModel", "boxWays", "[I", true)
  | 79 => ("WaveRingModel", "boxTenths", "[I", true)
  | 80 => ("WaveRingModel", "boxAsked", "[I", true)
  | _ => ("WaveRingModel", "boxW", "[I", true)
def tyX8 : Nat → FieldType := fun k => match k with
  | 0 => .array .int
  | 1 => .int
  | 2 => .int
  | 3 => .int
  | 4 => .int
  | 5 => .int
  | 6 => .int
  | 7 => .int
  | 8 => .int
  | 9 => .long
  | 10 => .array .boolean
  | 11 => .array .boolean
  | 12 => .array .boolean
  | 13 => .array .boolean
  | 14 => .array .boolean
  | 15 => .array .boolean
  | 16 => .array .int
  | 17 => .array .int
  | 18 => .array .int
  | 19 => .array .int
  | 20 => .array .int
  | 21 => .array .int
  | 22 => .int
  | 23 => .int
  | 24 => .int
  | 25 => .int
  | 26 => .int
  | 27 => .int
  | 28 => .int
  | 29 => .int
  | 30 => .int
  | 31 => .int
  | 32 => .int
  | 33 => .int
  | 34 => .boolean
  | 35 => .boolean
  | 36 => .boolean
  | 37 => .array .int
  | 38 => .array .int
  | 39 => .array .int
  | 40 => .array .int
  | 41 => .array .int
  | 42 => .array .int
  | 43 => .int
  | 44 => .int
  | 45 => .int
  | 46 => .int
  | 47 => .int
  | 48 => .int
  | 49 => .array .int
  | 50 => .array .int
  | 51 => .array .int
  | 52 => .array .int
  | 53 => .array .int
  | 54 => .array .int
  | 55 => .array .int
  | 56 => .array .boolean
  | 57 => .int
  | 58 => .int
  | 59 => .int
  | 60 => .int
  | 61 => .int
  | 62 => .array .int
  | 63 => .array .int
  | 64 => .array .int
  | 65 => .array .long
  | 66 => .array .long
  | 67 => .array .boolean
  | 68 => .array .boolean
  | 69 => .int
  | 70 => .int
  | 71 => .int
  | 72 => .array .int
  | 73 => .array .int
  | 74 => .array .int
  | 75 => .array .boolean
  | 76 => .array .int
  | 77 => .array .int
  | 78 => .array .int
  | 79 => .array .int
  | 80 => .array .int
  | _ => .array .int
theorem nmX8 : ∀ a, a < 82 → ∀ b, b < 82 → a ≠ b → (TX8 a).2.1 ≠ (TX8 b).2.1 := by decide +kernel
theorem tyX8_ok : ∀ k, k < 82 → parseFieldDescriptor (TX8 k).2.2.1 = some (tyX8 k) := by decide +kernel
abbrev cX8_init : ByteArray := prog_10_method_1_code
def yX8_init : MethodName := ⟨RX8, "<init>", "()V"⟩
abbrev cX8_feed : ByteArray := prog_10_method_2_code
def yX8_feed : MethodName := ⟨RX8, "feed", "(IIIII)I"⟩
abbrev cX8_four : ByteArray := prog_10_method_3_code
def yX8_four : MethodName := ⟨RX8, "four", "(I)V"⟩
abbrev cX8_end : ByteArray := prog_10_method_4_code
def yX8_end : MethodName := ⟨RX8, "end", "(I)I"⟩
abbrev cX8_here : ByteArray := prog_10_method_5_code
def yX8_here : MethodName := ⟨RX8, "here", "(I)I"⟩
abbrev cX8_isLetter : ByteArray := prog_10_method_6_code
def yX8_isLetter : MethodName := ⟨RX8, "isLetter", "(I)Z"⟩
abbrev cX8_isDigit : ByteArray := prog_10_method_7_code
def yX8_isDigit : MethodName := ⟨RX8, "isDigit", "(I)Z"⟩
abbrev cX8_isSign : ByteArray := prog_10_method_8_code
def yX8_isSign : MethodName := ⟨RX8, "isSign", "(I)Z"⟩
abbrev cX8_token : ByteArray := prog_10_method_9_code
def yX8_token : MethodName := ⟨RX8, "token", "()V"⟩
abbrev cX8_wrong : ByteArray := prog_10_method_10_code
def yX8_wrong : MethodName := ⟨RX8, "wrong", "(I)V"⟩
abbrev cX8_isWord : ByteArray := prog_10_method_11_code
def yX8_isWord : MethodName := ⟨RX8, "isWord", "(J)Z"⟩
abbrev cX8_want : ByteArray := prog_10_method_12_code
def yX8_want : MethodName := ⟨RX8, "want", "(J)V"⟩
abbrev cX8_toldNumber : ByteArray := prog_10_method_13_code
def yX8_toldNumber : MethodName := ⟨RX8, "toldNumber", "(II)I"⟩
abbrev cX8_told : ByteArray := prog_10_method_14_code
def yX8_told : MethodName := ⟨RX8, "told", "(JII)I"⟩
abbrev cX8_note : ByteArray := prog_10_method_15_code
def yX8_note : MethodName := ⟨RX8, "note", "(II)V"⟩
abbrev cX8_upper : ByteArray := prog_10_method_16_code
def yX8_upper : MethodName := ⟨RX8, "upper", "()I"⟩
abbrev cX8_hold : ByteArray := prog_10_method_17_code
def yX8_hold : MethodName := ⟨RX8, "hold", "(I)V"⟩
abbrev cX8_pop : ByteArray := prog_10_method_18_code
def yX8_pop : MethodName := ⟨RX8, "pop", "()V"⟩
abbrev cX8_settle : ByteArray := prog_10_method_19_code
def yX8_settle : MethodName := ⟨RX8, "settle", "(I)V"⟩
abbrev cX8_isOpen : ByteArray := prog_10_method_20_code
def yX8_isOpen : MethodName := ⟨RX8, "isOpen", "()Z"⟩
abbrev cX8_rank : ByteArray := prog_10_method_21_code
def yX8_rank : MethodName := ⟨RX8, "rank", "(I)I"⟩
abbrev cX8_known : ByteArray := prog_10_method_22_code
def yX8_known : MethodName := ⟨RX8, "known", "()I"⟩
abbrev cX8_operand : ByteArray := prog_10_method_23_code
def yX8_operand : MethodName := ⟨RX8, "operand", "(I)I"⟩
abbrev cX8_sign : ByteArray := prog_10_method_24_code
def yX8_sign : MethodName := ⟨RX8, "sign", "()I"⟩
abbrev cX8_readLaw : ByteArray := prog_10_method_25_code
def yX8_readLaw : MethodName := ⟨RX8, "readLaw", "()V"⟩
abbrev cX8_readSeats : ByteArray := prog_10_method_26_code
def yX8_readSeats : MethodName := ⟨RX8, "readSeats", "()V"⟩
abbrev cX8_readSlack : ByteArray := prog_10_method_27_code
def yX8_readSlack : MethodName := ⟨RX8, "readSlack", "()V"⟩
abbrev cX8_readRow : ByteArray := prog_10_method_28_code
def yX8_readRow : MethodName := ⟨RX8, "readRow", "()V"⟩
abbrev cX8_readLine : ByteArray := prog_10_method_29_code
def yX8_readLine : MethodName := ⟨RX8, "readLine", "()V"⟩
abbrev cX8_plainLaw : ByteArray := prog_10_method_30_code
def yX8_plainLaw : MethodName := ⟨RX8, "plainLaw", "()V"⟩
abbrev cX8_ring : ByteArray := prog_10_method_31_code
def yX8_ring : MethodName := ⟨RX8, "ring", "()I"⟩
abbrev cX8_fault : ByteArray := prog_10_method_32_code
def yX8_fault : MethodName := ⟨RX8, "fault", "(I)I"⟩
abbrev cX8_freshen : ByteArray := prog_10_method_33_code
def yX8_freshen : MethodName := ⟨RX8, "freshen", "()V"⟩
abbrev cX8_put : ByteArray := prog_10_method_34_code
def yX8_put : MethodName := ⟨RX8, "put", "()V"⟩
abbrev cX8_bring : ByteArray := prog_10_method_35_code
def yX8_bring : MethodName := ⟨RX8, "bring", "()V"⟩
abbrev cX8_isUp : ByteArray := prog_10_method_36_code
def yX8_isUp : MethodName := ⟨RX8, "isUp", "(I)Z"⟩
abbrev cX8_ups : ByteArray := prog_10_method_37_code
def yX8_ups : MethodName := ⟨RX8, "ups", "()I"⟩
abbrev cX8_wrap : ByteArray := prog_10_method_38_code
def yX8_wrap : MethodName := ⟨RX8, "wrap", "(I)I"⟩
abbrev cX8_seen : ByteArray := prog_10_method_39_code
def yX8_seen : MethodName := ⟨RX8, "seen", "([IIII)I"⟩
abbrev cX8_slackNow : ByteArray := prog_10_method_40_code
def yX8_slackNow : MethodName := ⟨RX8, "slackNow", "()I"⟩
abbrev cX8_worked : ByteArray := prog_10_method_41_code
def yX8_worked : MethodName := ⟨RX8, "worked", "(III)I"⟩
abbrev cX8_askedOf : ByteArray := prog_10_method_42_code
def yX8_askedOf : MethodName := ⟨RX8, "askedOf", "(III)I"⟩
abbrev cX8_wants : ByteArray := prog_10_method_43_code
def yX8_wants : MethodName := ⟨RX8, "wants", "(II)Z"⟩
abbrev cX8_draw : ByteArray := prog_10_method_44_code
def yX8_draw : MethodName := ⟨RX8, "draw", "(I)I"⟩
abbrev cX8_behind : ByteArray := prog_10_method_45_code
def yX8_behind : MethodName := ⟨RX8, "behind", "(III)I"⟩
abbrev cX8_step : ByteArray := prog_10_method_46_code
def yX8_step : MethodName := ⟨RX8, "step", "(Z)I"⟩
abbrev cX8_tries : ByteArray := prog_10_method_47_code
def yX8_tries : MethodName := ⟨RX8, "tries", "(I)Z"⟩
abbrev cX8_tryNow : ByteArray := prog_10_method_48_code
def yX8_tryNow : MethodName := ⟨RX8, "tryNow", "()I"⟩
abbrev cX8_run : ByteArray := prog_10_method_49_code
def yX8_run : MethodName := ⟨RX8, "run", "(I)I"⟩
abbrev cX8_isSeat : ByteArray := prog_10_method_50_code
def yX8_isSeat : MethodName := ⟨RX8, "isSeat", "(I)Z"⟩
abbrev cX8_seat : ByteArray := prog_10_method_51_code
def yX8_seat : MethodName := ⟨RX8, "seat", "(II)I"⟩
abbrev cX8_wouldRise : ByteArray := prog_10_method_52_code
def yX8_wouldRise : MethodName := ⟨RX8, "wouldRise", "()I"⟩
abbrev cX8_would : ByteArray := prog_10_method_53_code
def yX8_would : MethodName := ⟨RX8, "would", "()I"⟩
abbrev cX8_way : ByteArray := prog_10_method_54_code
def yX8_way : MethodName := ⟨RX8, "way", "(I)I"⟩
abbrev cX8_wide : ByteArray := prog_10_method_55_code
def yX8_wide : MethodName := ⟨RX8, "wide", "()I"⟩
abbrev cX8_waveMany : ByteArray := prog_10_method_56_code
def yX8_waveMany : MethodName := ⟨RX8, "waveMany", "()I"⟩
abbrev cX8_waves : ByteArray := prog_10_method_57_code
def yX8_waves : MethodName := ⟨RX8, "waves", "()I"⟩
abbrev cX8_till : ByteArray := prog_10_method_58_code
def yX8_till : MethodName := ⟨RX8, "till", "(II)I"⟩
abbrev cX8_dies : ByteArray := prog_10_method_59_code
def yX8_dies : MethodName := ⟨RX8, "dies", "()I"⟩
abbrev cX8_start : ByteArray := prog_10_method_60_code
def yX8_start : MethodName := ⟨RX8, "start", "(II)V"⟩
abbrev cX8_life : ByteArray := prog_10_method_61_code
def yX8_life : MethodName := ⟨RX8, "life", "()I"⟩
abbrev cX8_livesBy : ByteArray := prog_10_method_62_code
def yX8_livesBy : MethodName := ⟨RX8, "livesBy", "(IIII)I"⟩
abbrev cX8_isMany : ByteArray := prog_10_method_63_code
def yX8_isMany : MethodName := ⟨RX8, "isMany", "(I)Z"⟩
abbrev cX8_lives : ByteArray := prog_10_method_64_code
def yX8_lives : MethodName := ⟨RX8, "lives", "(II)I"⟩
abbrev cX8_fewest : ByteArray := prog_10_method_65_code
def yX8_fewest : MethodName := ⟨RX8, "fewest", "(I)I"⟩
abbrev cX8_best : ByteArray := prog_10_method_66_code
def yX8_best : MethodName := ⟨RX8, "best", "(II)I"⟩
abbrev cX8_jumps : ByteArray := prog_10_method_67_code
def yX8_jumps : MethodName := ⟨RX8, "jumps", "(III)I"⟩
abbrev cX8_meet : ByteArray := prog_10_method_68_code
def yX8_meet : MethodName := ⟨RX8, "meet", "(III)I"⟩
abbrev cX8_common : ByteArray := prog_10_method_69_code
def yX8_common : MethodName := ⟨RX8, "common", "(JJ)J"⟩
abbrev cX8_odds : ByteArray := prog_10_method_70_code
def yX8_odds : MethodName := ⟨RX8, "odds", "(II)J"⟩
abbrev cX8_film : ByteArray := prog_10_method_71_code
def yX8_film : MethodName := ⟨RX8, "film", "(IJ)I"⟩
abbrev cX8_untell : ByteArray := prog_10_method_72_code
def yX8_untell : MethodName := ⟨RX8, "untell", "(I)Z"⟩
abbrev cX8_later : ByteArray := prog_10_method_73_code
def yX8_later : MethodName := ⟨RX8, "later", "(I)I"⟩
abbrev cX8_layOut : ByteArray := prog_10_method_74_code
def yX8_layOut : MethodName := ⟨RX8, "layOut", "(I)Z"⟩
abbrev cX8_startPlain : ByteArray := prog_10_method_75_code
def yX8_startPlain : MethodName := ⟨RX8, "startPlain", "(IJ)V"⟩
abbrev cX8_stepPlain : ByteArray := prog_10_method_76_code
def yX8_stepPlain : MethodName := ⟨RX8, "stepPlain", "(II)V"⟩
abbrev cX8_upsOf : ByteArray := prog_10_method_77_code
def yX8_upsOf : MethodName := ⟨RX8, "upsOf", "(I)J"⟩
abbrev cX8_fitsAll : ByteArray := prog_10_method_78_code
def yX8_fitsAll : MethodName := ⟨RX8, "fitsAll", "(I)Z"⟩
abbrev cX8_seekFits : ByteArray := prog_10_method_79_code
def yX8_seekFits : MethodName := ⟨RX8, "seekFits", "(I)I"⟩
abbrev cX8_fits : ByteArray := prog_10_method_80_code
def yX8_fits : MethodName := ⟨RX8, "fits", "(I)I"⟩
abbrev cX8_fit : ByteArray := prog_10_method_81_code
def yX8_fit : MethodName := ⟨RX8, "fit", "(II)I"⟩
abbrev cX8_sure : ByteArray := prog_10_method_82_code
def yX8_sure : MethodName := ⟨RX8, "sure", "(III)I"⟩
abbrev cX8_isLaw : ByteArray := prog_10_method_83_code
def yX8_isLaw : MethodName := ⟨RX8, "isLaw", "(I)Z"⟩
abbrev cX8_same : ByteArray := prog_10_method_84_code
def yX8_same : MethodName := ⟨RX8, "same", "(II)I"⟩
abbrev cX8_isBox : ByteArray := prog_10_method_85_code
def yX8_isBox : MethodName := ⟨RX8, "isBox", "(I)Z"⟩
abbrev cX8_image : ByteArray := prog_10_method_86_code
def yX8_image : MethodName := ⟨RX8, "image", "(I)I"⟩
abbrev cX8_back : ByteArray := prog_10_method_87_code
def yX8_back : MethodName := ⟨RX8, "back", "(I)I"⟩
abbrev cX8_seed : ByteArray := prog_10_method_88_code
def yX8_seed : MethodName := ⟨RX8, "seed", "(I)I"⟩
abbrev cX8_about : ByteArray := prog_10_method_89_code
def yX8_about : MethodName := ⟨RX8, "about", "(I)I"⟩
def RJ13 : String := "java/lang/Long"
abbrev cJ13_bitCount_95d88 : ByteArray := prog_11_method_50_code
def yJ13_bitCount_95d88 : MethodName := ⟨RJ13, "bitCount", "(J)I"⟩
def RJ9 : String := "java/lang/Math"
abbrev cJ9_min_7cf53 : ByteArray := prog_12_method_69_code
def yJ9_min_7cf53 : MethodName := ⟨RJ9, "min", "(II)I"⟩
def RJ0 : String := "java/lang/String"
abbrev cJ0_length_8abf5 : ByteArray := prog_13_method_54_code
def yJ0_length_8abf5 : MethodName := ⟨RJ0, "length", "()I"⟩
abbrev cJ0_charAt_5068e : ByteArray := prog_13_method_56_code
def yJ0_charAt_5068e : MethodName := ⟨RJ0, "charAt", "(I)C"⟩
abbrev cJ0_coder_7d493 : ByteArray := prog_13_method_152_code
def yJ0_coder_7d493 : MethodName := ⟨RJ0, "coder", "()B"⟩
abbrev cJ0_isLatin1_aae02 : ByteArray := prog_13_method_154_code
def yJ0_isLatin1_aae02 : MethodName := ⟨RJ0, "isLatin1", "()Z"⟩
abbrev cJ0_checkIndex_df160 : ByteArray := prog_13_method_155_code
def yJ0_checkIndex_df160 : MethodName := ⟨RJ0, "checkIndex", "(II)V"⟩
def RJ1 : String := "java/lang/StringLatin1"
abbrev cJ1_charAt_3b067 : ByteArray := prog_14_method_2_code
def yJ1_charAt_3b067 : MethodName := ⟨RJ1, "charAt", "([BI)C"⟩
def RJ2 : String := "java/lang/StringUTF16"
abbrev cJ2_getChar_3b067 : ByteArray := prog_15_method_5_code
def yJ2_getChar_3b067 : MethodName := ⟨RJ2, "getChar", "([BI)C"⟩
abbrev cJ2_length_9d52b : ByteArray := prog_15_method_6_code
def yJ2_length_9d52b : MethodName := ⟨RJ2, "length", "([B)I"⟩
abbrev cJ2_charAt_3b067 : ByteArray := prog_15_method_83_code
def yJ2_charAt_3b067 : MethodName := ⟨RJ2, "charAt", "([BI)C"⟩
abbrev cJ2_checkIndex_2214a : ByteArray := prog_15_method_91_code
def yJ2_checkIndex_2214a : MethodName := ⟨RJ2, "checkIndex", "(I[B)V"⟩
def RJ3 : String := "jdk/internal/util/Preconditions"
abbrev cJ3_checkIndex_8e157 : ByteArray := prog_16_method_11_code
def yJ3_checkIndex_8e157 : MethodName := ⟨RJ3, "checkIndex", "(IILjava/util/function/BiFunction;)I"⟩
def RL : String := "WaveRingLaw"
abbrev cL_law : ByteArray := code
def yL_law : MethodName := ⟨RL, "law", "([I)Z"⟩
abbrev vwCl : List vw_C := [(RX0, TX0, 9), (RX1, TX1, 10), (RX2, TX2, 4), (RX3, TX3, 13), (RX4, TX4, 11), (RX5, TX5, 13), (RX6, TX6, 2), (RX7, TX7, 12), (RX8, TX8, 82)]
end
section
theorem dX0_init_0 : decode cX0_init 0 = .ok (.aload_n 0, 1) := by decide +kernel
theorem dX0_init_1 : decode cX0_init 1 = .ok (.invokespecial 3, 3) := by decide +kernel
theorem dX0_init_4 : decode cX0_init 4 = .ok (.aload_n 0, 1) := by decide +kernel
theorem dX0_init_5 : decode cX0_init 5 = .ok (.bipush 40, 2) := by decide +kernel
theorem dX0_init_7 : decode cX0_init 7 = .ok (.newarray .int, 2) := by decide +kernel
theorem dX0_init_9 : decode cX0_init 9 = .ok (.putfield 9, 3) := by decide +kernel
theorem dX0_init_12 : decode cX0_init 12 = .ok (.aload_n 0, 1) := by decide +kernel
theorem dX0_init_13 : decode cX0_init 13 = .ok (.bipush 40, 2) := by decide +kernel
theorem dX0_init_15 : decode cX0_init 15 = .ok (.newarray .int, 2) := by decide +kernel
theorem dX0_init_17 : decode cX0_init 17 = .ok (.putfield 15, 3) := by decide +kernel
theorem dX0_init_20 : decode cX0_init 20 = .ok (.aload_n 0, 1) := by decide +kernel
theorem dX0_init_21 : decode cX0_init 21 = .ok (.iconst 3, 1) := by decide +kernel
theorem dX0_init_22 : decode cX0_init 22 = .ok (.newarray .int, 2) := by decide +kernel
theorem dX0_init_24 : decode cX0_init 24 = .ok (.putfield 18, 3) := by decide +kernel
theorem dX0_init_27 : decode cX0_init 27 = .ok (.aload_n 0, 1) := by decide +kernel
theorem dX0_init_28 : decode cX0_init 28 = .ok (.bipush 7, 2) := by decide +kernel
theorem dX0_init_30 : decode cX0_init 30 = .ok (.newarray .int, 2) := by decide +kernel
theorem dX0_init_32 : decode cX0_init 32 = .ok (.putfield 21, 3) := by decide +kernel
theorem dX0_init_35 : decode cX0_init 35 = .ok (.aload_n 0, 1) := by decide +kernel
theorem dX0_init_36 : decode cX0_init 36 = .ok (.iconst 1, 1) := by decide +kernel
theorem dX0_init_37 : decode cX0_init 37 = .ok (.putfield 24, 3) := by decide +kernel
theorem dX0_init_40 : decode cX0_init 40 = .ok (.return_, 1) := by decide +kernel
theorem dX0_freshen_0 : decode cX0_freshen 0 = .ok (.iconst 0, 1) := by decide +kernel
theorem dX0_freshen_1 : decode cX0_freshen 1 = .ok (.istore_n 1, 1) := by decide +kernel
theorem dX0_freshen_2 : decode cX0_freshen 2 = .ok (.iload_n 1, 1) := by decide +kernel
theorem dX0_freshen_3 : decode cX0_freshen 3 = .ok (.bipush 40, 2) := by decide +kernel
theorem dX0_freshen_5 : decode cX0_freshen 5 = .ok (.if_icmp .ge 23, 3) := by decide +kernel
theorem dX0_freshen_8 : decode cX0_freshen 8 = .ok (.aload_n 0, 1) := by decide +kernel
theorem dX0_freshen_9 : decode cX0_freshen 9 = .ok (.getfield 9, 3) := by decide +kernel
theorem dX0_freshen_12 : decode cX0_freshen 12 = .ok (.iload_n 1, 1) := by decide +kernel
theorem dX0_freshen_13 : decode cX0_freshen 13 = .ok (.iconst 0, 1) := by decide +kernel
theorem dX0_freshen_14 : decode cX0_freshen 14 = .ok (.iastore, 1) := by decide +kernel
theorem dX0_freshen_15 : decode cX0_freshen 15 = .ok (.aload_n 0, 1) := by decide +kernel
theorem dX0_freshen_16 : decode cX0_freshen 16 = .ok (.getfield 15, 3) := by decide +kernel
theorem dX0_freshen_19 : decode cX0_freshen 19 = .ok (.iload_n 1, 1) := by decide +kernel
theorem dX0_freshen_20 : decode cX0_freshen 20 = .ok (.iconst 0, 1) := by decide +kernel
theorem dX0_freshen_21 : decode cX0_freshen 21 = .ok (.iastore, 1) := by decide +kernel
theorem dX0_freshen_22 : decode cX0_freshen 22 = .ok (.iinc 1 1, 3) := by decide +kernel
theorem dX0_freshen_25 : decode cX0_freshen 25 = .ok (.goto (-23), 3) := by decide +kernel
theorem dX0_freshen_28 : decode cX0_freshen 28 = .ok (.iconst 0, 1) := by decide +kernel
theorem dX0_freshen_29 : decode cX0_freshen 29 = .ok (.istore_n 1, 1) := by decide +kernel
theorem dX0_freshen_30 : decode cX0_freshen 30 = .ok (.iload_n 1, 1) := by decide +kernel
theorem dX0_freshen_31 : decode cX0_freshen 31 = .ok (.iconst 3, 1) := by decide +kernel
theorem dX0_freshen_32 : decode cX0_freshen 32 = .ok (.if_icmp .ge 16, 3) := by decide +kernel
theorem dX0_freshen_35 : decode cX0_freshen 35 = .ok (.aload_n 0, 1) := by decide +kernel
theorem dX0_freshen_36 : decode cX0_freshen 36 = .ok (.getfield 18, 3) := by decide +kernel
theorem dX0_freshen_39 : decode cX0_freshen 39 = .ok (.iload_n 1, 1) := by decide +kernel
theorem dX0_freshen_40 : decode cX0_freshen 40 = .ok (.iconst 0, 1) := by decide +kernel
theorem dX0_freshen_41 : decode cX0_freshen 41 = .ok (.iastore, 1) := by decide +kernel
theorem dX0_freshen_42 : decode cX0_freshen 42 = .ok (.iinc 1 1, 3) := by decide +kernel
theorem dX0_freshen_45 : decode cX0_freshen 45 = .ok (.goto (-15), 3) := by decide +kernel
theorem dX0_freshen_48 : decode cX0_freshen 48 = .ok (.aload_n 0, 1) := by decide +kernel
theorem dX0_freshen_49 : decode cX0_freshen 49 = .ok (.lconst 0, 1) := by decide +kernel
theorem dX0_freshen_50 : decode cX0_freshen 50 = .ok (.putfield 28, 3) := by decide +kernel
theorem dX0_freshen_53 : decode cX0_freshen 53 = .ok (.aload_n 0, 1) := by decide +kernel
theorem dX0_freshen_54 : decode cX0_freshen 54 = .ok (.lconst 0, 1) := by decide +kernel
theorem dX0_freshen_55 : decode cX0_freshen 55 = .ok (.putfield 32, 3) := by decide +kernel
theorem dX0_freshen_58 : decode cX0_freshen 58 = .ok (.aload_n 0, 1) := by decide +kernel
theorem dX0_freshen_59 : decode cX0_freshen 59 = .ok (.iconst 0, 1) := by decide +kernel
theorem dX0_freshen_60 : decode cX0_freshen 60 = .ok (.putfield 35, 3) := by decide +kernel
theorem dX0_freshen_63 : decode cX0_freshen 63 = .ok (.aload_n 0, 1) := by decide +kernel
theorem dX0_freshen_64 : decode cX0_freshen 64 = .ok (.iconst 0, 1) := by decide +kernel
theorem dX0_freshen_65 : decode cX0_freshen 65 = .ok (.putfield 38, 3) := by decide +kernel
theorem dX0_freshen_68 : decode cX0_freshen 68 = .ok (.return_, 1) := by decide +kernel
theorem dX0_copy_0 : decode cX0_copy 0 = .ok (.iconst 0, 1) := by decide +kernel
theorem dX0_copy_1 : decode cX0_copy 1 = .ok (.istore_n 2, 1) := by decide +kernel
theorem dX0_copy_2 : decode cX0_copy 2 = .ok (.iload_n 2, 1) := by decide +kernel
theorem dX0_copy_3 : decode cX0_copy 3 = .ok (.bipush 40, 2) := by decide +kernel
theorem dX0_copy_5 : decode cX0_copy 5 = .ok (.if_icmp .ge 33, 3) := by decide +kernel
theorem dX0_copy_8 : decode cX0_copy 8 = .ok (.aload_n 0, 1) := by decide +kernel
theorem dX0_copy_9 : decode cX0_copy 9 = .ok (.getfield 9, 3) := by decide +kernel
theorem dX0_copy_12 : decode cX0_copy 12 = .ok (.iload_n 2, 1) := by decide +kernel
theorem dX0_copy_13 : decode cX0_copy 13 = .ok (.aload_n 1, 1) := by decide +kernel
theorem dX0_copy_14 : decode cX0_copy 14 = .ok (.getfield 9, 3) := by decide +kernel
theorem dX0_copy_17 : decode cX0_copy 17 = .ok (.iload_n 2, 1) := by decide +kernel
theorem dX0_copy_18 : decode cX0_copy 18 = .ok (.iaload, 1) := by decide +kernel
theorem dX0_copy_19 : decode cX0_copy 19 = .ok (.iastore, 1) := by decide +kernel
theorem dX0_copy_20 : decode cX0_copy 20 = .ok (.aload_n 0, 1) := by decide +kernel
theorem dX0_copy_21 : decode cX0_copy 21 = .ok (.getfield 15, 3) := by decide +kernel
theorem dX0_copy_24 : decode cX0_copy 24 = .ok (.iload_n 2, 1) := by decide +kernel
theorem dX0_copy_25 : decode cX0_copy 25 = .ok (.aload_n 1, 1) := by decide +kernel
theorem dX0_copy_26 : decode cX0_copy 26 = .ok (.getfield 15, 3) := by decide +kernel
theorem dX0_copy_29 : decode cX0_copy 29 = .ok (.iload_n 2, 1) := by decide +kernel
theorem dX0_copy_30 : decode cX0_copy 30 = .ok (.iaload, 1) := by decide +kernel
theorem dX0_copy_31 : decode cX0_copy 31 = .ok (.iastore, 1) := by decide +kernel
theorem dX0_copy_32 : decode cX0_copy 32 = .ok (.iinc 2 1, 3) := by decide +kernel
theorem dX0_copy_35 : decode cX0_copy 35 = .ok (.goto (-33), 3) := by decide +kernel
theorem dX0_copy_38 : decode cX0_copy 38 = .ok (.iconst 0, 1) := by decide +kernel
theorem dX0_copy_39 : decode cX0_copy 39 = .ok (.istore_n 2, 1) := by decide +kernel
theorem dX0_copy_40 : decode cX0_copy 40 = .ok (.iload_n 2, 1) := by decide +kernel
theorem dX0_copy_41 : decode cX0_copy 41 = .ok (.iconst 3, 1) := by decide +kernel
theorem dX0_copy_42 : decode cX0_copy 42 = .ok (.if_icmp .ge 21, 3) := by decide +kernel
theorem dX0_copy_45 : decode cX0_copy 45 = .ok (.aload_n 0, 1) := by decide +kernel
theorem dX0_copy_46 : decode cX0_copy 46 = .ok (.getfield 18, 3) := by decide +kernel
theorem dX0_copy_49 : decode cX0_copy 49 = .ok (.iload_n 2, 1) := by decide +kernel
theorem dX0_copy_50 : decode cX0_copy 50 = .ok (.aload_n 1, 1) := by decide +kernel
theorem dX0_copy_51 : decode cX0_copy 51 = .ok (.getfield 18, 3) := by decide +kernel
theorem dX0_copy_54 : decode cX0_copy 54 = .ok (.iload_n 2, 1) := by decide +kernel
theorem dX0_copy_55 : decode cX0_copy 55 = .ok (.iaload, 1) := by decide +kernel
theorem dX0_copy_56 : decode cX0_copy 56 = .ok (.iastore, 1) := by decide +kernel
theorem dX0_copy_57 : decode cX0_copy 57 = .ok (.iinc 2 1, 3) := by decide +kernel
theorem dX0_copy_60 : decode cX0_copy 60 = .ok (.goto (-20), 3) := by decide +kernel
theorem dX0_copy_63 : decode cX0_copy 63 = .ok (.aload_n 0, 1) := by decide +kernel
theorem dX0_copy_64 : decode cX0_copy 64 = .ok (.aload_n 1, 1) := by decide +kernel
theorem dX0_copy_65 : decode cX0_copy 65 = .ok (.getfield 28, 3) := by decide +kernel
theorem dX0_copy_68 : decode cX0_copy 68 = .ok (.putfield 28, 3) := by decide +kernel
theorem dX0_copy_71 : decode cX0_copy 71 = .ok (.aload_n 0, 1) := by decide +kernel
theorem dX0_copy_72 : decode cX0_copy 72 = .ok (.aload_n 1, 1) := by decide +kernel
theorem dX0_copy_73 : decode cX0_copy 73 = .ok (.getfield 32, 3) := by decide +kernel
theorem dX0_copy_76 : decode cX0_copy 76 = .ok (.putfield 32, 3) := by decide +kernel
theorem dX0_copy_79 : decode cX0_copy 79 = .ok (.aload_n 0, 1) := by decide +kernel
theorem dX0_copy_80 : decode cX0_copy 80 = .ok (.aload_n 1, 1) := by decide +kernel
theorem dX0_copy_81 : decode cX0_copy 81 = .ok (.getfield 35, 3) := by decide +kernel
theorem dX0_copy_84 : decode cX0_copy 84 = .ok (.putfield 35, 3) := by decide +kernel
theorem dX0_copy_87 : decode cX0_copy 87 = .ok (.aload_n 0, 1) := by decide +kernel
theorem dX0_copy_88 : decode cX0_copy 88 = .ok (.aload_n 1, 1) := by decide +kernel
theorem dX0_copy_89 : decode cX0_copy 89 = .ok (.getfield 38, 3) := by decide +kernel
theorem dX0_copy_92 : decode cX0_copy 92 = .ok (.putfield 38, 3) := by decide +kernel
theorem dX0_copy_95 : decode cX0_copy 95 = .ok (.aload_n 0, 1) := by decide +kernel
theorem dX0_copy_96 : decode cX0_copy 96 = .ok (.aload_n 1, 1) := by decide +kernel
theorem dX0_copy_97 : decode cX0_copy 97 = .ok (.getfield 24, 3) := by decide +kernel
theorem dX0_copy_100 : decode cX0_copy 100 = .ok (.putfield 24, 3) := by decide +kernel
theorem dX0_copy_103 : decode cX0_copy 103 = .ok (.return_, 1) := by decide +kernel
theorem dX0_stateOf_0 : decode cX0_stateOf 0 = .ok (.iload_n 1, 1) := by decide +kernel
theorem dX0_stateOf_1 : decode cX0_stateOf 1 = .ok (.ifCond .lt 18, 3) := by decide +kernel
theorem dX0_stateOf_4 : decode cX0_stateOf 4 = .ok (.iload_n 1, 1) := by decide +kernel
theorem dX0_stateOf_5 : decode cX0_stateOf 5 = .ok (.bipush 40, 2) := by decide +kernel
theorem dX0_stateOf_7 : decode cX0_stateOf 7 = .ok (.if_icmp .ge 12, 3) := by decide +kernel
theorem dX0_stateOf_10 : decode cX0_stateOf 10 = .ok (.aload_n 0, 1) := by decide +kernel
theorem dX0_stateOf_11 : decode cX0_stateOf 11 = .ok (.getfield 9, 3) := by decide +kernel
theorem dX0_stateOf_14 : decode cX0_stateOf 14 = .ok (.iload_n 1, 1) := by decide +kernel
theorem dX0_stateOf_15 : decode cX0_stateOf 15 = .ok (.iaload, 1) := by decide +kernel
theorem dX0_stateOf_16 : decode cX0_stateOf 16 = .ok (.goto 4, 3) := by decide +kernel
theorem dX0_stateOf_19 : decode cX0_stateOf 19 = .ok (.iconst (-1), 1) := by decide +kernel
theorem dX0_stateOf_20 : decode cX0_stateOf 20 = .ok (.ireturn, 1) := by decide +kernel
theorem dX0_risesOf_0 : decode cX0_risesOf 0 = .ok (.iload_n 1, 1) := by decide +kernel
theorem dX0_risesOf_1 : decode cX0_risesOf 1 = .ok (.ifCond .lt 18, 3) := by decide +kernel
theorem dX0_risesOf_4 : decode cX0_risesOf 4 = .ok (.iload_n 1, 1) := by decide +kernel
theorem dX0_risesOf_5 : decode cX0_risesOf 5 = .ok (.bipush 40, 2) := by decide +kernel
theorem dX0_risesOf_7 : decode cX0_risesOf 7 = .ok (.if_icmp .ge 12, 3) := by decide +kernel
theorem dX0_risesOf_10 : decode cX0_risesOf 10 = .ok (.aload_n 0, 1) := by decide +kernel
theorem dX0_risesOf_11 : decode cX0_risesOf 11 = .ok (.getfield 15, 3) := by decide +kernel
theorem dX0_risesOf_14 : decode cX0_risesOf 14 = .ok (.iload_n 1, 1) := by decide +kernel
theorem dX0_risesOf_15 : decode cX0_risesOf 15 = .ok (.iaload, 1) := by decide +kernel
theorem dX0_risesOf_16 : decode cX0_risesOf 16 = .ok (.goto 4, 3) := by decide +kernel
theorem dX0_risesOf_19 : decode cX0_risesOf 19 = .ok (.iconst (-1), 1) := by decide +kernel
theorem dX0_risesOf_20 : decode cX0_risesOf 20 = .ok (.ireturn, 1) := by decide +kernel
theorem dX0_risenBy_0 : decode cX0_risenBy 0 = .ok (.iload_n 1, 1) := by decide +kernel
theorem dX0_risenBy_1 : decode cX0_risenBy 1 = .ok (.ifCond .lt 17, 3) := by decide +kernel
theorem dX0_risenBy_4 : decode cX0_risenBy 4 = .ok (.iload_n 1, 1) := by decide +kernel
theorem dX0_risenBy_5 : decode cX0_risenBy 5 = .ok (.iconst 3, 1) := by decide +kernel
theorem dX0_risenBy_6 : decode cX0_risenBy 6 = .ok (.if_icmp .ge 12, 3) := by decide +kernel
theorem dX0_risenBy_9 : decode cX0_risenBy 9 = .ok (.aload_n 0, 1) := by decide +kernel
theorem dX0_risenBy_10 : decode cX0_risenBy 10 = .ok (.getfield 18, 3) := by decide +kernel
theorem dX0_risenBy_13 : decode cX0_risenBy 13 = .ok (.iload_n 1, 1) := by decide +kernel
theorem dX0_risenBy_14 : decode cX0_risenBy 14 = .ok (.iaload, 1) := by decide +kernel
theorem dX0_risenBy_15 : decode cX0_risenBy 15 = .ok (.goto 4, 3) := by decide +kernel
theorem dX0_risenBy_18 : decode cX0_risenBy 18 = .ok (.iconst (-1), 1) := by decide +kernel
theorem dX0_risenBy_19 : decode cX0_risenBy 19 = .ok (.ireturn, 1) := by decide +kernel
theorem dX0_raise_0 : decode cX0_raise 0 = .ok (.iconst 0, 1) := by decide +kernel
theorem dX0_raise_1 : decode cX0_raise 1 = .ok (.istore 4, 2) := by decide +kernel
theorem dX0_raise_3 : decode cX0_raise 3 = .ok (.iconst 0, 1) := by decide +kernel
theorem dX0_raise_4 : decode cX0_raise 4 = .ok (.istore 5, 2) := by decide +kernel
theorem dX0_raise_6 : decode cX0_raise 6 = .ok (.iload 5, 2) := by decide +kernel
theorem dX0_raise_8 : decode cX0_raise 8 = .ok (.bipush 40, 2) := by decide +kernel
theorem dX0_raise_10 : decode cX0_raise 10 = .ok (.if_icmp .ge 85, 3) := by decide +kernel
theorem dX0_raise_13 : decode cX0_raise 13 = .ok (.lload_n 2, 1) := by decide +kernel
theorem dX0_raise_14 : decode cX0_raise 14 = .ok (.aload_n 1, 1) := by decide +kernel
theorem dX0_raise_15 : decode cX0_raise 15 = .ok (.getfield 41, 3) := by decide +kernel
theorem dX0_raise_18 : decode cX0_raise 18 = .ok (.ldc2_w 46, 3) := by decide +kernel
theorem dX0_raise_21 : decode cX0_raise 21 = .ok (.lxor, 1) := by decide +kernel
theorem dX0_raise_22 : decode cX0_raise 22 = .ok (.land, 1) := by decide +kernel
theorem dX0_raise_23 : decode cX0_raise 23 = .ok (.iload 5, 2) := by decide +kernel
theorem dX0_raise_25 : decode cX0_raise 25 = .ok (.invokestatic 48, 3) := by decide +kernel
theorem dX0_raise_28 : decode cX0_raise 28 = .ok (.ifCond .eq 61, 3) := by decide +kernel
theorem dX0_raise_31 : decode cX0_raise 31 = .ok (.aload_n 0, 1) := by decide +kernel
theorem dX0_raise_32 : decode cX0_raise 32 = .ok (.getfield 9, 3) := by decide +kernel
theorem dX0_raise_35 : decode cX0_raise 35 = .ok (.iload 5, 2) := by decide +kernel
theorem dX0_raise_37 : decode cX0_raise 37 = .ok (.iaload, 1) := by decide +kernel
theorem dX0_raise_38 : decode cX0_raise 38 = .ok (.ifCond .ne 51, 3) := by decide +kernel
theorem dX0_raise_41 : decode cX0_raise 41 = .ok (.aload_n 0, 1) := by decide +kernel
theorem dX0_raise_42 : decode cX0_raise 42 = .ok (.getfield 9, 3) := by decide +kernel
theorem dX0_raise_45 : decode cX0_raise 45 = .ok (.iload 5, 2) := by decide +kernel
theorem dX0_raise_47 : decode cX0_raise 47 = .ok (.iconst 1, 1) := by decide +kernel
theorem dX0_raise_48 : decode cX0_raise 48 = .ok (.iastore, 1) := by decide +kernel
theorem dX0_raise_49 : decode cX0_raise 49 = .ok (.aload_n 0, 1) := by decide +kernel
theorem dX0_raise_50 : decode cX0_raise 50 = .ok (.getfield 15, 3) := by decide +kernel
theorem dX0_raise_53 : decode cX0_raise 53 = .ok (.iload 5, 2) := by decide +kernel
theorem dX0_raise_55 : decode cX0_raise 55 = .ok (.dup2, 1) := by decide +kernel
theorem dX0_raise_56 : decode cX0_raise 56 = .ok (.iaload, 1) := by decide +kernel
theorem dX0_raise_57 : decode cX0_raise 57 = .ok (.iconst 1, 1) := by decide +kernel
theorem dX0_raise_58 : decode cX0_raise 58 = .ok (.iadd, 1) := by decide +kernel
theorem dX0_raise_59 : decode cX0_raise 59 = .ok (.iastore, 1) := by decide +kernel
theorem dX0_raise_60 : decode cX0_raise 60 = .ok (.aload_n 0, 1) := by decide +kernel
theorem dX0_raise_61 : decode cX0_raise 61 = .ok (.dup, 1) := by decide +kernel
theorem dX0_raise_62 : decode cX0_raise 62 = .ok (.getfield 28, 3) := by decide +kernel
theorem dX0_raise_65 : decode cX0_raise 65 = .ok (.lconst 1, 1) := by decide +kernel
theorem dX0_raise_66 : decode cX0_raise 66 = .ok (.iload 5, 2) := by decide +kernel
theorem dX0_raise_68 : decode cX0_raise 68 = .ok (.lshl, 1) := by decide +kernel
theorem dX0_raise_69 : decode cX0_raise 69 = .ok (.lor, 1) := by decide +kernel
theorem dX0_raise_70 : decode cX0_raise 70 = .ok (.putfield 28, 3) := by decide +kernel
theorem dX0_raise_73 : decode cX0_raise 73 = .ok (.aload_n 0, 1) := by decide +kernel
theorem dX0_raise_74 : decode cX0_raise 74 = .ok (.dup, 1) := by decide +kernel
theorem dX0_raise_75 : decode cX0_raise 75 = .ok (.getfield 32, 3) := by decide +kernel
theorem dX0_raise_78 : decode cX0_raise 78 = .ok (.lconst 1, 1) := by decide +kernel
theorem dX0_raise_79 : decode cX0_raise 79 = .ok (.iload 5, 2) := by decide +kernel
theorem dX0_raise_81 : decode cX0_raise 81 = .ok (.lshl, 1) := by decide +kernel
theorem dX0_raise_82 : decode cX0_raise 82 = .ok (.lor, 1) := by decide +kernel
theorem dX0_raise_83 : decode cX0_raise 83 = .ok (.putfield 32, 3) := by decide +kernel
theorem dX0_raise_86 : decode cX0_raise 86 = .ok (.iinc 4 1, 3) := by decide +kernel
theorem dX0_raise_89 : decode cX0_raise 89 = .ok (.iinc 5 1, 3) := by decide +kernel
theorem dX0_raise_92 : decode cX0_raise 92 = .ok (.goto (-86), 3) := by decide +kernel
theorem dX0_raise_95 : decode cX0_raise 95 = .ok (.aload_n 0, 1) := by decide +kernel
theorem dX0_raise_96 : decode cX0_raise 96 = .ok (.dup, 1) := by decide +kernel
theorem dX0_raise_97 : decode cX0_raise 97 = .ok (.getfield 38, 3) := by decide +kernel
theorem dX0_raise_100 : decode cX0_raise 100 = .ok (.iconst 1, 1) := by decide +kernel
theorem dX0_raise_101 : decode cX0_raise 101 = .ok (.iadd, 1) := by decide +kernel
theorem dX0_raise_102 : decode cX0_raise 102 = .ok (.putfield 38, 3) := by decide +kernel
theorem dX0_raise_105 : decode cX0_raise 105 = .ok (.iload 4, 2) := by decide +kernel
theorem dX0_raise_107 : decode cX0_raise 107 = .ok (.ireturn, 1) := by decide +kernel
theorem dX0_willing_0 : decode cX0_willing 0 = .ok (.aload_n 0, 1) := by decide +kernel
theorem dX0_willing_1 : decode cX0_willing 1 = .ok (.getfield 21, 3) := by decide +kernel
theorem dX0_willing_4 : decode cX0_willing 4 = .ok (.iconst 2, 1) := by decide +kernel
theorem dX0_willing_5 : decode cX0_willing 5 = .ok (.aload_n 1, 1) := by decide +kernel
theorem dX0_willing_6 : decode cX0_willing 6 = .ok (.aload_n 0, 1) := by decide +kernel
theorem dX0_willing_7 : decode cX0_willing 7 = .ok (.getfield 35, 3) := by decide +kernel
theorem dX0_willing_10 : decode cX0_willing 10 = .ok (.iconst 1, 1) := by decide +kernel
theorem dX0_willing_11 : decode cX0_willing 11 = .ok (.iadd, 1) := by decide +kernel
theorem dX0_willing_12 : decode cX0_willing 12 = .ok (.invokevirtual 52, 3) := by decide +kernel
theorem dX0_willing_15 : decode cX0_willing 15 = .ok (.iastore, 1) := by decide +kernel
theorem dX0_willing_16 : decode cX0_willing 16 = .ok (.aload_n 0, 1) := by decide +kernel
theorem dX0_willing_17 : decode cX0_willing 17 = .ok (.getfield 21, 3) := by decide +kernel
theorem dX0_willing_20 : decode cX0_willing 20 = .ok (.iconst 3, 1) := by decide +kernel
theorem dX0_willing_21 : decode cX0_willing 21 = .ok (.aload_n 0, 1) := by decide +kernel
theorem dX0_willing_22 : decode cX0_willing 22 = .ok (.getfield 38, 3) := by decide +kernel
theorem dX0_willing_25 : decode cX0_willing 25 = .ok (.iastore, 1) := by decide +kernel
theorem dX0_willing_26 : decode cX0_willing 26 = .ok (.aload_n 0, 1) := by decide +kernel
theorem dX0_willing_27 : decode cX0_willing 27 = .ok (.getfield 21, 3) := by decide +kernel
theorem dX0_willing_30 : decode cX0_willing 30 = .ok (.iconst 5, 1) := by decide +kernel
theorem dX0_willing_31 : decode cX0_willing 31 = .ok (.aload_n 0, 1) := by decide +kernel
theorem dX0_willing_32 : decode cX0_willing 32 = .ok (.getfield 28, 3) := by decide +kernel
theorem dX0_willing_35 : decode cX0_willing 35 = .ok (.invokestatic 56, 3) := by decide +kernel
theorem dX0_willing_38 : decode cX0_willing 38 = .ok (.iastore, 1) := by decide +kernel
theorem dX0_willing_39 : decode cX0_willing 39 = .ok (.aload_n 0, 1) := by decide +kernel
theorem dX0_willing_40 : decode cX0_willing 40 = .ok (.getfield 21, 3) := by decide +kernel
theorem dX0_willing_43 : decode cX0_willing 43 = .ok (.bipush 6, 2) := by decide +kernel
theorem dX0_willing_45 : decode cX0_willing 45 = .ok (.aload_n 0, 1) := by decide +kernel
theorem dX0_willing_46 : decode cX0_willing 46 = .ok (.getfield 35, 3) := by decide +kernel
theorem dX0_willing_49 : decode cX0_willing 49 = .ok (.iconst 1, 1) := by decide +kernel
theorem dX0_willing_50 : decode cX0_willing 50 = .ok (.iadd, 1) := by decide +kernel
theorem dX0_willing_51 : decode cX0_willing 51 = .ok (.iastore, 1) := by decide +kernel
theorem dX0_willing_52 : decode cX0_willing 52 = .ok (.aload_n 1, 1) := by decide +kernel
theorem dX0_willing_53 : decode cX0_willing 53 = .ok (.getfield 41, 3) := by decide +kernel
theorem dX0_willing_56 : decode cX0_willing 56 = .ok (.lload_n 2, 1) := by decide +kernel
theorem dX0_willing_57 : decode cX0_willing 57 = .ok (.lor, 1) := by decide +kernel
theorem dX0_willing_58 : decode cX0_willing 58 = .ok (.lstore 4, 2) := by decide +kernel
theorem dX0_willing_60 : decode cX0_willing 60 = .ok (.lconst 0, 1) := by decide +kernel
theorem dX0_willing_61 : decode cX0_willing 61 = .ok (.lstore 6, 2) := by decide +kernel
theorem dX0_willing_63 : decode cX0_willing 63 = .ok (.iconst 0, 1) := by decide +kernel
theorem dX0_willing_64 : decode cX0_willing 64 = .ok (.istore 8, 2) := by decide +kernel
theorem dX0_willing_66 : decode cX0_willing 66 = .ok (.iload 8, 2) := by decide +kernel
theorem dX0_willing_68 : decode cX0_willing 68 = .ok (.bipush 40, 2) := by decide +kernel
theorem dX0_willing_70 : decode cX0_willing 70 = .ok (.if_icmp .ge 81, 3) := by decide +kernel
theorem dX0_willing_73 : decode cX0_willing 73 = .ok (.iload 8, 2) := by decide +kernel
theorem dX0_willing_75 : decode cX0_willing 75 = .ok (.aload_n 1, 1) := by decide +kernel
theorem dX0_willing_76 : decode cX0_willing 76 = .ok (.getfield 62, 3) := by decide +kernel
theorem dX0_willing_79 : decode cX0_willing 79 = .ok (.if_icmp .ge 72, 3) := by decide +kernel
theorem dX0_willing_82 : decode cX0_willing 82 = .ok (.aload_n 0, 1) := by decide +kernel
theorem dX0_willing_83 : decode cX0_willing 83 = .ok (.getfield 9, 3) := by decide +kernel
theorem dX0_willing_86 : decode cX0_willing 86 = .ok (.iload 8, 2) := by decide +kernel
theorem dX0_willing_88 : decode cX0_willing 88 = .ok (.iaload, 1) := by decide +kernel
theorem dX0_willing_89 : decode cX0_willing 89 = .ok (.ifCond .ne 56, 3) := by decide +kernel
theorem dX0_willing_92 : decode cX0_willing 92 = .ok (.lload 4, 2) := by decide +kernel
theorem dX0_willing_94 : decode cX0_willing 94 = .ok (.iload 8, 2) := by decide +kernel
theorem dX0_willing_96 : decode cX0_willing 96 = .ok (.invokestatic 48, 3) := by decide +kernel
theorem dX0_willing_99 : decode cX0_willing 99 = .ok (.ifCond .ne 46, 3) := by decide +kernel
theorem dX0_willing_102 : decode cX0_willing 102 = .ok (.aload_n 0, 1) := by decide +kernel
theorem dX0_willing_103 : decode cX0_willing 103 = .ok (.aload_n 1, 1) := by decide +kernel
theorem dX0_willing_104 : decode cX0_willing 104 = .ok (.iload 8, 2) := by decide +kernel
theorem dX0_willing_106 : decode cX0_willing 106 = .ok (.invokevirtual 65, 3) := by decide +kernel
theorem dX0_willing_109 : decode cX0_willing 109 = .ok (.aload_n 0, 1) := by decide +kernel
theorem dX0_willing_110 : decode cX0_willing 110 = .ok (.getfield 21, 3) := by decide +kernel
theorem dX0_willing_113 : decode cX0_willing 113 = .ok (.iconst 4, 1) := by decide +kernel
theorem dX0_willing_114 : decode cX0_willing 114 = .ok (.aload_n 0, 1) := by decide +kernel
theorem dX0_willing_115 : decode cX0_willing 115 = .ok (.getfield 15, 3) := by decide +kernel
theorem dX0_willing_118 : decode cX0_willing 118 = .ok (.iload 8, 2) := by decide +kernel
theorem dX0_willing_120 : decode cX0_willing 120 = .ok (.iaload, 1) := by decide +kernel
theorem dX0_willing_121 : decode cX0_willing 121 = .ok (.iastore, 1) := by decide +kernel
theorem dX0_willing_122 : decode cX0_willing 122 = .ok (.aload_n 1, 1) := by decide +kernel
theorem dX0_willing_123 : decode cX0_willing 123 = .ok (.getfield 69, 3) := by decide +kernel
theorem dX0_willing_126 : decode cX0_willing 126 = .ok (.aload_n 0, 1) := by decide +kernel
theorem dX0_willing_127 : decode cX0_willing 127 = .ok (.getfield 21, 3) := by decide +kernel
theorem dX0_willing_130 : decode cX0_willing 130 = .ok (.invokevirtual 73, 3) := by decide +kernel
theorem dX0_willing_133 : decode cX0_willing 133 = .ok (.ifCond .eq 12, 3) := by decide +kernel
theorem dX0_willing_136 : decode cX0_willing 136 = .ok (.lload 6, 2) := by decide +kernel
theorem dX0_willing_138 : decode cX0_willing 138 = .ok (.lconst 1, 1) := by decide +kernel
theorem dX0_willing_139 : decode cX0_willing 139 = .ok (.iload 8, 2) := by decide +kernel
theorem dX0_willing_141 : decode cX0_willing 141 = .ok (.lshl, 1) := by decide +kernel
theorem dX0_willing_142 : decode cX0_willing 142 = .ok (.lor, 1) := by decide +kernel
theorem dX0_willing_143 : decode cX0_willing 143 = .ok (.lstore 6, 2) := by decide +kernel
theorem dX0_willing_145 : decode cX0_willing 145 = .ok (.iinc 8 1, 3) := by decide +kernel
theorem dX0_willing_148 : decode cX0_willing 148 = .ok (.goto (-82), 3) := by decide +kernel
theorem dX0_willing_151 : decode cX0_willing 151 = .ok (.lload 6, 2) := by decide +kernel
theorem dX0_willing_153 : decode cX0_willing 153 = .ok (.lreturn, 1) := by decide +kernel
theorem dX0_lookAround_0 : decode cX0_lookAround 0 = .ok (.aload_n 1, 1) := by decide +kernel
theorem dX0_lookAround_1 : decode cX0_lookAround 1 = .ok (.aload_n 1, 1) := by decide +kernel
theorem dX0_lookAround_2 : decode cX0_lookAround 2 = .ok (.getfield 79, 3) := by decide +kernel
theorem dX0_lookAround_5 : decode cX0_lookAround 5 = .ok (.invokevirtual 82, 3) := by decide +kernel
theorem dX0_lookAround_8 : decode cX0_lookAround 8 = .ok (.istore_n 3, 1) := by decide +kernel
theorem dX0_lookAround_9 : decode cX0_lookAround 9 = .ok (.aload_n 1, 1) := by decide +kernel
theorem dX0_lookAround_10 : decode cX0_lookAround 10 = .ok (.aload_n 0, 1) := by decide +kernel
theorem dX0_lookAround_11 : decode cX0_lookAround 11 = .ok (.getfield 32, 3) := by decide +kernel
theorem dX0_lookAround_14 : decode cX0_lookAround 14 = .ok (.aload_n 1, 1) := by decide +kernel
theorem dX0_lookAround_15 : decode cX0_lookAround 15 = .ok (.getfield 62, 3) := by decide +kernel
theorem dX0_lookAround_18 : decode cX0_lookAround 18 = .ok (.iload_n 2, 1) := by decide +kernel
theorem dX0_lookAround_19 : decode cX0_lookAround 19 = .ok (.isub, 1) := by decide +kernel
theorem dX0_lookAround_20 : decode cX0_lookAround 20 = .ok (.invokevirtual 85, 3) := by decide +kernel
theorem dX0_lookAround_23 : decode cX0_lookAround 23 = .ok (.lstore 4, 2) := by decide +kernel
theorem dX0_lookAround_25 : decode cX0_lookAround 25 = .ok (.aload_n 0, 1) := by decide +kernel
theorem dX0_lookAround_26 : decode cX0_lookAround 26 = .ok (.getfield 21, 3) := by decide +kernel
theorem dX0_lookAround_29 : decode cX0_lookAround 29 = .ok (.iconst 0, 1) := by decide +kernel
theorem dX0_lookAround_30 : decode cX0_lookAround 30 = .ok (.lload 4, 2) := by decide +kernel
theorem dX0_lookAround_32 : decode cX0_lookAround 32 = .ok (.aload_n 1, 1) := by decide +kernel
theorem dX0_lookAround_33 : decode cX0_lookAround 33 = .ok (.getfield 62, 3) := by decide +kernel
theorem dX0_lookAround_36 : decode cX0_lookAround 36 = .ok (.iload_n 3, 1) := by decide +kernel
theorem dX0_lookAround_37 : decode cX0_lookAround 37 = .ok (.isub, 1) := by decide +kernel
theorem dX0_lookAround_38 : decode cX0_lookAround 38 = .ok (.lushr, 1) := by decide +kernel
theorem dX0_lookAround_39 : decode cX0_lookAround 39 = .ok (.invokestatic 56, 3) := by decide +kernel
theorem dX0_lookAround_42 : decode cX0_lookAround 42 = .ok (.iastore, 1) := by decide +kernel
theorem dX0_lookAround_43 : decode cX0_lookAround 43 = .ok (.aload_n 0, 1) := by decide +kernel
theorem dX0_lookAround_44 : decode cX0_lookAround 44 = .ok (.getfield 21, 3) := by decide +kernel
theorem dX0_lookAround_47 : decode cX0_lookAround 47 = .ok (.iconst 1, 1) := by decide +kernel
theorem dX0_lookAround_48 : decode cX0_lookAround 48 = .ok (.lload 4, 2) := by decide +kernel
theorem dX0_lookAround_50 : decode cX0_lookAround 50 = .ok (.iconst 1, 1) := by decide +kernel
theorem dX0_lookAround_51 : decode cX0_lookAround 51 = .ok (.lushr, 1) := by decide +kernel
theorem dX0_lookAround_52 : decode cX0_lookAround 52 = .ok (.lconst 1, 1) := by decide +kernel
theorem dX0_lookAround_53 : decode cX0_lookAround 53 = .ok (.iload_n 3, 1) := by decide +kernel
theorem dX0_lookAround_54 : decode cX0_lookAround 54 = .ok (.lshl, 1) := by decide +kernel
theorem dX0_lookAround_55 : decode cX0_lookAround 55 = .ok (.lconst 1, 1) := by decide +kernel
theorem dX0_lookAround_56 : decode cX0_lookAround 56 = .ok (.lsub, 1) := by decide +kernel
theorem dX0_lookAround_57 : decode cX0_lookAround 57 = .ok (.land, 1) := by decide +kernel
theorem dX0_lookAround_58 : decode cX0_lookAround 58 = .ok (.invokestatic 56, 3) := by decide +kernel
theorem dX0_lookAround_61 : decode cX0_lookAround 61 = .ok (.iastore, 1) := by decide +kernel
theorem dX0_lookAround_62 : decode cX0_lookAround 62 = .ok (.return_, 1) := by decide +kernel
theorem dX0_liveOn_0 : decode cX0_liveOn 0 = .ok (.aload_n 0, 1) := by decide +kernel
theorem dX0_liveOn_1 : decode cX0_liveOn 1 = .ok (.aload_n 0, 1) := by decide +kernel
theorem dX0_liveOn_2 : decode cX0_liveOn 2 = .ok (.aload_n 1, 1) := by decide +kernel
theorem dX0_liveOn_3 : decode cX0_liveOn 3 = .ok (.aload_n 1, 1) := by decide +kernel
theorem dX0_liveOn_4 : decode cX0_liveOn 4 = .ok (.getfield 89, 3) := by decide +kernel
theorem dX0_liveOn_7 : decode cX0_liveOn 7 = .ok (.invokevirtual 92, 3) := by decide +kernel
theorem dX0_liveOn_10 : decode cX0_liveOn 10 = .ok (.aload_n 1, 1) := by decide +kernel
theorem dX0_liveOn_11 : decode cX0_liveOn 11 = .ok (.getfield 96, 3) := by decide +kernel
theorem dX0_liveOn_14 : decode cX0_liveOn 14 = .ok (.invokevirtual 99, 3) := by decide +kernel
theorem dX0_liveOn_17 : decode cX0_liveOn 17 = .ok (.lstore_n 2, 1) := by decide +kernel
theorem dX0_liveOn_18 : decode cX0_liveOn 18 = .ok (.aload_n 0, 1) := by decide +kernel
theorem dX0_liveOn_19 : decode cX0_liveOn 19 = .ok (.aload_n 1, 1) := by decide +kernel
theorem dX0_liveOn_20 : decode cX0_liveOn 20 = .ok (.lload_n 2, 1) := by decide +kernel
theorem dX0_liveOn_21 : decode cX0_liveOn 21 = .ok (.invokevirtual 102, 3) := by decide +kernel
theorem dX0_liveOn_24 : decode cX0_liveOn 24 = .ok (.aload_n 0, 1) := by decide +kernel
theorem dX0_liveOn_25 : decode cX0_liveOn 25 = .ok (.aload_n 1, 1) := by decide +kernel
theorem dX0_liveOn_26 : decode cX0_liveOn 26 = .ok (.lload_n 2, 1) := by decide +kernel
theorem dX0_liveOn_27 : decode cX0_liveOn 27 = .ok (.invokevirtual 106, 3) := by decide +kernel
theorem dX0_liveOn_30 : decode cX0_liveOn 30 = .ok (.lload_n 2, 1) := by decide +kernel
theorem dX0_liveOn_31 : decode cX0_liveOn 31 = .ok (.lreturn, 1) := by decide +kernel
theorem dX0_dreamOn_0 : decode cX0_dreamOn 0 = .ok (.aload_n 0, 1) := by decide +kernel
theorem dX0_dreamOn_1 : decode cX0_dreamOn 1 = .ok (.aload_n 1, 1) := by decide +kernel
theorem dX0_dreamOn_2 : decode cX0_dreamOn 2 = .ok (.lload_n 2, 1) := by decide +kernel
theorem dX0_dreamOn_3 : decode cX0_dreamOn 3 = .ok (.invokevirtual 92, 3) := by decide +kernel
theorem dX0_dreamOn_6 : decode cX0_dreamOn 6 = .ok (.lstore 4, 2) := by decide +kernel
theorem dX0_dreamOn_8 : decode cX0_dreamOn 8 = .ok (.aload_n 0, 1) := by decide +kernel
theorem dX0_dreamOn_9 : decode cX0_dreamOn 9 = .ok (.aload_n 1, 1) := by decide +kernel
theorem dX0_dreamOn_10 : decode cX0_dreamOn 10 = .ok (.lload 4, 2) := by decide +kernel
theorem dX0_dreamOn_12 : decode cX0_dreamOn 12 = .ok (.invokevirtual 106, 3) := by decide +kernel
theorem dX0_dreamOn_15 : decode cX0_dreamOn 15 = .ok (.lload 4, 2) := by decide +kernel
theorem dX0_dreamOn_17 : decode cX0_dreamOn 17 = .ok (.lreturn, 1) := by decide +kernel
theorem dX0_tillNobodyUp_0 : decode cX0_tillNobodyUp 0 = .ok (.iconst 0, 1) := by decide +kernel
theorem dX0_tillNobodyUp_1 : decode cX0_tillNobodyUp 1 = .ok (.istore 5, 2) := by decide +kernel
theorem dX0_tillNobodyUp_3 : decode cX0_tillNobodyUp 3 = .ok (.iload 5, 2) := by decide +kernel
theorem dX0_tillNobodyUp_5 : decode cX0_tillNobodyUp 5 = .ok (.iload 4, 2) := by decide +kernel
theorem dX0_tillNobodyUp_7 : decode cX0_tillNobodyUp 7 = .ok (.if_icmp .ge 25, 3) := by decide +kernel
theorem dX0_tillNobodyUp_10 : decode cX0_tillNobodyUp 10 = .ok (.aload_n 0, 1) := by decide +kernel
theorem dX0_tillNobodyUp_11 : decode cX0_tillNobodyUp 11 = .ok (.getfield 28, 3) := by decide +kernel
theorem dX0_tillNobodyUp_14 : decode cX0_tillNobodyUp 14 = .ok (.lconst 0, 1) := by decide +kernel
theorem dX0_tillNobodyUp_15 : decode cX0_tillNobodyUp 15 = .ok (.lcmp, 1) := by decide +kernel
theorem dX0_tillNobodyUp_16 : decode cX0_tillNobodyUp 16 = .ok (.ifCond .eq 16, 3) := by decide +kernel
theorem dX0_tillNobodyUp_19 : decode cX0_tillNobodyUp 19 = .ok (.aload_n 0, 1) := by decide +kernel
theorem dX0_tillNobodyUp_20 : decode cX0_tillNobodyUp 20 = .ok (.aload_n 1, 1) := by decide +kernel
theorem dX0_tillNobodyUp_21 : decode cX0_tillNobodyUp 21 = .ok (.lload_n 2, 1) := by decide +kernel
theorem dX0_tillNobodyUp_22 : decode cX0_tillNobodyUp 22 = .ok (.invokevirtual 109, 3) := by decide +kernel
theorem dX0_tillNobodyUp_25 : decode cX0_tillNobodyUp 25 = .ok (.pop2, 1) := by decide +kernel
theorem dX0_tillNobodyUp_26 : decode cX0_tillNobodyUp 26 = .ok (.iinc 5 1, 3) := by decide +kernel
theorem dX0_tillNobodyUp_29 : decode cX0_tillNobodyUp 29 = .ok (.goto (-26), 3) := by decide +kernel
theorem dX0_tillNobodyUp_32 : decode cX0_tillNobodyUp 32 = .ok (.iload 5, 2) := by decide +kernel
theorem dX0_tillNobodyUp_34 : decode cX0_tillNobodyUp 34 = .ok (.ireturn, 1) := by decide +kernel
theorem dX0_withoutTheShy_0 : decode cX0_withoutTheShy 0 = .ok (.lload_n 1, 1) := by decide +kernel
theorem dX0_withoutTheShy_1 : decode cX0_withoutTheShy 1 = .ok (.lstore 4, 2) := by decide +kernel
theorem dX0_withoutTheShy_3 : decode cX0_withoutTheShy 3 = .ok (.iload_n 3, 1) := by decide +kernel
theorem dX0_withoutTheShy_4 : decode cX0_withoutTheShy 4 = .ok (.ifCond .ne 6, 3) := by decide +kernel
theorem dX0_withoutTheShy_7 : decode cX0_withoutTheShy 7 = .ok (.lload 4, 2) := by decide +kernel
theorem dX0_withoutTheShy_9 : decode cX0_withoutTheShy 9 = .ok (.lreturn, 1) := by decide +kernel
theorem dX0_withoutTheShy_10 : decode cX0_withoutTheShy 10 = .ok (.iconst 0, 1) := by decide +kernel
theorem dX0_withoutTheShy_11 : decode cX0_withoutTheShy 11 = .ok (.istore 6, 2) := by decide +kernel
theorem dX0_withoutTheShy_13 : decode cX0_withoutTheShy 13 = .ok (.iload 6, 2) := by decide +kernel
theorem dX0_withoutTheShy_15 : decode cX0_withoutTheShy 15 = .ok (.bipush 40, 2) := by decide +kernel
theorem dX0_withoutTheShy_17 : decode cX0_withoutTheShy 17 = .ok (.if_icmp .ge 39, 3) := by decide +kernel
theorem dX0_withoutTheShy_20 : decode cX0_withoutTheShy 20 = .ok (.lload_n 1, 1) := by decide +kernel
theorem dX0_withoutTheShy_21 : decode cX0_withoutTheShy 21 = .ok (.iload 6, 2) := by decide +kernel
theorem dX0_withoutTheShy_23 : decode cX0_withoutTheShy 23 = .ok (.invokestatic 48, 3) := by decide +kernel
theorem dX0_withoutTheShy_26 : decode cX0_withoutTheShy 26 = .ok (.ifCond .eq 24, 3) := by decide +kernel
theorem dX0_withoutTheShy_29 : decode cX0_withoutTheShy 29 = .ok (.aload_n 0, 1) := by decide +kernel
theorem dX0_withoutTheShy_30 : decode cX0_withoutTheShy 30 = .ok (.invokevirtual 112, 3) := by decide +kernel
theorem dX0_withoutTheShy_33 : decode cX0_withoutTheShy 33 = .ok (.iload_n 3, 1) := by decide +kernel
theorem dX0_withoutTheShy_34 : decode cX0_withoutTheShy 34 = .ok (.if_icmp .ge 16, 3) := by decide +kernel
theorem dX0_withoutTheShy_37 : decode cX0_withoutTheShy 37 = .ok (.lload 4, 2) := by decide +kernel
theorem dX0_withoutTheShy_39 : decode cX0_withoutTheShy 39 = .ok (.lconst 1, 1) := by decide +kernel
theorem dX0_withoutTheShy_40 : decode cX0_withoutTheShy 40 = .ok (.iload 6, 2) := by decide +kernel
theorem dX0_withoutTheShy_42 : decode cX0_withoutTheShy 42 = .ok (.lshl, 1) := by decide +kernel
theorem dX0_withoutTheShy_43 : decode cX0_withoutTheShy 43 = .ok (.ldc2_w 46, 3) := by decide +kernel
theorem dX0_withoutTheShy_46 : decode cX0_withoutTheShy 46 = .ok (.lxor, 1) := by decide +kernel
theorem dX0_withoutTheShy_47 : decode cX0_withoutTheShy 47 = .ok (.land, 1) := by decide +kernel
theorem dX0_withoutTheShy_48 : decode cX0_withoutTheShy 48 = .ok (.lstore 4, 2) := by decide +kernel
theorem dX0_withoutTheShy_50 : decode cX0_withoutTheShy 50 = .ok (.iinc 6 1, 3) := by decide +kernel
theorem dX0_withoutTheShy_53 : decode cX0_withoutTheShy 53 = .ok (.goto (-40), 3) := by decide +kernel
theorem dX0_withoutTheShy_56 : decode cX0_withoutTheShy 56 = .ok (.lload 4, 2) := by decide +kernel
theorem dX0_withoutTheShy_58 : decode cX0_withoutTheShy 58 = .ok (.lreturn, 1) := by decide +kernel
theorem dX0_drawOfTen_0 : decode cX0_drawOfTen 0 = .ok (.aload_n 0, 1) := by decide +kernel
theorem dX0_drawOfTen_1 : decode cX0_drawOfTen 1 = .ok (.aload_n 0, 1) := by decide +kernel
theorem dX0_drawOfTen_2 : decode cX0_drawOfTen 2 = .ok (.getfield 24, 3) := by decide +kernel
theorem dX0_drawOfTen_5 : decode cX0_drawOfTen 5 = .ok (.ldc 116, 2) := by decide +kernel
theorem dX0_drawOfTen_7 : decode cX0_drawOfTen 7 = .ok (.imul, 1) := by decide +kernel
theorem dX0_drawOfTen_8 : decode cX0_drawOfTen 8 = .ok (.sipush 12345, 3) := by decide +kernel
theorem dX0_drawOfTen_11 : decode cX0_drawOfTen 11 = .ok (.iadd, 1) := by decide +kernel
theorem dX0_drawOfTen_12 : decode cX0_drawOfTen 12 = .ok (.putfield 24, 3) := by decide +kernel
theorem dX0_drawOfTen_15 : decode cX0_drawOfTen 15 = .ok (.aload_n 0, 1) := by decide +kernel
theorem dX0_drawOfTen_16 : decode cX0_drawOfTen 16 = .ok (.getfield 24, 3) := by decide +kernel
theorem dX0_drawOfTen_19 : decode cX0_drawOfTen 19 = .ok (.bipush 16, 2) := by decide +kernel
theorem dX0_drawOfTen_21 : decode cX0_drawOfTen 21 = .ok (.iushr, 1) := by decide +kernel
theorem dX0_drawOfTen_22 : decode cX0_drawOfTen 22 = .ok (.bipush 10, 2) := by decide +kernel
theorem dX0_drawOfTen_24 : decode cX0_drawOfTen 24 = .ok (.irem, 1) := by decide +kernel
theorem dX0_drawOfTen_25 : decode cX0_drawOfTen 25 = .ok (.ireturn, 1) := by decide +kernel
theorem dX0_countWays_0 : decode cX0_countWays 0 = .ok (.iconst 0, 1) := by decide +kernel
theorem dX0_countWays_1 : decode cX0_countWays 1 = .ok (.istore 4, 2) := by decide +kernel
theorem dX0_countWays_3 : decode cX0_countWays 3 = .ok (.iload 4, 2) := by decide +kernel
theorem dX0_countWays_5 : decode cX0_countWays 5 = .ok (.bipush 40, 2) := by decide +kernel
theorem dX0_countWays_7 : decode cX0_countWays 7 = .ok (.if_icmp .ge 44, 3) := by decide +kernel
theorem dX0_countWays_10 : decode cX0_countWays 10 = .ok (.lload_n 2, 1) := by decide +kernel
theorem dX0_countWays_11 : decode cX0_countWays 11 = .ok (.iload 4, 2) := by decide +kernel
theorem dX0_countWays_13 : decode cX0_countWays 13 = .ok (.invokestatic 48, 3) := by decide +kernel
theorem dX0_countWays_16 : decode cX0_countWays 16 = .ok (.ifCond .eq 29, 3) := by decide +kernel
theorem dX0_countWays_19 : decode cX0_countWays 19 = .ok (.aload_n 0, 1) := by decide +kernel
theorem dX0_countWays_20 : decode cX0_countWays 20 = .ok (.aload_n 1, 1) := by decide +kernel
theorem dX0_countWays_21 : decode cX0_countWays 21 = .ok (.iload 4, 2) := by decide +kernel
theorem dX0_countWays_23 : decode cX0_countWays 23 = .ok (.invokevirtual 65, 3) := by decide +kernel
theorem dX0_countWays_26 : decode cX0_countWays 26 = .ok (.aload_n 0, 1) := by decide +kernel
theorem dX0_countWays_27 : decode cX0_countWays 27 = .ok (.aload_n 0, 1) := by decide +kernel
theorem dX0_countWays_28 : decode cX0_countWays 28 = .ok (.getfield 21, 3) := by decide +kernel
theorem dX0_countWays_31 : decode cX0_countWays 31 = .ok (.iconst 0, 1) := by decide +kernel
theorem dX0_countWays_32 : decode cX0_countWays 32 = .ok (.iaload, 1) := by decide +kernel
theorem dX0_countWays_33 : decode cX0_countWays 33 = .ok (.aload_n 0, 1) := by decide +kernel
theorem dX0_countWays_34 : decode cX0_countWays 34 = .ok (.getfield 21, 3) := by decide +kernel
theorem dX0_countWays_37 : decode cX0_countWays 37 = .ok (.iconst 1, 1) := by decide +kernel
theorem dX0_countWays_38 : decode cX0_countWays 38 = .ok (.iaload, 1) := by decide +kernel
theorem dX0_countWays_39 : decode cX0_countWays 39 = .ok (.invokestatic 117, 3) := by decide +kernel
theorem dX0_countWays_42 : decode cX0_countWays 42 = .ok (.invokevirtual 121, 3) := by decide +kernel
theorem dX0_countWays_45 : decode cX0_countWays 45 = .ok (.iinc 4 1, 3) := by decide +kernel
theorem dX0_countWays_48 : decode cX0_countWays 48 = .ok (.goto (-45), 3) := by decide +kernel
theorem dX0_countWays_51 : decode cX0_countWays 51 = .ok (.return_, 1) := by decide +kernel
theorem dX0_countWay_0 : decode cX0_countWay 0 = .ok (.iload_n 1, 1) := by decide +kernel
theorem dX0_countWay_1 : decode cX0_countWay 1 = .ok (.ifCond .lt 18, 3) := by decide +kernel
theorem dX0_countWay_4 : decode cX0_countWay 4 = .ok (.iload_n 1, 1) := by decide +kernel
theorem dX0_countWay_5 : decode cX0_countWay 5 = .ok (.iconst 3, 1) := by decide +kernel
theorem dX0_countWay_6 : decode cX0_countWay 6 = .ok (.if_icmp .ge 13, 3) := by decide +kernel
theorem dX0_countWay_9 : decode cX0_countWay 9 = .ok (.aload_n 0, 1) := by decide +kernel
theorem dX0_countWay_10 : decode cX0_countWay 10 = .ok (.getfield 18, 3) := by decide +kernel
theorem dX0_countWay_13 : decode cX0_countWay 13 = .ok (.iload_n 1, 1) := by decide +kernel
theorem dX0_countWay_14 : decode cX0_countWay 14 = .ok (.dup2, 1) := by decide +kernel
theorem dX0_countWay_15 : decode cX0_countWay 15 = .ok (.iaload, 1) := by decide +kernel
theorem dX0_countWay_16 : decode cX0_countWay 16 = .ok (.iconst 1, 1) := by decide +kernel
theorem dX0_countWay_17 : decode cX0_countWay 17 = .ok (.iadd, 1) := by decide +kernel
theorem dX0_countWay_18 : decode cX0_countWay 18 = .ok (.iastore, 1) := by decide +kernel
theorem dX0_countWay_19 : decode cX0_countWay 19 = .ok (.return_, 1) := by decide +kernel
theorem dX0_wayOf_0 : decode cX0_wayOf 0 = .ok (.iload_n 0, 1) := by decide +kernel
theorem dX0_wayOf_1 : decode cX0_wayOf 1 = .ok (.ifCond .le 9, 3) := by decide +kernel
theorem dX0_wayOf_4 : decode cX0_wayOf 4 = .ok (.iload_n 1, 1) := by decide +kernel
theorem dX0_wayOf_5 : decode cX0_wayOf 5 = .ok (.ifCond .ne 5, 3) := by decide +kernel
theorem dX0_wayOf_8 : decode cX0_wayOf 8 = .ok (.iconst 0, 1) := by decide +kernel
theorem dX0_wayOf_9 : decode cX0_wayOf 9 = .ok (.ireturn, 1) := by decide +kernel
theorem dX0_wayOf_10 : decode cX0_wayOf 10 = .ok (.iload_n 1, 1) := by decide +kernel
theorem dX0_wayOf_11 : decode cX0_wayOf 11 = .ok (.ifCond .le 11, 3) := by decide +kernel
theorem dX0_wayOf_14 : decode cX0_wayOf 14 = .ok (.iload_n 0, 1) := by decide +kernel
theorem dX0_wayOf_15 : decode cX0_wayOf 15 = .ok (.ifCond .ne 7, 3) := by decide +kernel
theorem dX0_wayOf_18 : decode cX0_wayOf 18 = .ok (.iconst 1, 1) := by decide +kernel
theorem dX0_wayOf_19 : decode cX0_wayOf 19 = .ok (.goto 4, 3) := by decide +kernel
theorem dX0_wayOf_22 : decode cX0_wayOf 22 = .ok (.iconst 2, 1) := by decide +kernel
theorem dX0_wayOf_23 : decode cX0_wayOf 23 = .ok (.ireturn, 1) := by decide +kernel
theorem dX0_move_0 : decode cX0_move 0 = .ok (.aload_n 0, 1) := by decide +kernel
theorem dX0_move_1 : decode cX0_move 1 = .ok (.lload_n 2, 1) := by decide +kernel
theorem dX0_move_2 : decode cX0_move 2 = .ok (.putfield 28, 3) := by decide +kernel
theorem dX0_move_5 : decode cX0_move 5 = .ok (.aload_n 0, 1) := by decide +kernel
theorem dX0_move_6 : decode cX0_move 6 = .ok (.lload_n 2, 1) := by decide +kernel
theorem dX0_move_7 : decode cX0_move 7 = .ok (.putfield 32, 3) := by decide +kernel
theorem dX0_move_10 : decode cX0_move 10 = .ok (.iconst 0, 1) := by decide +kernel
theorem dX0_move_11 : decode cX0_move 11 = .ok (.istore 4, 2) := by decide +kernel
theorem dX0_move_13 : decode cX0_move 13 = .ok (.iload 4, 2) := by decide +kernel
theorem dX0_move_15 : decode cX0_move 15 = .ok (.bipush 40, 2) := by decide +kernel
theorem dX0_move_17 : decode cX0_move 17 = .ok (.if_icmp .ge 116, 3) := by decide +kernel
theorem dX0_move_20 : decode cX0_move 20 = .ok (.iload 4, 2) := by decide +kernel
theorem dX0_move_22 : decode cX0_move 22 = .ok (.aload_n 1, 1) := by decide +kernel
theorem dX0_move_23 : decode cX0_move 23 = .ok (.getfield 62, 3) := by decide +kernel
theorem dX0_move_26 : decode cX0_move 26 = .ok (.if_icmp .ge 107, 3) := by decide +kernel
theorem dX0_move_29 : decode cX0_move 29 = .ok (.lload_n 2, 1) := by decide +kernel
theorem dX0_move_30 : decode cX0_move 30 = .ok (.iload 4, 2) := by decide +kernel
theorem dX0_move_32 : decode cX0_move 32 = .ok (.invokestatic 48, 3) := by decide +kernel
theorem dX0_move_35 : decode cX0_move 35 = .ok (.ifCond .eq 25, 3) := by decide +kernel
theorem dX0_move_38 : decode cX0_move 38 = .ok (.aload_n 0, 1) := by decide +kernel
theorem dX0_move_39 : decode cX0_move 39 = .ok (.getfield 9, 3) := by decide +kernel
theorem dX0_move_42 : decode cX0_move 42 = .ok (.iload 4, 2) := by decide +kernel
theorem dX0_move_44 : decode cX0_move 44 = .ok (.iconst 1, 1) := by decide +kernel
theorem dX0_move_45 : decode cX0_move 45 = .ok (.iastore, 1) := by decide +kernel
theorem dX0_move_46 : decode cX0_move 46 = .ok (.aload_n 0, 1) := by decide +kernel
theorem dX0_move_47 : decode cX0_move 47 = .ok (.getfield 15, 3) := by decide +kernel
theorem dX0_move_50 : decode cX0_move 50 = .ok (.iload 4, 2) := by decide +kernel
theorem dX0_move_52 : decode cX0_move 52 = .ok (.dup2, 1) := by decide +kernel
theorem dX0_move_53 : decode cX0_move 53 = .ok (.iaload, 1) := by decide +kernel
theorem dX0_move_54 : decode cX0_move 54 = .ok (.iconst 1, 1) := by decide +kernel
theorem dX0_move_55 : decode cX0_move 55 = .ok (.iadd, 1) := by decide +kernel
theorem dX0_move_56 : decode cX0_move 56 = .ok (.iastore, 1) := by decide +kernel
theorem dX0_move_57 : decode cX0_move 57 = .ok (.goto 70, 3) := by decide +kernel
theorem dX0_move_60 : decode cX0_move 60 = .ok (.aload_n 0, 1) := by decide +kernel
theorem dX0_move_61 : decode cX0_move 61 = .ok (.getfield 9, 3) := by decide +kernel
theorem dX0_move_64 : decode cX0_move 64 = .ok (.iload 4, 2) := by decide +kernel
theorem dX0_move_66 : decode cX0_move 66 = .ok (.iaload, 1) := by decide +kernel
theorem dX0_move_67 : decode cX0_move 67 = .ok (.ifCond .eq 60, 3) := by decide +kernel
theorem dX0_move_70 : decode cX0_move 70 = .ok (.aload_n 0, 1) := by decide +kernel
theorem dX0_move_71 : decode cX0_move 71 = .ok (.getfield 9, 3) := by decide +kernel
theorem dX0_move_74 : decode cX0_move 74 = .ok (.iload 4, 2) := by decide +kernel
theorem dX0_move_76 : decode cX0_move 76 = .ok (.aload_n 1, 1) := by decide +kernel
theorem dX0_move_77 : decode cX0_move 77 = .ok (.aload_n 0, 1) := by decide +kernel
theorem dX0_move_78 : decode cX0_move 78 = .ok (.getfield 9, 3) := by decide +kernel
theorem dX0_move_81 : decode cX0_move 81 = .ok (.iload 4, 2) := by decide +kernel
theorem dX0_move_83 : decode cX0_move 83 = .ok (.iaload, 1) := by decide +kernel
theorem dX0_move_84 : decode cX0_move 84 = .ok (.invokestatic 125, 3) := by decide +kernel
theorem dX0_move_87 : decode cX0_move 87 = .ok (.iastore, 1) := by decide +kernel
theorem dX0_move_88 : decode cX0_move 88 = .ok (.aload_n 0, 1) := by decide +kernel
theorem dX0_move_89 : decode cX0_move 89 = .ok (.dup, 1) := by decide +kernel
theorem dX0_move_90 : decode cX0_move 90 = .ok (.getfield 28, 3) := by decide +kernel
theorem dX0_move_93 : decode cX0_move 93 = .ok (.aload_n 0, 1) := by decide +kernel
theorem dX0_move_94 : decode cX0_move 94 = .ok (.getfield 9, 3) := by decide +kernel
theorem dX0_move_97 : decode cX0_move 97 = .ok (.iload 4, 2) := by decide +kernel
theorem dX0_move_99 : decode cX0_move 99 = .ok (.iaload, 1) := by decide +kernel
theorem dX0_move_100 : decode cX0_move 100 = .ok (.ifCond .eq 22, 3) := by decide +kernel
theorem dX0_move_103 : decode cX0_move 103 = .ok (.aload_n 0, 1) := by decide +kernel
theorem dX0_move_104 : decode cX0_move 104 = .ok (.getfield 9, 3) := by decide +kernel
theorem dX0_move_107 : decode cX0_move 107 = .ok (.iload 4, 2) := by decide +kernel
theorem dX0_move_109 : decode cX0_move 109 = .ok (.iaload, 1) := by decide +kernel
theorem dX0_move_110 : decode cX0_move 110 = .ok (.bipush 10, 2) := by decide +kernel
theorem dX0_move_112 : decode cX0_move 112 = .ok (.if_icmp .ge 10, 3) := by decide +kernel
theorem dX0_move_115 : decode cX0_move 115 = .ok (.lconst 1, 1) := by decide +kernel
theorem dX0_move_116 : decode cX0_move 116 = .ok (.iload 4, 2) := by decide +kernel
theorem dX0_move_118 : decode cX0_move 118 = .ok (.lshl, 1) := by decide +kernel
theorem dX0_move_119 : decode cX0_move 119 = .ok (.goto 4, 3) := by decide +kernel
theorem dX0_move_122 : decode cX0_move 122 = .ok (.lconst 0, 1) := by decide +kernel
theorem dX0_move_123 : decode cX0_move 123 = .ok (.lor, 1) := by decide +kernel
theorem dX0_move_124 : decode cX0_move 124 = .ok (.putfield 28, 3) := by decide +kernel
theorem dX0_move_127 : decode cX0_move 127 = .ok (.iinc 4 1, 3) := by decide +kernel
theorem dX0_move_130 : decode cX0_move 130 = .ok (.goto (-117), 3) := by decide +kernel
theorem dX0_move_133 : decode cX0_move 133 = .ok (.aload_n 0, 1) := by decide +kernel
theorem dX0_move_134 : decode cX0_move 134 = .ok (.dup, 1) := by decide +kernel
theorem dX0_move_135 : decode cX0_move 135 = .ok (.getfield 35, 3) := by decide +kernel
theorem dX0_move_138 : decode cX0_move 138 = .ok (.iconst 1, 1) := by decide +kernel
theorem dX0_move_139 : decode cX0_move 139 = .ok (.iadd, 1) := by decide +kernel
theorem dX0_move_140 : decode cX0_move 140 = .ok (.putfield 35, 3) := by decide +kernel
theorem dX0_move_143 : decode cX0_move 143 = .ok (.return_, 1) := by decide +kernel
theorem dX0_stateBehind_0 : decode cX0_stateBehind 0 = .ok (.iload_n 1, 1) := by decide +kernel
theorem dX0_stateBehind_1 : decode cX0_stateBehind 1 = .ok (.bipush 10, 2) := by decide +kernel
theorem dX0_stateBehind_3 : decode cX0_stateBehind 3 = .ok (.if_icmp .ge 29, 3) := by decide +kernel
theorem dX0_stateBehind_6 : decode cX0_stateBehind 6 = .ok (.iload_n 1, 1) := by decide +kernel
theorem dX0_stateBehind_7 : decode cX0_stateBehind 7 = .ok (.aload_n 0, 1) := by decide +kernel
theorem dX0_stateBehind_8 : decode cX0_stateBehind 8 = .ok (.getfield 129, 3) := by decide +kernel
theorem dX0_stateBehind_11 : decode cX0_stateBehind 11 = .ok (.if_icmp .ge 7, 3) := by decide +kernel
theorem dX0_stateBehind_14 : decode cX0_stateBehind 14 = .ok (.iload_n 1, 1) := by decide +kernel
theorem dX0_stateBehind_15 : decode cX0_stateBehind 15 = .ok (.iconst 1, 1) := by decide +kernel
theorem dX0_stateBehind_16 : decode cX0_stateBehind 16 = .ok (.iadd, 1) := by decide +kernel
theorem dX0_stateBehind_17 : decode cX0_stateBehind 17 = .ok (.ireturn, 1) := by decide +kernel
theorem dX0_stateBehind_18 : decode cX0_stateBehind 18 = .ok (.aload_n 0, 1) := by decide +kernel
theorem dX0_stateBehind_19 : decode cX0_stateBehind 19 = .ok (.getfield 132, 3) := by decide +kernel
theorem dX0_stateBehind_22 : decode cX0_stateBehind 22 = .ok (.ifCond .le 8, 3) := by decide +kernel
theorem dX0_stateBehind_25 : decode cX0_stateBehind 25 = .ok (.bipush 11, 2) := by decide +kernel
theorem dX0_stateBehind_27 : decode cX0_stateBehind 27 = .ok (.goto 4, 3) := by decide +kernel
theorem dX0_stateBehind_30 : decode cX0_stateBehind 30 = .ok (.iconst 0, 1) := by decide +kernel
theorem dX0_stateBehind_31 : decode cX0_stateBehind 31 = .ok (.ireturn, 1) := by decide +kernel
theorem dX0_stateBehind_32 : decode cX0_stateBehind 32 = .ok (.iload_n 1, 1) := by decide +kernel
theorem dX0_stateBehind_33 : decode cX0_stateBehind 33 = .ok (.bipush 10, 2) := by decide +kernel
theorem dX0_stateBehind_35 : decode cX0_stateBehind 35 = .ok (.isub, 1) := by decide +kernel
theorem dX0_stateBehind_36 : decode cX0_stateBehind 36 = .ok (.aload_n 0, 1) := by decide +kernel
theorem dX0_stateBehind_37 : decode cX0_stateBehind 37 = .ok (.getfield 132, 3) := by decide +kernel
theorem dX0_stateBehind_40 : decode cX0_stateBehind 40 = .ok (.if_icmp .ge 9, 3) := by decide +kernel
theorem dX0_stateBehind_43 : decode cX0_stateBehind 43 = .ok (.iload_n 1, 1) := by decide +kernel
theorem dX0_stateBehind_44 : decode cX0_stateBehind 44 = .ok (.iconst 1, 1) := by decide +kernel
theorem dX0_stateBehind_45 : decode cX0_stateBehind 45 = .ok (.iadd, 1) := by decide +kernel
theorem dX0_stateBehind_46 : decode cX0_stateBehind 46 = .ok (.goto 4, 3) := by decide +kernel
theorem dX0_stateBehind_49 : decode cX0_stateBehind 49 = .ok (.iconst 0, 1) := by decide +kernel
theorem dX0_stateBehind_50 : decode cX0_stateBehind 50 = .ok (.ireturn, 1) := by decide +kernel
theorem dX1_init_0 : decode cX1_init 0 = .ok (.aload_n 0, 1) := by decide +kernel
theorem dX1_init_1 : decode cX1_init 1 = .ok (.invokespecial 3, 3) := by decide +kernel
theorem dX1_init_4 : decode cX1_init 4 = .ok (.aload_n 0, 1) := by decide +kernel
theorem dX1_init_5 : decode cX1_init 5 = .ok (.bipush 60, 2) := by decide +kernel
theorem dX1_init_7 : decode cX1_init 7 = .ok (.newarray .int, 2) := by decide +kernel
theorem dX1_init_9 : decode cX1_init 9 = .ok (.putfield 9, 3) := by decide +kernel
theorem dX1_init_12 : decode cX1_init 12 = .ok (.aload_n 0, 1) := by decide +kernel
theorem dX1_init_13 : decode cX1_init 13 = .ok (.bipush 60, 2) := by decide +kernel
theorem dX1_init_15 : decode cX1_init 15 = .ok (.newarray .long, 2) := by decide +kernel
theorem dX1_init_17 : decode cX1_init 17 = .ok (.putfield 15, 3) := by decide +kernel
theorem dX1_init_20 : decode cX1_init 20 = .ok (.aload_n 0, 1) := by decide +kernel
theorem dX1_init_21 : decode cX1_init 21 = .ok (.bipush 60, 2) := by decide +kernel
theorem dX1_init_23 : decode cX1_init 23 = .ok (.newarray .int, 2) := by decide +kernel
theorem dX1_init_25 : decode cX1_init 25 = .ok (.putfield 19, 3) := by decide +kernel
theorem dX1_init_28 : decode cX1_init 28 = .ok (.aload_n 0, 1) := by decide +kernel
theorem dX1_init_29 : decode cX1_init 29 = .ok (.bipush 60, 2) := by decide +kernel
theorem dX1_init_31 : decode cX1_init 31 = .ok (.newarray .int, 2) := by decide +kernel
theorem dX1_init_33 : decode cX1_init 33 = .ok (.putfield 22, 3) := by decide +kernel
theorem dX1_init_36 : decode cX1_init 36 = .ok (.aload_n 0, 1) := by decide +kernel
theorem dX1_init_37 : decode cX1_init 37 = .ok (.bipush 40, 2) := by decide +kernel
theorem dX1_init_39 : decode cX1_init 39 = .ok (.newarray .boolean, 2) := by decide +kernel
theorem dX1_init_41 : decode cX1_init 41 = .ok (.putfield 25, 3) := by decide +kernel
theorem dX1_init_44 : decode cX1_init 44 = .ok (.aload_n 0, 1) := by decide +kernel
theorem dX1_init_45 : decode cX1_init 45 = .ok (.bipush 40, 2) := by decide +kernel
theorem dX1_init_47 : decode cX1_init 47 = .ok (.newarray .long, 2) := by decide +kernel
theorem dX1_init_49 : decode cX1_init 49 = .ok (.putfield 29, 3) := by decide +kernel
theorem dX1_init_52 : decode cX1_init 52 = .ok (.aload_n 0, 1) := by decide +kernel
theorem dX1_init_53 : decode cX1_init 53 = .ok (.iconst (-1), 1) := by decide +kernel
theorem dX1_init_54 : decode cX1_init 54 = .ok (.putfield 32, 3) := by decide +kernel
theorem dX1_init_57 : decode cX1_init 57 = .ok (.aload_n 0, 1) := by decide +kernel
theorem dX1_init_58 : decode cX1_init 58 = .ok (.iconst (-1), 1) := by decide +kernel
theorem dX1_init_59 : decode cX1_init 59 = .ok (.putfield 36, 3) := by decide +kernel
theorem dX1_init_62 : decode cX1_init 62 = .ok (.return_, 1) := by decide +kernel
theorem dX1_forget_0 : decode cX1_forget 0 = .ok (.aload_n 0, 1) := by decide +kernel
theorem dX1_forget_1 : decode cX1_forget 1 = .ok (.iconst 0, 1) := by decide +kernel
theorem dX1_forget_2 : decode cX1_forget 2 = .ok (.putfield 39, 3) := by decide +kernel
theorem dX1_forget_5 : decode cX1_forget 5 = .ok (.return_, 1) := by decide +kernel
theorem dX1_tell_0 : decode cX1_tell 0 = .ok (.aload_n 0, 1) := by decide +kernel
theorem dX1_tell_1 : decode cX1_tell 1 = .ok (.getfield 39, 3) := by decide +kernel
theorem dX1_tell_4 : decode cX1_tell 4 = .ok (.ifCond .lt 12, 3) := by decide +kernel
theorem dX1_tell_7 : decode cX1_tell 7 = .ok (.aload_n 0, 1) := by decide +kernel
theorem dX1_tell_8 : decode cX1_tell 8 = .ok (.getfield 39, 3) := by decide +kernel
theorem dX1_tell_11 : decode cX1_tell 11 = .ok (.bipush 60, 2) := by decide +kernel
theorem dX1_tell_13 : decode cX1_tell 13 = .ok (.if_icmp .lt 5, 3) := by decide +kernel
theorem dX1_tell_16 : decode cX1_tell 16 = .ok (.iconst (-1), 1) := by decide +kernel
theorem dX1_tell_17 : decode cX1_tell 17 = .ok (.ireturn, 1) := by decide +kernel
theorem dX1_tell_18 : decode cX1_tell 18 = .ok (.aload_n 0, 1) := by decide +kernel
theorem dX1_tell_19 : decode cX1_tell 19 = .ok (.getfield 9, 3) := by decide +kernel
theorem dX1_tell_22 : decode cX1_tell 22 = .ok (.aload_n 0, 1) := by decide +kernel
theorem dX1_tell_23 : decode cX1_tell 23 = .ok (.getfield 39, 3) := by decide +kernel
theorem dX1_tell_26 : decode cX1_tell 26 = .ok (.iload_n 1, 1) := by decide +kernel
theorem dX1_tell_27 : decode cX1_tell 27 = .ok (.iastore, 1) := by decide +kernel
theorem dX1_tell_28 : decode cX1_tell 28 = .ok (.aload_n 0, 1) := by decide +kernel
theorem dX1_tell_29 : decode cX1_tell 29 = .ok (.getfield 15, 3) := by decide +kernel
theorem dX1_tell_32 : decode cX1_tell 32 = .ok (.aload_n 0, 1) := by decide +kernel
theorem dX1_tell_33 : decode cX1_tell 33 = .ok (.getfield 39, 3) := by decide +kernel
theorem dX1_tell_36 : decode cX1_tell 36 = .ok (.lload_n 2, 1) := by decide +kernel
theorem dX1_tell_37 : decode cX1_tell 37 = .ok (.lastore, 1) := by decide +kernel
theorem dX1_tell_38 : decode cX1_tell 38 = .ok (.aload_n 0, 1) := by decide +kernel
theorem dX1_tell_39 : decode cX1_tell 39 = .ok (.getfield 19, 3) := by decide +kernel
theorem dX1_tell_42 : decode cX1_tell 42 = .ok (.aload_n 0, 1) := by decide +kernel
theorem dX1_tell_43 : decode cX1_tell 43 = .ok (.getfield 39, 3) := by decide +kernel
theorem dX1_tell_46 : decode cX1_tell 46 = .ok (.aload_n 0, 1) := by decide +kernel
theorem dX1_tell_47 : decode cX1_tell 47 = .ok (.getfield 42, 3) := by decide +kernel
theorem dX1_tell_50 : decode cX1_tell 50 = .ok (.iastore, 1) := by decide +kernel
theorem dX1_tell_51 : decode cX1_tell 51 = .ok (.aload_n 0, 1) := by decide +kernel
theorem dX1_tell_52 : decode cX1_tell 52 = .ok (.getfield 22, 3) := by decide +kernel
theorem dX1_tell_55 : decode cX1_tell 55 = .ok (.aload_n 0, 1) := by decide +kernel
theorem dX1_tell_56 : decode cX1_tell 56 = .ok (.getfield 39, 3) := by decide +kernel
theorem dX1_tell_59 : decode cX1_tell 59 = .ok (.iconst (-1), 1) := by decide +kernel
theorem dX1_tell_60 : decode cX1_tell 60 = .ok (.iastore, 1) := by decide +kernel
theorem dX1_tell_61 : decode cX1_tell 61 = .ok (.aload_n 0, 1) := by decide +kernel
theorem dX1_tell_62 : decode cX1_tell 62 = .ok (.dup, 1) := by decide +kernel
theorem dX1_tell_63 : decode cX1_tell 63 = .ok (.getfield 39, 3) := by decide +kernel
theorem dX1_tell_66 : decode cX1_tell 66 = .ok (.iconst 1, 1) := by decide +kernel
theorem dX1_tell_67 : decode cX1_tell 67 = .ok (.iadd, 1) := by decide +kernel
theorem dX1_tell_68 : decode cX1_tell 68 = .ok (.putfield 39, 3) := by decide +kernel
theorem dX1_tell_71 : decode cX1_tell 71 = .ok (.aload_n 0, 1) := by decide +kernel
theorem dX1_tell_72 : decode cX1_tell 72 = .ok (.getfield 39, 3) := by decide +kernel
theorem dX1_tell_75 : decode cX1_tell 75 = .ok (.iconst 1, 1) := by decide +kernel
theorem dX1_tell_76 : decode cX1_tell 76 = .ok (.isub, 1) := by decide +kernel
theorem dX1_tell_77 : decode cX1_tell 77 = .ok (.ireturn, 1) := by decide +kernel
theorem dX1_takeBack_0 : decode cX1_takeBack 0 = .ok (.iload_n 1, 1) := by decide +kernel
theorem dX1_takeBack_1 : decode cX1_takeBack 1 = .ok (.ifCond .lt 27, 3) := by decide +kernel
theorem dX1_takeBack_4 : decode cX1_takeBack 4 = .ok (.iload_n 1, 1) := by decide +kernel
theorem dX1_takeBack_5 : decode cX1_takeBack 5 = .ok (.aload_n 0, 1) := by decide +kernel
theorem dX1_takeBack_6 : decode cX1_takeBack 6 = .ok (.getfield 39, 3) := by decide +kernel
theorem dX1_takeBack_9 : decode cX1_takeBack 9 = .ok (.if_icmp .ge 19, 3) := by decide +kernel
theorem dX1_takeBack_12 : decode cX1_takeBack 12 = .ok (.iload_n 1, 1) := by decide +kernel
theorem dX1_takeBack_13 : decode cX1_takeBack 13 = .ok (.bipush 60, 2) := by decide +kernel
theorem dX1_takeBack_15 : decode cX1_takeBack 15 = .ok (.if_icmp .ge 13, 3) := by decide +kernel
theorem dX1_takeBack_18 : decode cX1_takeBack 18 = .ok (.aload_n 0, 1) := by decide +kernel
theorem dX1_takeBack_19 : decode cX1_takeBack 19 = .ok (.getfield 22, 3) := by decide +kernel
theorem dX1_takeBack_22 : decode cX1_takeBack 22 = .ok (.iload_n 1, 1) := by decide +kernel
theorem dX1_takeBack_23 : decode cX1_takeBack 23 = .ok (.iaload, 1) := by decide +kernel
theorem dX1_takeBack_24 : decode cX1_takeBack 24 = .ok (.iconst (-1), 1) := by decide +kernel
theorem dX1_takeBack_25 : decode cX1_takeBack 25 = .ok (.if_icmp .eq 5, 3) := by decide +kernel
theorem dX1_takeBack_28 : decode cX1_takeBack 28 = .ok (.iconst 0, 1) := by decide +kernel
theorem dX1_takeBack_29 : decode cX1_takeBack 29 = .ok (.ireturn, 1) := by decide +kernel
theorem dX1_takeBack_30 : decode cX1_takeBack 30 = .ok (.aload_n 0, 1) := by decide +kernel
theorem dX1_takeBack_31 : decode cX1_takeBack 31 = .ok (.getfield 22, 3) := by decide +kernel
theorem dX1_takeBack_34 : decode cX1_takeBack 34 = .ok (.iload_n 1, 1) := by decide +kernel
theorem dX1_takeBack_35 : decode cX1_takeBack 35 = .ok (.aload_n 0, 1) := by decide +kernel
theorem dX1_takeBack_36 : decode cX1_takeBack 36 = .ok (.getfield 42, 3) := by decide +kernel
theorem dX1_takeBack_39 : decode cX1_takeBack 39 = .ok (.iastore, 1) := by decide +kernel
theorem dX1_takeBack_40 : decode cX1_takeBack 40 = .ok (.iconst 1, 1) := by decide +kernel
theorem dX1_takeBack_41 : decode cX1_takeBack 41 = .ok (.ireturn, 1) := by decide +kernel
theorem dX1_recall_0 : decode cX1_recall 0 = .ok (.iconst 0, 1) := by decide +kernel
theorem dX1_recall_1 : decode cX1_recall 1 = .ok (.istore_n 2, 1) := by decide +kernel
theorem dX1_recall_2 : decode cX1_recall 2 = .ok (.iload_n 2, 1) := by decide +kernel
theorem dX1_recall_3 : decode cX1_recall 3 = .ok (.bipush 40, 2) := by decide +kernel
theorem dX1_recall_5 : decode cX1_recall 5 = .ok (.if_icmp .ge 16, 3) := by decide +kernel
theorem dX1_recall_8 : decode cX1_recall 8 = .ok (.aload_n 0, 1) := by decide +kernel
theorem dX1_recall_9 : decode cX1_recall 9 = .ok (.getfield 25, 3) := by decide +kernel
theorem dX1_recall_12 : decode cX1_recall 12 = .ok (.iload_n 2, 1) := by decide +kernel
theorem dX1_recall_13 : decode cX1_recall 13 = .ok (.iconst 0, 1) := by decide +kernel
theorem dX1_recall_14 : decode cX1_recall 14 = .ok (.bastore, 1) := by decide +kernel
theorem dX1_recall_15 : decode cX1_recall 15 = .ok (.iinc 2 1, 3) := by decide +kernel
theorem dX1_recall_18 : decode cX1_recall 18 = .ok (.goto (-16), 3) := by decide +kernel
theorem dX1_recall_21 : decode cX1_recall 21 = .ok (.iconst 0, 1) := by decide +kernel
theorem dX1_recall_22 : decode cX1_recall 22 = .ok (.istore_n 2, 1) := by decide +kernel
theorem dX1_recall_23 : decode cX1_recall 23 = .ok (.iload_n 2, 1) := by decide +kernel
theorem dX1_recall_24 : decode cX1_recall 24 = .ok (.aload_n 0, 1) := by decide +kernel
theorem dX1_recall_25 : decode cX1_recall 25 = .ok (.getfield 39, 3) := by decide +kernel
theorem dX1_recall_28 : decode cX1_recall 28 = .ok (.if_icmp .ge 60, 3) := by decide +kernel
theorem dX1_recall_31 : decode cX1_recall 31 = .ok (.iload_n 2, 1) := by decide +kernel
theorem dX1_recall_32 : decode cX1_recall 32 = .ok (.bipush 60, 2) := by decide +kernel
theorem dX1_recall_34 : decode cX1_recall 34 = .ok (.if_icmp .ge 54, 3) := by decide +kernel
theorem dX1_recall_37 : decode cX1_recall 37 = .ok (.aload_n 0, 1) := by decide +kernel
theorem dX1_recall_38 : decode cX1_recall 38 = .ok (.getfield 9, 3) := by decide +kernel
theorem dX1_recall_41 : decode cX1_recall 41 = .ok (.iload_n 2, 1) := by decide +kernel
theorem dX1_recall_42 : decode cX1_recall 42 = .ok (.iaload, 1) := by decide +kernel
theorem dX1_recall_43 : decode cX1_recall 43 = .ok (.istore_n 3, 1) := by decide +kernel
theorem dX1_recall_44 : decode cX1_recall 44 = .ok (.aload_n 0, 1) := by decide +kernel
theorem dX1_recall_45 : decode cX1_recall 45 = .ok (.iload_n 2, 1) := by decide +kernel
theorem dX1_recall_46 : decode cX1_recall 46 = .ok (.iload_n 1, 1) := by decide +kernel
theorem dX1_recall_47 : decode cX1_recall 47 = .ok (.invokevirtual 45, 3) := by decide +kernel
theorem dX1_recall_50 : decode cX1_recall 50 = .ok (.ifCond .eq 32, 3) := by decide +kernel
theorem dX1_recall_53 : decode cX1_recall 53 = .ok (.iload_n 3, 1) := by decide +kernel
theorem dX1_recall_54 : decode cX1_recall 54 = .ok (.ifCond .lt 28, 3) := by decide +kernel
theorem dX1_recall_57 : decode cX1_recall 57 = .ok (.iload_n 3, 1) := by decide +kernel
theorem dX1_recall_58 : decode cX1_recall 58 = .ok (.bipush 40, 2) := by decide +kernel
theorem dX1_recall_60 : decode cX1_recall 60 = .ok (.if_icmp .ge 22, 3) := by decide +kernel
theorem dX1_recall_63 : decode cX1_recall 63 = .ok (.aload_n 0, 1) := by decide +kernel
theorem dX1_recall_64 : decode cX1_recall 64 = .ok (.getfield 25, 3) := by decide +kernel
theorem dX1_recall_67 : decode cX1_recall 67 = .ok (.iload_n 3, 1) := by decide +kernel
theorem dX1_recall_68 : decode cX1_recall 68 = .ok (.iconst 1, 1) := by decide +kernel
theorem dX1_recall_69 : decode cX1_recall 69 = .ok (.bastore, 1) := by decide +kernel
theorem dX1_recall_70 : decode cX1_recall 70 = .ok (.aload_n 0, 1) := by decide +kernel
theorem dX1_recall_71 : decode cX1_recall 71 = .ok (.getfield 29, 3) := by decide +kernel
theorem dX1_recall_74 : decode cX1_recall 74 = .ok (.iload_n 3, 1) := by decide +kernel
theorem dX1_recall_75 : decode cX1_recall 75 = .ok (.aload_n 0, 1) := by decide +kernel
theorem dX1_recall_76 : decode cX1_recall 76 = .ok (.getfield 15, 3) := by decide +kernel
theorem dX1_recall_79 : decode cX1_recall 79 = .ok (.iload_n 2, 1) := by decide +kernel
theorem dX1_recall_80 : decode cX1_recall 80 = .ok (.laload, 1) := by decide +kernel
theorem dX1_recall_81 : decode cX1_recall 81 = .ok (.lastore, 1) := by decide +kernel
theorem dX1_recall_82 : decode cX1_recall 82 = .ok (.iinc 2 1, 3) := by decide +kernel
theorem dX1_recall_85 : decode cX1_recall 85 = .ok (.goto (-62), 3) := by decide +kernel
theorem dX1_recall_88 : decode cX1_recall 88 = .ok (.aload_n 0, 1) := by decide +kernel
theorem dX1_recall_89 : decode cX1_recall 89 = .ok (.iconst (-1), 1) := by decide +kernel
theorem dX1_recall_90 : decode cX1_recall 90 = .ok (.putfield 32, 3) := by decide +kernel
theorem dX1_recall_93 : decode cX1_recall 93 = .ok (.aload_n 0, 1) := by decide +kernel
theorem dX1_recall_94 : decode cX1_recall 94 = .ok (.iconst (-1), 1) := by decide +kernel
theorem dX1_recall_95 : decode cX1_recall 95 = .ok (.putfield 36, 3) := by decide +kernel
theorem dX1_recall_98 : decode cX1_recall 98 = .ok (.iconst 0, 1) := by decide +kernel
theorem dX1_recall_99 : decode cX1_recall 99 = .ok (.istore_n 2, 1) := by decide +kernel
theorem dX1_recall_100 : decode cX1_recall 100 = .ok (.iload_n 2, 1) := by decide +kernel
theorem dX1_recall_101 : decode cX1_recall 101 = .ok (.bipush 40, 2) := by decide +kernel
theorem dX1_recall_103 : decode cX1_recall 103 = .ok (.if_icmp .ge 43, 3) := by decide +kernel
theorem dX1_recall_106 : decode cX1_recall 106 = .ok (.aload_n 0, 1) := by decide +kernel
theorem dX1_recall_107 : decode cX1_recall 107 = .ok (.getfield 25, 3) := by decide +kernel
theorem dX1_recall_110 : decode cX1_recall 110 = .ok (.iload_n 2, 1) := by decide +kernel
theorem dX1_recall_111 : decode cX1_recall 111 = .ok (.baload, 1) := by decide +kernel
theorem dX1_recall_112 : decode cX1_recall 112 = .ok (.ifCond .eq 28, 3) := by decide +kernel
theorem dX1_recall_115 : decode cX1_recall 115 = .ok (.aload_n 0, 1) := by decide +kernel
theorem dX1_recall_116 : decode cX1_recall 116 = .ok (.aload_n 0, 1) := by decide +kernel
theorem dX1_recall_117 : decode cX1_recall 117 = .ok (.getfield 32, 3) := by decide +kernel
theorem dX1_recall_120 : decode cX1_recall 120 = .ok (.iconst (-1), 1) := by decide +kernel
theorem dX1_recall_121 : decode cX1_recall 121 = .ok (.if_icmp .ne 7, 3) := by decide +kernel
theorem dX1_recall_124 : decode cX1_recall 124 = .ok (.iload_n 2, 1) := by decide +kernel
theorem dX1_recall_125 : decode cX1_recall 125 = .ok (.goto 7, 3) := by decide +kernel
theorem dX1_recall_128 : decode cX1_recall 128 = .ok (.aload_n 0, 1) := by decide +kernel
theorem dX1_recall_129 : decode cX1_recall 129 = .ok (.getfield 32, 3) := by decide +kernel
theorem dX1_recall_132 : decode cX1_recall 132 = .ok (.putfield 32, 3) := by decide +kernel
theorem dX1_recall_135 : decode cX1_recall 135 = .ok (.aload_n 0, 1) := by decide +kernel
theorem dX1_recall_136 : decode cX1_recall 136 = .ok (.iload_n 2, 1) := by decide +kernel
theorem dX1_recall_137 : decode cX1_recall 137 = .ok (.putfield 36, 3) := by decide +kernel
theorem dX1_recall_140 : decode cX1_recall 140 = .ok (.iinc 2 1, 3) := by decide +kernel
theorem dX1_recall_143 : decode cX1_recall 143 = .ok (.goto (-43), 3) := by decide +kernel
theorem dX1_recall_146 : decode cX1_recall 146 = .ok (.return_, 1) := by decide +kernel
theorem dX1_counts_0 : decode cX1_counts 0 = .ok (.aload_n 0, 1) := by decide +kernel
theorem dX1_counts_1 : decode cX1_counts 1 = .ok (.getfield 22, 3) := by decide +kernel
theorem dX1_counts_4 : decode cX1_counts 4 = .ok (.iload_n 1, 1) := by decide +kernel
theorem dX1_counts_5 : decode cX1_counts 5 = .ok (.iaload, 1) := by decide +kernel
theorem dX1_counts_6 : decode cX1_counts 6 = .ok (.iconst (-1), 1) := by decide +kernel
theorem dX1_counts_7 : decode cX1_counts 7 = .ok (.if_icmp .eq 17, 3) := by decide +kernel
theorem dX1_counts_10 : decode cX1_counts 10 = .ok (.aload_n 0, 1) := by decide +kernel
theorem dX1_counts_11 : decode cX1_counts 11 = .ok (.getfield 22, 3) := by decide +kernel
theorem dX1_counts_14 : decode cX1_counts 14 = .ok (.iload_n 1, 1) := by decide +kernel
theorem dX1_counts_15 : decode cX1_counts 15 = .ok (.iaload, 1) := by decide +kernel
theorem dX1_counts_16 : decode cX1_counts 16 = .ok (.iload_n 2, 1) := by decide +kernel
theorem dX1_counts_17 : decode cX1_counts 17 = .ok (.if_icmp .gt 7, 3) := by decide +kernel
theorem dX1_counts_20 : decode cX1_counts 20 = .ok (.iconst 1, 1) := by decide +kernel
theorem dX1_counts_21 : decode cX1_counts 21 = .ok (.goto 4, 3) := by decide +kernel
theorem dX1_counts_24 : decode cX1_counts 24 = .ok (.iconst 0, 1) := by decide +kernel
theorem dX1_counts_25 : decode cX1_counts 25 = .ok (.istore_n 3, 1) := by decide +kernel
theorem dX1_counts_26 : decode cX1_counts 26 = .ok (.aload_n 0, 1) := by decide +kernel
theorem dX1_counts_27 : decode cX1_counts 27 = .ok (.getfield 19, 3) := by decide +kernel
theorem dX1_counts_30 : decode cX1_counts 30 = .ok (.iload_n 1, 1) := by decide +kernel
theorem dX1_counts_31 : decode cX1_counts 31 = .ok (.iaload, 1) := by decide +kernel
theorem dX1_counts_32 : decode cX1_counts 32 = .ok (.iload_n 2, 1) := by decide +kernel
theorem dX1_counts_33 : decode cX1_counts 33 = .ok (.if_icmp .gt 11, 3) := by decide +kernel
theorem dX1_counts_36 : decode cX1_counts 36 = .ok (.iload_n 3, 1) := by decide +kernel
theorem dX1_counts_37 : decode cX1_counts 37 = .ok (.ifCond .ne 7, 3) := by decide +kernel
theorem dX1_counts_40 : decode cX1_counts 40 = .ok (.iconst 1, 1) := by decide +kernel
theorem dX1_counts_41 : decode cX1_counts 41 = .ok (.goto 4, 3) := by decide +kernel
theorem dX1_counts_44 : decode cX1_counts 44 = .ok (.iconst 0, 1) := by decide +kernel
theorem dX1_counts_45 : decode cX1_counts 45 = .ok (.ireturn, 1) := by decide +kernel
theorem dX1_let_0 : decode cX1_let 0 = .ok (.aload_n 0, 1) := by decide +kernel
theorem dX1_let_1 : decode cX1_let 1 = .ok (.getfield 32, 3) := by decide +kernel
theorem dX1_let_4 : decode cX1_let 4 = .ok (.ifCond .lt 12, 3) := by decide +kernel
theorem dX1_let_7 : decode cX1_let 7 = .ok (.aload_n 0, 1) := by decide +kernel
theorem dX1_let_8 : decode cX1_let 8 = .ok (.getfield 32, 3) := by decide +kernel
theorem dX1_let_11 : decode cX1_let 11 = .ok (.bipush 40, 2) := by decide +kernel
theorem dX1_let_13 : decode cX1_let 13 = .ok (.if_icmp .lt 5, 3) := by decide +kernel
theorem dX1_let_16 : decode cX1_let 16 = .ok (.iconst 1, 1) := by decide +kernel
theorem dX1_let_17 : decode cX1_let 17 = .ok (.ireturn, 1) := by decide +kernel
theorem dX1_let_18 : decode cX1_let 18 = .ok (.aload_n 0, 1) := by decide +kernel
theorem dX1_let_19 : decode cX1_let 19 = .ok (.getfield 29, 3) := by decide +kernel
theorem dX1_let_22 : decode cX1_let 22 = .ok (.aload_n 0, 1) := by decide +kernel
theorem dX1_let_23 : decode cX1_let 23 = .ok (.getfield 32, 3) := by decide +kernel
theorem dX1_let_26 : decode cX1_let 26 = .ok (.laload, 1) := by decide +kernel
theorem dX1_let_27 : decode cX1_let 27 = .ok (.aload_n 1, 1) := by decide +kernel
theorem dX1_let_28 : decode cX1_let 28 = .ok (.getfield 49, 3) := by decide +kernel
theorem dX1_let_31 : decode cX1_let 31 = .ok (.getfield 55, 3) := by decide +kernel
theorem dX1_let_34 : decode cX1_let 34 = .ok (.land, 1) := by decide +kernel
theorem dX1_let_35 : decode cX1_let 35 = .ok (.lconst 0, 1) := by decide +kernel
theorem dX1_let_36 : decode cX1_let 36 = .ok (.lcmp, 1) := by decide +kernel
theorem dX1_let_37 : decode cX1_let 37 = .ok (.ifCond .eq 5, 3) := by decide +kernel
theorem dX1_let_40 : decode cX1_let 40 = .ok (.iconst 0, 1) := by decide +kernel
theorem dX1_let_41 : decode cX1_let 41 = .ok (.ireturn, 1) := by decide +kernel
theorem dX1_let_42 : decode cX1_let 42 = .ok (.aload_n 1, 1) := by decide +kernel
theorem dX1_let_43 : decode cX1_let 43 = .ok (.aload_n 0, 1) := by decide +kernel
theorem dX1_let_44 : decode cX1_let 44 = .ok (.getfield 29, 3) := by decide +kernel
theorem dX1_let_47 : decode cX1_let 47 = .ok (.aload_n 0, 1) := by decide +kernel
theorem dX1_let_48 : decode cX1_let 48 = .ok (.getfield 32, 3) := by decide +kernel
theorem dX1_let_51 : decode cX1_let 51 = .ok (.laload, 1) := by decide +kernel
theorem dX1_let_52 : decode cX1_let 52 = .ok (.invokevirtual 61, 3) := by decide +kernel
theorem dX1_let_55 : decode cX1_let 55 = .ok (.aload_n 0, 1) := by decide +kernel
theorem dX1_let_56 : decode cX1_let 56 = .ok (.getfield 32, 3) := by decide +kernel
theorem dX1_let_59 : decode cX1_let 59 = .ok (.iconst 1, 1) := by decide +kernel
theorem dX1_let_60 : decode cX1_let 60 = .ok (.iadd, 1) := by decide +kernel
theorem dX1_let_61 : decode cX1_let 61 = .ok (.istore_n 2, 1) := by decide +kernel
theorem dX1_let_62 : decode cX1_let 62 = .ok (.iload_n 2, 1) := by decide +kernel
theorem dX1_let_63 : decode cX1_let 63 = .ok (.aload_n 0, 1) := by decide +kernel
theorem dX1_let_64 : decode cX1_let 64 = .ok (.getfield 36, 3) := by decide +kernel
theorem dX1_let_67 : decode cX1_let 67 = .ok (.if_icmp .gt 44, 3) := by decide +kernel
theorem dX1_let_70 : decode cX1_let 70 = .ok (.iload_n 2, 1) := by decide +kernel
theorem dX1_let_71 : decode cX1_let 71 = .ok (.bipush 40, 2) := by decide +kernel
theorem dX1_let_73 : decode cX1_let 73 = .ok (.if_icmp .ge 38, 3) := by decide +kernel
theorem dX1_let_76 : decode cX1_let 76 = .ok (.aload_n 1, 1) := by decide +kernel
theorem dX1_let_77 : decode cX1_let 77 = .ok (.invokevirtual 65, 3) := by decide +kernel
theorem dX1_let_80 : decode cX1_let 80 = .ok (.aload_n 0, 1) := by decide +kernel
theorem dX1_let_81 : decode cX1_let 81 = .ok (.getfield 25, 3) := by decide +kernel
theorem dX1_let_84 : decode cX1_let 84 = .ok (.iload_n 2, 1) := by decide +kernel
theorem dX1_let_85 : decode cX1_let 85 = .ok (.baload, 1) := by decide +kernel
theorem dX1_let_86 : decode cX1_let 86 = .ok (.ifCond .eq 19, 3) := by decide +kernel
theorem dX1_let_89 : decode cX1_let 89 = .ok (.aload_n 1, 1) := by decide +kernel
theorem dX1_let_90 : decode cX1_let 90 = .ok (.invokevirtual 68, 3) := by decide +kernel
theorem dX1_let_93 : decode cX1_let 93 = .ok (.aload_n 0, 1) := by decide +kernel
theorem dX1_let_94 : decode cX1_let 94 = .ok (.getfield 29, 3) := by decide +kernel
theorem dX1_let_97 : decode cX1_let 97 = .ok (.iload_n 2, 1) := by decide +kernel
theorem dX1_let_98 : decode cX1_let 98 = .ok (.laload, 1) := by decide +kernel
theorem dX1_let_99 : decode cX1_let 99 = .ok (.lcmp, 1) := by decide +kernel
theorem dX1_let_100 : decode cX1_let 100 = .ok (.ifCond .eq 5, 3) := by decide +kernel
theorem dX1_let_103 : decode cX1_let 103 = .ok (.iconst 0, 1) := by decide +kernel
theorem dX1_let_104 : decode cX1_let 104 = .ok (.ireturn, 1) := by decide +kernel
theorem dX1_let_105 : decode cX1_let 105 = .ok (.iinc 2 1, 3) := by decide +kernel
theorem dX1_let_108 : decode cX1_let 108 = .ok (.goto (-46), 3) := by decide +kernel
theorem dX1_let_111 : decode cX1_let 111 = .ok (.iconst 1, 1) := by decide +kernel
theorem dX1_let_112 : decode cX1_let 112 = .ok (.ireturn, 1) := by decide +kernel
theorem dX1_shownBy_0 : decode cX1_shownBy 0 = .ok (.aload_n 0, 1) := by decide +kernel
theorem dX1_shownBy_1 : decode cX1_shownBy 1 = .ok (.getfield 32, 3) := by decide +kernel
theorem dX1_shownBy_4 : decode cX1_shownBy 4 = .ok (.ifCond .lt 12, 3) := by decide +kernel
theorem dX1_shownBy_7 : decode cX1_shownBy 7 = .ok (.aload_n 0, 1) := by decide +kernel
theorem dX1_shownBy_8 : decode cX1_shownBy 8 = .ok (.getfield 32, 3) := by decide +kernel
theorem dX1_shownBy_11 : decode cX1_shownBy 11 = .ok (.bipush 40, 2) := by decide +kernel
theorem dX1_shownBy_13 : decode cX1_shownBy 13 = .ok (.if_icmp .lt 5, 3) := by decide +kernel
theorem dX1_shownBy_16 : decode cX1_shownBy 16 = .ok (.lconst 0, 1) := by decide +kernel
theorem dX1_shownBy_17 : decode cX1_shownBy 17 = .ok (.lreturn, 1) := by decide +kernel
theorem dX1_shownBy_18 : decode cX1_shownBy 18 = .ok (.aload_n 1, 1) := by decide +kernel
theorem dX1_shownBy_19 : decode cX1_shownBy 19 = .ok (.aload_n 0, 1) := by decide +kernel
theorem dX1_shownBy_20 : decode cX1_shownBy 20 = .ok (.getfield 29, 3) := by decide +kernel
theorem dX1_shownBy_23 : decode cX1_shownBy 23 = .ok (.aload_n 0, 1) := by decide +kernel
theorem dX1_shownBy_24 : decode cX1_shownBy 24 = .ok (.getfield 32, 3) := by decide +kernel
theorem dX1_shownBy_27 : decode cX1_shownBy 27 = .ok (.laload, 1) := by decide +kernel
theorem dX1_shownBy_28 : decode cX1_shownBy 28 = .ok (.invokevirtual 61, 3) := by decide +kernel
theorem dX1_shownBy_31 : decode cX1_shownBy 31 = .ok (.aload_n 0, 1) := by decide +kernel
theorem dX1_shownBy_32 : decode cX1_shownBy 32 = .ok (.getfield 32, 3) := by decide +kernel
theorem dX1_shownBy_35 : decode cX1_shownBy 35 = .ok (.istore_n 3, 1) := by decide +kernel
theorem dX1_shownBy_36 : decode cX1_shownBy 36 = .ok (.iload_n 3, 1) := by decide +kernel
theorem dX1_shownBy_37 : decode cX1_shownBy 37 = .ok (.iload_n 2, 1) := by decide +kernel
theorem dX1_shownBy_38 : decode cX1_shownBy 38 = .ok (.if_icmp .ge 19, 3) := by decide +kernel
theorem dX1_shownBy_41 : decode cX1_shownBy 41 = .ok (.iload_n 3, 1) := by decide +kernel
theorem dX1_shownBy_42 : decode cX1_shownBy 42 = .ok (.bipush 40, 2) := by decide +kernel
theorem dX1_shownBy_44 : decode cX1_shownBy 44 = .ok (.if_icmp .ge 13, 3) := by decide +kernel
theorem dX1_shownBy_47 : decode cX1_shownBy 47 = .ok (.aload_n 1, 1) := by decide +kernel
theorem dX1_shownBy_48 : decode cX1_shownBy 48 = .ok (.invokevirtual 65, 3) := by decide +kernel
theorem dX1_shownBy_51 : decode cX1_shownBy 51 = .ok (.iinc 3 1, 3) := by decide +kernel
theorem dX1_shownBy_54 : decode cX1_shownBy 54 = .ok (.goto (-18), 3) := by decide +kernel
theorem dX1_shownBy_57 : decode cX1_shownBy 57 = .ok (.aload_n 1, 1) := by decide +kernel
theorem dX1_shownBy_58 : decode cX1_shownBy 58 = .ok (.invokevirtual 68, 3) := by decide +kernel
theorem dX1_shownBy_61 : decode cX1_shownBy 61 = .ok (.lreturn, 1) := by decide +kernel
theorem dX2_init_0 : decode cX2_init 0 = .ok (.aload_n 0, 1) := by decide +kernel
theorem dX2_init_1 : decode cX2_init 1 = .ok (.invokespecial 3, 3) := by decide +kernel
theorem dX2_init_4 : decode cX2_init 4 = .ok (.aload_n 0, 1) := by decide +kernel
theorem dX2_init_5 : decode cX2_init 5 = .ok (.sipush 260, 3) := by decide +kernel
theorem dX2_init_8 : decode cX2_init 8 = .ok (.newarray .int, 2) := by decide +kernel
theorem dX2_init_10 : decode cX2_init 10 = .ok (.putfield 9, 3) := by decide +kernel
theorem dX2_init_13 : decode cX2_init 13 = .ok (.aload_n 0, 1) := by decide +kernel
theorem dX2_init_14 : decode cX2_init 14 = .ok (.bipush 30, 2) := by decide +kernel
theorem dX2_init_16 : decode cX2_init 16 = .ok (.newarray .int, 2) := by decide +kernel
theorem dX2_init_18 : decode cX2_init 18 = .ok (.putfield 15, 3) := by decide +kernel
theorem dX2_init_21 : decode cX2_init 21 = .ok (.return_, 1) := by decide +kernel
theorem dX2_clear_0 : decode cX2_clear 0 = .ok (.aload_n 0, 1) := by decide +kernel
theorem dX2_clear_1 : decode cX2_clear 1 = .ok (.iconst 0, 1) := by decide +kernel
theorem dX2_clear_2 : decode cX2_clear 2 = .ok (.putfield 18, 3) := by decide +kernel
theorem dX2_clear_5 : decode cX2_clear 5 = .ok (.aload_n 0, 1) := by decide +kernel
theorem dX2_clear_6 : decode cX2_clear 6 = .ok (.iconst 0, 1) := by decide +kernel
theorem dX2_clear_7 : decode cX2_clear 7 = .ok (.putfield 22, 3) := by decide +kernel
theorem dX2_clear_10 : decode cX2_clear 10 = .ok (.return_, 1) := by decide +kernel
theorem dX2_add_0 : decode cX2_add 0 = .ok (.aload_n 0, 1) := by decide +kernel
theorem dX2_add_1 : decode cX2_add 1 = .ok (.getfield 18, 3) := by decide +kernel
theorem dX2_add_4 : decode cX2_add 4 = .ok (.ifCond .lt 35, 3) := by decide +kernel
theorem dX2_add_7 : decode cX2_add 7 = .ok (.aload_n 0, 1) := by decide +kernel
theorem dX2_add_8 : decode cX2_add 8 = .ok (.getfield 18, 3) := by decide +kernel
theorem dX2_add_11 : decode cX2_add 11 = .ok (.aload_n 0, 1) := by decide +kernel
theorem dX2_add_12 : decode cX2_add 12 = .ok (.getfield 9, 3) := by decide +kernel
theorem dX2_add_15 : decode cX2_add 15 = .ok (.arraylength, 1) := by decide +kernel
theorem dX2_add_16 : decode cX2_add 16 = .ok (.if_icmp .ge 23, 3) := by decide +kernel
theorem dX2_add_19 : decode cX2_add 19 = .ok (.aload_n 0, 1) := by decide +kernel
theorem dX2_add_20 : decode cX2_add 20 = .ok (.getfield 9, 3) := by decide +kernel
theorem dX2_add_23 : decode cX2_add 23 = .ok (.aload_n 0, 1) := by decide +kernel
theorem dX2_add_24 : decode cX2_add 24 = .ok (.getfield 18, 3) := by decide +kernel
theorem dX2_add_27 : decode cX2_add 27 = .ok (.iload_n 1, 1) := by decide +kernel
theorem dX2_add_28 : decode cX2_add 28 = .ok (.iastore, 1) := by decide +kernel
theorem dX2_add_29 : decode cX2_add 29 = .ok (.aload_n 0, 1) := by decide +kernel
theorem dX2_add_30 : decode cX2_add 30 = .ok (.dup, 1) := by decide +kernel
theorem dX2_add_31 : decode cX2_add 31 = .ok (.getfield 18, 3) := by decide +kernel
theorem dX2_add_34 : decode cX2_add 34 = .ok (.iconst 1, 1) := by decide +kernel
theorem dX2_add_35 : decode cX2_add 35 = .ok (.iadd, 1) := by decide +kernel
theorem dX2_add_36 : decode cX2_add 36 = .ok (.putfield 18, 3) := by decide +kernel
theorem dX2_add_39 : decode cX2_add 39 = .ok (.return_, 1) := by decide +kernel
theorem dX2_addUnit_0 : decode cX2_addUnit 0 = .ok (.aload_n 0, 1) := by decide +kernel
theorem dX2_addUnit_1 : decode cX2_addUnit 1 = .ok (.iload_n 1, 1) := by decide +kernel
theorem dX2_addUnit_2 : decode cX2_addUnit 2 = .ok (.invokevirtual 25, 3) := by decide +kernel
theorem dX2_addUnit_5 : decode cX2_addUnit 5 = .ok (.aload_n 0, 1) := by decide +kernel
theorem dX2_addUnit_6 : decode cX2_addUnit 6 = .ok (.dup, 1) := by decide +kernel
theorem dX2_addUnit_7 : decode cX2_addUnit 7 = .ok (.getfield 22, 3) := by decide +kernel
theorem dX2_addUnit_10 : decode cX2_addUnit 10 = .ok (.iconst 1, 1) := by decide +kernel
theorem dX2_addUnit_11 : decode cX2_addUnit 11 = .ok (.iadd, 1) := by decide +kernel
theorem dX2_addUnit_12 : decode cX2_addUnit 12 = .ok (.putfield 22, 3) := by decide +kernel
theorem dX2_addUnit_15 : decode cX2_addUnit 15 = .ok (.return_, 1) := by decide +kernel
theorem dX2_worth_0 : decode cX2_worth 0 = .ok (.iconst 0, 1) := by decide +kernel
theorem dX2_worth_1 : decode cX2_worth 1 = .ok (.istore_n 2, 1) := by decide +kernel
theorem dX2_worth_2 : decode cX2_worth 2 = .ok (.iconst 0, 1) := by decide +kernel
theorem dX2_worth_3 : decode cX2_worth 3 = .ok (.istore_n 3, 1) := by decide +kernel
theorem dX2_worth_4 : decode cX2_worth 4 = .ok (.iload_n 3, 1) := by decide +kernel
theorem dX2_worth_5 : decode cX2_worth 5 = .ok (.aload_n 0, 1) := by decide +kernel
theorem dX2_worth_6 : decode cX2_worth 6 = .ok (.getfield 18, 3) := by decide +kernel
theorem dX2_worth_9 : decode cX2_worth 9 = .ok (.if_icmp .ge 155, 3) := by decide +kernel
theorem dX2_worth_12 : decode cX2_worth 12 = .ok (.iload_n 3, 1) := by decide +kernel
theorem dX2_worth_13 : decode cX2_worth 13 = .ok (.aload_n 0, 1) := by decide +kernel
theorem dX2_worth_14 : decode cX2_worth 14 = .ok (.getfield 9, 3) := by decide +kernel
theorem dX2_worth_17 : decode cX2_worth 17 = .ok (.arraylength, 1) := by decide +kernel
theorem dX2_worth_18 : decode cX2_worth 18 = .ok (.if_icmp .ge 146, 3) := by decide +kernel
theorem dX2_worth_21 : decode cX2_worth 21 = .ok (.aload_n 0, 1) := by decide +kernel
theorem dX2_worth_22 : decode cX2_worth 22 = .ok (.getfield 9, 3) := by decide +kernel
theorem dX2_worth_25 : decode cX2_worth 25 = .ok (.iload_n 3, 1) := by decide +kernel
theorem dX2_worth_26 : decode cX2_worth 26 = .ok (.iaload, 1) := by decide +kernel
theorem dX2_worth_27 : decode cX2_worth 27 = .ok (.istore 4, 2) := by decide +kernel
theorem dX2_worth_29 : decode cX2_worth 29 = .ok (.iload 4, 2) := by decide +kernel
theorem dX2_worth_31 : decode cX2_worth 31 = .ok (.sipush 20000, 3) := by decide +kernel
theorem dX2_worth_34 : decode cX2_worth 34 = .ok (.if_icmp .ge 47, 3) := by decide +kernel
theorem dX2_worth_37 : decode cX2_worth 37 = .ok (.iload_n 2, 1) := by decide +kernel
theorem dX2_worth_38 : decode cX2_worth 38 = .ok (.aload_n 0, 1) := by decide +kernel
theorem dX2_worth_39 : decode cX2_worth 39 = .ok (.getfield 15, 3) := by decide +kernel
theorem dX2_worth_42 : decode cX2_worth 42 = .ok (.arraylength, 1) := by decide +kernel
theorem dX2_worth_43 : decode cX2_worth 43 = .ok (.if_icmp .ge 115, 3) := by decide +kernel
theorem dX2_worth_46 : decode cX2_worth 46 = .ok (.aload_n 0, 1) := by decide +kernel
theorem dX2_worth_47 : decode cX2_worth 47 = .ok (.getfield 15, 3) := by decide +kernel
theorem dX2_worth_50 : decode cX2_worth 50 = .ok (.iload_n 2, 1) := by decide +kernel
theorem dX2_worth_51 : decode cX2_worth 51 = .ok (.iload 4, 2) := by decide +kernel
theorem dX2_worth_53 : decode cX2_worth 53 = .ok (.sipush 10000, 3) := by decide +kernel
theorem dX2_worth_56 : decode cX2_worth 56 = .ok (.if_icmp .ge 8, 3) := by decide +kernel
theorem dX2_worth_59 : decode cX2_worth 59 = .ok (.iload 4, 2) := by decide +kernel
theorem dX2_worth_61 : decode cX2_worth 61 = .ok (.goto 13, 3) := by decide +kernel
theorem dX2_worth_64 : decode cX2_worth 64 = .ok (.aload_n 1, 1) := by decide +kernel
theorem dX2_worth_65 : decode cX2_worth 65 = .ok (.iload 4, 2) := by decide +kernel
theorem dX2_worth_67 : decode cX2_worth 67 = .ok (.sipush 10000, 3) := by decide +kernel
theorem dX2_worth_70 : decode cX2_worth 70 = .ok (.isub, 1) := by decide +kernel
theorem dX2_worth_71 : decode cX2_worth 71 = .ok (.invokestatic 29, 3) := by decide +kernel
theorem dX2_worth_74 : decode cX2_worth 74 = .ok (.iastore, 1) := by decide +kernel
theorem dX2_worth_75 : decode cX2_worth 75 = .ok (.iinc 2 1, 3) := by decide +kernel
theorem dX2_worth_78 : decode cX2_worth 78 = .ok (.goto 80, 3) := by decide +kernel
theorem dX2_worth_81 : decode cX2_worth 81 = .ok (.iload 4, 2) := by decide +kernel
theorem dX2_worth_83 : decode cX2_worth 83 = .ok (.sipush 20000, 3) := by decide +kernel
theorem dX2_worth_86 : decode cX2_worth 86 = .ok (.if_icmp .ne 35, 3) := by decide +kernel
theorem dX2_worth_89 : decode cX2_worth 89 = .ok (.iload_n 2, 1) := by decide +kernel
theorem dX2_worth_90 : decode cX2_worth 90 = .ok (.iconst 1, 1) := by decide +kernel
theorem dX2_worth_91 : decode cX2_worth 91 = .ok (.if_icmp .lt 67, 3) := by decide +kernel
theorem dX2_worth_94 : decode cX2_worth 94 = .ok (.aload_n 0, 1) := by decide +kernel
theorem dX2_worth_95 : decode cX2_worth 95 = .ok (.getfield 15, 3) := by decide +kernel
theorem dX2_worth_98 : decode cX2_worth 98 = .ok (.iload_n 2, 1) := by decide +kernel
theorem dX2_worth_99 : decode cX2_worth 99 = .ok (.iconst 1, 1) := by decide +kernel
theorem dX2_worth_100 : decode cX2_worth 100 = .ok (.isub, 1) := by decide +kernel
theorem dX2_worth_101 : decode cX2_worth 101 = .ok (.aload_n 0, 1) := by decide +kernel
theorem dX2_worth_102 : decode cX2_worth 102 = .ok (.getfield 15, 3) := by decide +kernel
theorem dX2_worth_105 : decode cX2_worth 105 = .ok (.iload_n 2, 1) := by decide +kernel
theorem dX2_worth_106 : decode cX2_worth 106 = .ok (.iconst 1, 1) := by decide +kernel
theorem dX2_worth_107 : decode cX2_worth 107 = .ok (.isub, 1) := by decide +kernel
theorem dX2_worth_108 : decode cX2_worth 108 = .ok (.iaload, 1) := by decide +kernel
theorem dX2_worth_109 : decode cX2_worth 109 = .ok (.ifCond .ne 7, 3) := by decide +kernel
theorem dX2_worth_112 : decode cX2_worth 112 = .ok (.iconst 1, 1) := by decide +kernel
theorem dX2_worth_113 : decode cX2_worth 113 = .ok (.goto 4, 3) := by decide +kernel
theorem dX2_worth_116 : decode cX2_worth 116 = .ok (.iconst 0, 1) := by decide +kernel
theorem dX2_worth_117 : decode cX2_worth 117 = .ok (.iastore, 1) := by decide +kernel
theorem dX2_worth_118 : decode cX2_worth 118 = .ok (.goto 40, 3) := by decide +kernel
theorem dX2_worth_121 : decode cX2_worth 121 = .ok (.iload_n 2, 1) := by decide +kernel
theorem dX2_worth_122 : decode cX2_worth 122 = .ok (.iconst 2, 1) := by decide +kernel
theorem dX2_worth_123 : decode cX2_worth 123 = .ok (.if_icmp .lt 35, 3) := by decide +kernel
theorem dX2_worth_126 : decode cX2_worth 126 = .ok (.aload_n 0, 1) := by decide +kernel
theorem dX2_worth_127 : decode cX2_worth 127 = .ok (.getfield 15, 3) := by decide +kernel
theorem dX2_worth_130 : decode cX2_worth 130 = .ok (.iload_n 2, 1) := by decide +kernel
theorem dX2_worth_131 : decode cX2_worth 131 = .ok (.iconst 2, 1) := by decide +kernel
theorem dX2_worth_132 : decode cX2_worth 132 = .ok (.isub, 1) := by decide +kernel
theorem dX2_worth_133 : decode cX2_worth 133 = .ok (.iload 4, 2) := by decide +kernel
theorem dX2_worth_135 : decode cX2_worth 135 = .ok (.aload_n 0, 1) := by decide +kernel
theorem dX2_worth_136 : decode cX2_worth 136 = .ok (.getfield 15, 3) := by decide +kernel
theorem dX2_worth_139 : decode cX2_worth 139 = .ok (.iload_n 2, 1) := by decide +kernel
theorem dX2_worth_140 : decode cX2_worth 140 = .ok (.iconst 2, 1) := by decide +kernel
theorem dX2_worth_141 : decode cX2_worth 141 = .ok (.isub, 1) := by decide +kernel
theorem dX2_worth_142 : decode cX2_worth 142 = .ok (.iaload, 1) := by decide +kernel
theorem dX2_worth_143 : decode cX2_worth 143 = .ok (.aload_n 0, 1) := by decide +kernel
theorem dX2_worth_144 : decode cX2_worth 144 = .ok (.getfield 15, 3) := by decide +kernel
theorem dX2_worth_147 : decode cX2_worth 147 = .ok (.iload_n 2, 1) := by decide +kernel
theorem dX2_worth_148 : decode cX2_worth 148 = .ok (.iconst 1, 1) := by decide +kernel
theorem dX2_worth_149 : decode cX2_worth 149 = .ok (.isub, 1) := by decide +kernel
theorem dX2_worth_150 : decode cX2_worth 150 = .ok (.iaload, 1) := by decide +kernel
theorem dX2_worth_151 : decode cX2_worth 151 = .ok (.invokestatic 33, 3) := by decide +kernel
theorem dX2_worth_154 : decode cX2_worth 154 = .ok (.iastore, 1) := by decide +kernel
theorem dX2_worth_155 : decode cX2_worth 155 = .ok (.iinc 2 (-1), 3) := by decide +kernel
theorem dX2_worth_158 : decode cX2_worth 158 = .ok (.iinc 3 1, 3) := by decide +kernel
theorem dX2_worth_161 : decode cX2_worth 161 = .ok (.goto (-157), 3) := by decide +kernel
theorem dX2_worth_164 : decode cX2_worth 164 = .ok (.aload_n 0, 1) := by decide +kernel
theorem dX2_worth_165 : decode cX2_worth 165 = .ok (.getfield 15, 3) := by decide +kernel
theorem dX2_worth_168 : decode cX2_worth 168 = .ok (.iconst 0, 1) := by decide +kernel
theorem dX2_worth_169 : decode cX2_worth 169 = .ok (.iaload, 1) := by decide +kernel
theorem dX2_worth_170 : decode cX2_worth 170 = .ok (.ireturn, 1) := by decide +kernel
theorem dX2_lookedUp_0 : decode cX2_lookedUp 0 = .ok (.iload_n 1, 1) := by decide +kernel
theorem dX2_lookedUp_1 : decode cX2_lookedUp 1 = .ok (.ifCond .lt 15, 3) := by decide +kernel
theorem dX2_lookedUp_4 : decode cX2_lookedUp 4 = .ok (.iload_n 1, 1) := by decide +kernel
theorem dX2_lookedUp_5 : decode cX2_lookedUp 5 = .ok (.aload_n 0, 1) := by decide +kernel
theorem dX2_lookedUp_6 : decode cX2_lookedUp 6 = .ok (.arraylength, 1) := by decide +kernel
theorem dX2_lookedUp_7 : decode cX2_lookedUp 7 = .ok (.if_icmp .ge 9, 3) := by decide +kernel
theorem dX2_lookedUp_10 : decode cX2_lookedUp 10 = .ok (.aload_n 0, 1) := by decide +kernel
theorem dX2_lookedUp_11 : decode cX2_lookedUp 11 = .ok (.iload_n 1, 1) := by decide +kernel
theorem dX2_lookedUp_12 : decode cX2_lookedUp 12 = .ok (.iaload, 1) := by decide +kernel
theorem dX2_lookedUp_13 : decode cX2_lookedUp 13 = .ok (.goto 4, 3) := by decide +kernel
theorem dX2_lookedUp_16 : decode cX2_lookedUp 16 = .ok (.iconst 0, 1) := by decide +kernel
theorem dX2_lookedUp_17 : decode cX2_lookedUp 17 = .ok (.ireturn, 1) := by decide +kernel
theorem dX2_joined_0 : decode cX2_joined 0 = .ok (.iload_n 0, 1) := by decide +kernel
theorem dX2_joined_1 : decode cX2_joined 1 = .ok (.tableswitch 112 20001 20007 #[43, 57, 71, 82, 93, 104, 108], 43) := by decide +kernel
theorem dX2_joined_44 : decode cX2_joined 44 = .ok (.iload_n 1, 1) := by decide +kernel
theorem dX2_joined_45 : decode cX2_joined 45 = .ok (.ifCond .eq 11, 3) := by decide +kernel
theorem dX2_joined_48 : decode cX2_joined 48 = .ok (.iload_n 2, 1) := by decide +kernel
theorem dX2_joined_49 : decode cX2_joined 49 = .ok (.ifCond .eq 7, 3) := by decide +kernel
theorem dX2_joined_52 : decode cX2_joined 52 = .ok (.iconst 1, 1) := by decide +kernel
theorem dX2_joined_53 : decode cX2_joined 53 = .ok (.goto 4, 3) := by decide +kernel
theorem dX2_joined_56 : decode cX2_joined 56 = .ok (.iconst 0, 1) := by decide +kernel
theorem dX2_joined_57 : decode cX2_joined 57 = .ok (.ireturn, 1) := by decide +kernel
theorem dX2_joined_58 : decode cX2_joined 58 = .ok (.iload_n 1, 1) := by decide +kernel
theorem dX2_joined_59 : decode cX2_joined 59 = .ok (.ifCond .ne 7, 3) := by decide +kernel
theorem dX2_joined_62 : decode cX2_joined 62 = .ok (.iload_n 2, 1) := by decide +kernel
theorem dX2_joined_63 : decode cX2_joined 63 = .ok (.ifCond .eq 7, 3) := by decide +kernel
theorem dX2_joined_66 : decode cX2_joined 66 = .ok (.iconst 1, 1) := by decide +kernel
theorem dX2_joined_67 : decode cX2_joined 67 = .ok (.goto 4, 3) := by decide +kernel
theorem dX2_joined_70 : decode cX2_joined 70 = .ok (.iconst 0, 1) := by decide +kernel
theorem dX2_joined_71 : decode cX2_joined 71 = .ok (.ireturn, 1) := by decide +kernel
theorem dX2_joined_72 : decode cX2_joined 72 = .ok (.iload_n 1, 1) := by decide +kernel
theorem dX2_joined_73 : decode cX2_joined 73 = .ok (.iload_n 2, 1) := by decide +kernel
theorem dX2_joined_74 : decode cX2_joined 74 = .ok (.if_icmp .ge 7, 3) := by decide +kernel
theorem dX2_joined_77 : decode cX2_joined 77 = .ok (.iconst 1, 1) := by decide +kernel
theorem dX2_joined_78 : decode cX2_joined 78 = .ok (.goto 4, 3) := by decide +kernel
theorem dX2_joined_81 : decode cX2_joined 81 = .ok (.iconst 0, 1) := by decide +kernel
theorem dX2_joined_82 : decode cX2_joined 82 = .ok (.ireturn, 1) := by decide +kernel
theorem dX2_joined_83 : decode cX2_joined 83 = .ok (.iload_n 1, 1) := by decide +kernel
theorem dX2_joined_84 : decode cX2_joined 84 = .ok (.iload_n 2, 1) := by decide +kernel
theorem dX2_joined_85 : decode cX2_joined 85 = .ok (.if_icmp .le 7, 3) := by decide +kernel
theorem dX2_joined_88 : decode cX2_joined 88 = .ok (.iconst 1, 1) := by decide +kernel
theorem dX2_joined_89 : decode cX2_joined 89 = .ok (.goto 4, 3) := by decide +kernel
theorem dX2_joined_92 : decode cX2_joined 92 = .ok (.iconst 0, 1) := by decide +kernel
theorem dX2_joined_93 : decode cX2_joined 93 = .ok (.ireturn, 1) := by decide +kernel
theorem dX2_joined_94 : decode cX2_joined 94 = .ok (.iload_n 1, 1) := by decide +kernel
theorem dX2_joined_95 : decode cX2_joined 95 = .ok (.iload_n 2, 1) := by decide +kernel
theorem dX2_joined_96 : decode cX2_joined 96 = .ok (.if_icmp .ne 7, 3) := by decide +kernel
theorem dX2_joined_99 : decode cX2_joined 99 = .ok (.iconst 1, 1) := by decide +kernel
theorem dX2_joined_100 : decode cX2_joined 100 = .ok (.goto 4, 3) := by decide +kernel
theorem dX2_joined_103 : decode cX2_joined 103 = .ok (.iconst 0, 1) := by decide +kernel
theorem dX2_joined_104 : decode cX2_joined 104 = .ok (.ireturn, 1) := by decide +kernel
theorem dX2_joined_105 : decode cX2_joined 105 = .ok (.iload_n 1, 1) := by decide +kernel
theorem dX2_joined_106 : decode cX2_joined 106 = .ok (.iload_n 2, 1) := by decide +kernel
theorem dX2_joined_107 : decode cX2_joined 107 = .ok (.iadd, 1) := by decide +kernel
theorem dX2_joined_108 : decode cX2_joined 108 = .ok (.ireturn, 1) := by decide +kernel
theorem dX2_joined_109 : decode cX2_joined 109 = .ok (.iload_n 1, 1) := by decide +kernel
theorem dX2_joined_110 : decode cX2_joined 110 = .ok (.iload_n 2, 1) := by decide +kernel
theorem dX2_joined_111 : decode cX2_joined 111 = .ok (.isub, 1) := by decide +kernel
theorem dX2_joined_112 : decode cX2_joined 112 = .ok (.ireturn, 1) := by decide +kernel
theorem dX2_joined_113 : decode cX2_joined 113 = .ok (.iload_n 1, 1) := by decide +kernel
theorem dX2_joined_114 : decode cX2_joined 114 = .ok (.iload_n 2, 1) := by decide +kernel
theorem dX2_joined_115 : decode cX2_joined 115 = .ok (.imul, 1) := by decide +kernel
theorem dX2_joined_116 : decode cX2_joined 116 = .ok (.ireturn, 1) := by decide +kernel
theorem dX3_init_0 : decode cX3_init 0 = .ok (.aload_n 0, 1) := by decide +kernel
theorem dX3_init_1 : decode cX3_init 1 = .ok (.invokespecial 1, 3) := by decide +kernel
theorem dX3_init_4 : decode cX3_init 4 = .ok (.aload_n 0, 1) := by decide +kernel
theorem dX3_init_5 : decode cX3_init 5 = .ok (.aload_n 1, 1) := by decide +kernel
theorem dX3_init_6 : decode cX3_init 6 = .ok (.putfield 7, 3) := by decide +kernel
theorem dX3_init_9 : decode cX3_init 9 = .ok (.return_, 1) := by decide +kernel
theorem dX3_take_0 : decode cX3_take 0 = .ok (.aload_n 0, 1) := by decide +kernel
theorem dX3_take_1 : decode cX3_take 1 = .ok (.aload_n 2, 1) := by decide +kernel
theorem dX3_take_2 : decode cX3_take 2 = .ok (.putfield 7, 3) := by decide +kernel
theorem dX3_take_5 : decode cX3_take 5 = .ok (.aload_n 0, 1) := by decide +kernel
theorem dX3_take_6 : decode cX3_take 6 = .ok (.iload_n 1, 1) := by decide +kernel
theorem dX3_take_7 : decode cX3_take 7 = .ok (.iconst 4, 1) := by decide +kernel
theorem dX3_take_8 : decode cX3_take 8 = .ok (.irem, 1) := by decide +kernel
theorem dX3_take_9 : decode cX3_take 9 = .ok (.putfield 13, 3) := by decide +kernel
theorem dX3_take_12 : decode cX3_take 12 = .ok (.aload_n 0, 1) := by decide +kernel
theorem dX3_take_13 : decode cX3_take 13 = .ok (.iload_n 1, 1) := by decide +kernel
theorem dX3_take_14 : decode cX3_take 14 = .ok (.iconst 4, 1) := by decide +kernel
theorem dX3_take_15 : decode cX3_take 15 = .ok (.idiv, 1) := by decide +kernel
theorem dX3_take_16 : decode cX3_take 16 = .ok (.iconst 3, 1) := by decide +kernel
theorem dX3_take_17 : decode cX3_take 17 = .ok (.irem, 1) := by decide +kernel
theorem dX3_take_18 : decode cX3_take 18 = .ok (.iconst 1, 1) := by decide +kernel
theorem dX3_take_19 : decode cX3_take 19 = .ok (.iadd, 1) := by decide +kernel
theorem dX3_take_20 : decode cX3_take 20 = .ok (.putfield 17, 3) := by decide +kernel
theorem dX3_take_23 : decode cX3_take 23 = .ok (.aload_n 0, 1) := by decide +kernel
theorem dX3_take_24 : decode cX3_take 24 = .ok (.iload_n 1, 1) := by decide +kernel
theorem dX3_take_25 : decode cX3_take 25 = .ok (.bipush 12, 2) := by decide +kernel
theorem dX3_take_27 : decode cX3_take 27 = .ok (.idiv, 1) := by decide +kernel
theorem dX3_take_28 : decode cX3_take 28 = .ok (.iconst 3, 1) := by decide +kernel
theorem dX3_take_29 : decode cX3_take 29 = .ok (.irem, 1) := by decide +kernel
theorem dX3_take_30 : decode cX3_take 30 = .ok (.iconst 1, 1) := by decide +kernel
theorem dX3_take_31 : decode cX3_take 31 = .ok (.iadd, 1) := by decide +kernel
theorem dX3_take_32 : decode cX3_take 32 = .ok (.putfield 20, 3) := by decide +kernel
theorem dX3_take_35 : decode cX3_take 35 = .ok (.aload_n 0, 1) := by decide +kernel
theorem dX3_take_36 : decode cX3_take 36 = .ok (.aload_n 2, 1) := by decide +kernel
theorem dX3_take_37 : decode cX3_take 37 = .ok (.iload_n 1, 1) := by decide +kernel
theorem dX3_take_38 : decode cX3_take 38 = .ok (.bipush 36, 2) := by decide +kernel
theorem dX3_take_40 : decode cX3_take 40 = .ok (.idiv, 1) := by decide +kernel
theorem dX3_take_41 : decode cX3_take 41 = .ok (.iconst 3, 1) := by decide +kernel
theorem dX3_take_42 : decode cX3_take 42 = .ok (.irem, 1) := by decide +kernel
theorem dX3_take_43 : decode cX3_take 43 = .ok (.iconst 1, 1) := by decide +kernel
theorem dX3_take_44 : decode cX3_take 44 = .ok (.iadd, 1) := by decide +kernel
theorem dX3_take_45 : decode cX3_take 45 = .ok (.invokevirtual 23, 3) := by decide +kernel
theorem dX3_take_48 : decode cX3_take 48 = .ok (.putfield 29, 3) := by decide +kernel
theorem dX3_take_51 : decode cX3_take 51 = .ok (.iload_n 1, 1) := by decide +kernel
theorem dX3_take_52 : decode cX3_take 52 = .ok (.bipush 108, 2) := by decide +kernel
theorem dX3_take_54 : decode cX3_take 54 = .ok (.idiv, 1) := by decide +kernel
theorem dX3_take_55 : decode cX3_take 55 = .ok (.istore_n 3, 1) := by decide +kernel
theorem dX3_take_56 : decode cX3_take 56 = .ok (.aload_n 0, 1) := by decide +kernel
theorem dX3_take_57 : decode cX3_take 57 = .ok (.iload_n 3, 1) := by decide +kernel
theorem dX3_take_58 : decode cX3_take 58 = .ok (.iconst 1, 1) := by decide +kernel
theorem dX3_take_59 : decode cX3_take 59 = .ok (.if_icmp .eq 7, 3) := by decide +kernel
theorem dX3_take_62 : decode cX3_take 62 = .ok (.iconst 1, 1) := by decide +kernel
theorem dX3_take_63 : decode cX3_take 63 = .ok (.goto 4, 3) := by decide +kernel
theorem dX3_take_66 : decode cX3_take 66 = .ok (.iconst 0, 1) := by decide +kernel
theorem dX3_take_67 : decode cX3_take 67 = .ok (.putfield 32, 3) := by decide +kernel
theorem dX3_take_70 : decode cX3_take 70 = .ok (.aload_n 0, 1) := by decide +kernel
theorem dX3_take_71 : decode cX3_take 71 = .ok (.iload_n 3, 1) := by decide +kernel
theorem dX3_take_72 : decode cX3_take 72 = .ok (.ifCond .eq 7, 3) := by decide +kernel
theorem dX3_take_75 : decode cX3_take 75 = .ok (.iconst 1, 1) := by decide +kernel
theorem dX3_take_76 : decode cX3_take 76 = .ok (.goto 4, 3) := by decide +kernel
theorem dX3_take_79 : decode cX3_take 79 = .ok (.iconst 0, 1) := by decide +kernel
theorem dX3_take_80 : decode cX3_take 80 = .ok (.putfield 36, 3) := by decide +kernel
theorem dX3_take_83 : decode cX3_take 83 = .ok (.return_, 1) := by decide +kernel
theorem dX3_begin_0 : decode cX3_begin 0 = .ok (.aload_n 0, 1) := by decide +kernel
theorem dX3_begin_1 : decode cX3_begin 1 = .ok (.lload_n 1, 1) := by decide +kernel
theorem dX3_begin_2 : decode cX3_begin 2 = .ok (.putfield 39, 3) := by decide +kernel
theorem dX3_begin_5 : decode cX3_begin 5 = .ok (.aload_n 0, 1) := by decide +kernel
theorem dX3_begin_6 : decode cX3_begin 6 = .ok (.lconst 0, 1) := by decide +kernel
theorem dX3_begin_7 : decode cX3_begin 7 = .ok (.putfield 43, 3) := by decide +kernel
theorem dX3_begin_10 : decode cX3_begin 10 = .ok (.aload_n 0, 1) := by decide +kernel
theorem dX3_begin_11 : decode cX3_begin 11 = .ok (.lconst 0, 1) := by decide +kernel
theorem dX3_begin_12 : decode cX3_begin 12 = .ok (.putfield 46, 3) := by decide +kernel
theorem dX3_begin_15 : decode cX3_begin 15 = .ok (.aload_n 0, 1) := by decide +kernel
theorem dX3_begin_16 : decode cX3_begin 16 = .ok (.lconst 0, 1) := by decide +kernel
theorem dX3_begin_17 : decode cX3_begin 17 = .ok (.putfield 49, 3) := by decide +kernel
theorem dX3_begin_20 : decode cX3_begin 20 = .ok (.aload_n 0, 1) := by decide +kernel
theorem dX3_begin_21 : decode cX3_begin 21 = .ok (.lconst 0, 1) := by decide +kernel
theorem dX3_begin_22 : decode cX3_begin 22 = .ok (.putfield 52, 3) := by decide +kernel
theorem dX3_begin_25 : decode cX3_begin 25 = .ok (.aload_n 0, 1) := by decide +kernel
theorem dX3_begin_26 : decode cX3_begin 26 = .ok (.lconst 0, 1) := by decide +kernel
theorem dX3_begin_27 : decode cX3_begin 27 = .ok (.putfield 55, 3) := by decide +kernel
theorem dX3_begin_30 : decode cX3_begin 30 = .ok (.return_, 1) := by decide +kernel
theorem dX3_allUp_0 : decode cX3_allUp 0 = .ok (.aload_n 0, 1) := by decide +kernel
theorem dX3_allUp_1 : decode cX3_allUp 1 = .ok (.getfield 39, 3) := by decide +kernel
theorem dX3_allUp_4 : decode cX3_allUp 4 = .ok (.aload_n 0, 1) := by decide +kernel
theorem dX3_allUp_5 : decode cX3_allUp 5 = .ok (.getfield 43, 3) := by decide +kernel
theorem dX3_allUp_8 : decode cX3_allUp 8 = .ok (.lor, 1) := by decide +kernel
theorem dX3_allUp_9 : decode cX3_allUp 9 = .ok (.aload_n 0, 1) := by decide +kernel
theorem dX3_allUp_10 : decode cX3_allUp 10 = .ok (.getfield 46, 3) := by decide +kernel
theorem dX3_allUp_13 : decode cX3_allUp 13 = .ok (.lor, 1) := by decide +kernel
theorem dX3_allUp_14 : decode cX3_allUp 14 = .ok (.lreturn, 1) := by decide +kernel
theorem dX3_goOn_0 : decode cX3_goOn 0 = .ok (.aload_n 0, 1) := by decide +kernel
theorem dX3_goOn_1 : decode cX3_goOn 1 = .ok (.invokevirtual 58, 3) := by decide +kernel
theorem dX3_goOn_4 : decode cX3_goOn 4 = .ok (.aload_n 0, 1) := by decide +kernel
theorem dX3_goOn_5 : decode cX3_goOn 5 = .ok (.getfield 49, 3) := by decide +kernel
theorem dX3_goOn_8 : decode cX3_goOn 8 = .ok (.lor, 1) := by decide +kernel
theorem dX3_goOn_9 : decode cX3_goOn 9 = .ok (.aload_n 0, 1) := by decide +kernel
theorem dX3_goOn_10 : decode cX3_goOn 10 = .ok (.getfield 52, 3) := by decide +kernel
theorem dX3_goOn_13 : decode cX3_goOn 13 = .ok (.lor, 1) := by decide +kernel
theorem dX3_goOn_14 : decode cX3_goOn 14 = .ok (.aload_n 0, 1) := by decide +kernel
theorem dX3_goOn_15 : decode cX3_goOn 15 = .ok (.getfield 55, 3) := by decide +kernel
theorem dX3_goOn_18 : decode cX3_goOn 18 = .ok (.lor, 1) := by decide +kernel
theorem dX3_goOn_19 : decode cX3_goOn 19 = .ok (.lstore_n 1, 1) := by decide +kernel
theorem dX3_goOn_20 : decode cX3_goOn 20 = .ok (.aload_n 0, 1) := by decide +kernel
theorem dX3_goOn_21 : decode cX3_goOn 21 = .ok (.invokevirtual 62, 3) := by decide +kernel
theorem dX3_goOn_24 : decode cX3_goOn 24 = .ok (.lload_n 1, 1) := by decide +kernel
theorem dX3_goOn_25 : decode cX3_goOn 25 = .ok (.aload_n 0, 1) := by decide +kernel
theorem dX3_goOn_26 : decode cX3_goOn 26 = .ok (.getfield 7, 3) := by decide +kernel
theorem dX3_goOn_29 : decode cX3_goOn 29 = .ok (.getfield 65, 3) := by decide +kernel
theorem dX3_goOn_32 : decode cX3_goOn 32 = .ok (.lor, 1) := by decide +kernel
theorem dX3_goOn_33 : decode cX3_goOn 33 = .ok (.aload_n 0, 1) := by decide +kernel
theorem dX3_goOn_34 : decode cX3_goOn 34 = .ok (.getfield 7, 3) := by decide +kernel
theorem dX3_goOn_37 : decode cX3_goOn 37 = .ok (.getfield 68, 3) := by decide +kernel
theorem dX3_goOn_40 : decode cX3_goOn 40 = .ok (.lor, 1) := by decide +kernel
theorem dX3_goOn_41 : decode cX3_goOn 41 = .ok (.ldc2_w 71, 3) := by decide +kernel
theorem dX3_goOn_44 : decode cX3_goOn 44 = .ok (.lxor, 1) := by decide +kernel
theorem dX3_goOn_45 : decode cX3_goOn 45 = .ok (.land, 1) := by decide +kernel
theorem dX3_goOn_46 : decode cX3_goOn 46 = .ok (.lstore_n 3, 1) := by decide +kernel
theorem dX3_goOn_47 : decode cX3_goOn 47 = .ok (.aload_n 0, 1) := by decide +kernel
theorem dX3_goOn_48 : decode cX3_goOn 48 = .ok (.getfield 17, 3) := by decide +kernel
theorem dX3_goOn_51 : decode cX3_goOn 51 = .ok (.iconst 1, 1) := by decide +kernel
theorem dX3_goOn_52 : decode cX3_goOn 52 = .ok (.if_icmp .ne 10, 3) := by decide +kernel
theorem dX3_goOn_55 : decode cX3_goOn 55 = .ok (.aload_n 0, 1) := by decide +kernel
theorem dX3_goOn_56 : decode cX3_goOn 56 = .ok (.getfield 39, 3) := by decide +kernel
theorem dX3_goOn_59 : decode cX3_goOn 59 = .ok (.goto 22, 3) := by decide +kernel
theorem dX3_goOn_62 : decode cX3_goOn 62 = .ok (.aload_n 0, 1) := by decide +kernel
theorem dX3_goOn_63 : decode cX3_goOn 63 = .ok (.getfield 17, 3) := by decide +kernel
theorem dX3_goOn_66 : decode cX3_goOn 66 = .ok (.iconst 2, 1) := by decide +kernel
theorem dX3_goOn_67 : decode cX3_goOn 67 = .ok (.if_icmp .ne 10, 3) := by decide +kernel
theorem dX3_goOn_70 : decode cX3_goOn 70 = .ok (.aload_n 0, 1) := by decide +kernel
theorem dX3_goOn_71 : decode cX3_goOn 71 = .ok (.getfield 43, 3) := by decide +kernel
theorem dX3_goOn_74 : decode cX3_goOn 74 = .ok (.goto 7, 3) := by decide +kernel
theorem dX3_goOn_77 : decode cX3_goOn 77 = .ok (.aload_n 0, 1) := by decide +kernel
theorem dX3_goOn_78 : decode cX3_goOn 78 = .ok (.getfield 46, 3) := by decide +kernel
theorem dX3_goOn_81 : decode cX3_goOn 81 = .ok (.lstore 5, 2) := by decide +kernel
theorem dX3_goOn_83 : decode cX3_goOn 83 = .ok (.aload_n 0, 1) := by decide +kernel
theorem dX3_goOn_84 : decode cX3_goOn 84 = .ok (.aload_n 0, 1) := by decide +kernel
theorem dX3_goOn_85 : decode cX3_goOn 85 = .ok (.getfield 13, 3) := by decide +kernel
theorem dX3_goOn_88 : decode cX3_goOn 88 = .ok (.iconst 2, 1) := by decide +kernel
theorem dX3_goOn_89 : decode cX3_goOn 89 = .ok (.if_icmp .le 10, 3) := by decide +kernel
theorem dX3_goOn_92 : decode cX3_goOn 92 = .ok (.aload_n 0, 1) := by decide +kernel
theorem dX3_goOn_93 : decode cX3_goOn 93 = .ok (.getfield 52, 3) := by decide +kernel
theorem dX3_goOn_96 : decode cX3_goOn 96 = .ok (.goto 4, 3) := by decide +kernel
theorem dX3_goOn_99 : decode cX3_goOn 99 = .ok (.lconst 0, 1) := by decide +kernel
theorem dX3_goOn_100 : decode cX3_goOn 100 = .ok (.putfield 55, 3) := by decide +kernel
theorem dX3_goOn_103 : decode cX3_goOn 103 = .ok (.aload_n 0, 1) := by decide +kernel
theorem dX3_goOn_104 : decode cX3_goOn 104 = .ok (.aload_n 0, 1) := by decide +kernel
theorem dX3_goOn_105 : decode cX3_goOn 105 = .ok (.getfield 13, 3) := by decide +kernel
theorem dX3_goOn_108 : decode cX3_goOn 108 = .ok (.iconst 1, 1) := by decide +kernel
theorem dX3_goOn_109 : decode cX3_goOn 109 = .ok (.if_icmp .le 10, 3) := by decide +kernel
theorem dX3_goOn_112 : decode cX3_goOn 112 = .ok (.aload_n 0, 1) := by decide +kernel
theorem dX3_goOn_113 : decode cX3_goOn 113 = .ok (.getfield 49, 3) := by decide +kernel
theorem dX3_goOn_116 : decode cX3_goOn 116 = .ok (.goto 4, 3) := by decide +kernel
theorem dX3_goOn_119 : decode cX3_goOn 119 = .ok (.lconst 0, 1) := by decide +kernel
theorem dX3_goOn_120 : decode cX3_goOn 120 = .ok (.putfield 52, 3) := by decide +kernel
theorem dX3_goOn_123 : decode cX3_goOn 123 = .ok (.aload_n 0, 1) := by decide +kernel
theorem dX3_goOn_124 : decode cX3_goOn 124 = .ok (.aload_n 0, 1) := by decide +kernel
theorem dX3_goOn_125 : decode cX3_goOn 125 = .ok (.getfield 13, 3) := by decide +kernel
theorem dX3_goOn_128 : decode cX3_goOn 128 = .ok (.ifCond .le 8, 3) := by decide +kernel
theorem dX3_goOn_131 : decode cX3_goOn 131 = .ok (.lload 5, 2) := by decide +kernel
theorem dX3_goOn_133 : decode cX3_goOn 133 = .ok (.goto 4, 3) := by decide +kernel
theorem dX3_goOn_136 : decode cX3_goOn 136 = .ok (.lconst 0, 1) := by decide +kernel
theorem dX3_goOn_137 : decode cX3_goOn 137 = .ok (.putfield 49, 3) := by decide +kernel
theorem dX3_goOn_140 : decode cX3_goOn 140 = .ok (.aload_n 0, 1) := by decide +kernel
theorem dX3_goOn_141 : decode cX3_goOn 141 = .ok (.aload_n 0, 1) := by decide +kernel
theorem dX3_goOn_142 : decode cX3_goOn 142 = .ok (.getfield 17, 3) := by decide +kernel
theorem dX3_goOn_145 : decode cX3_goOn 145 = .ok (.iconst 2, 1) := by decide +kernel
theorem dX3_goOn_146 : decode cX3_goOn 146 = .ok (.if_icmp .le 10, 3) := by decide +kernel
theorem dX3_goOn_149 : decode cX3_goOn 149 = .ok (.aload_n 0, 1) := by decide +kernel
theorem dX3_goOn_150 : decode cX3_goOn 150 = .ok (.getfield 43, 3) := by decide +kernel
theorem dX3_goOn_153 : decode cX3_goOn 153 = .ok (.goto 4, 3) := by decide +kernel
theorem dX3_goOn_156 : decode cX3_goOn 156 = .ok (.lconst 0, 1) := by decide +kernel
theorem dX3_goOn_157 : decode cX3_goOn 157 = .ok (.putfield 46, 3) := by decide +kernel
theorem dX3_goOn_160 : decode cX3_goOn 160 = .ok (.aload_n 0, 1) := by decide +kernel
theorem dX3_goOn_161 : decode cX3_goOn 161 = .ok (.aload_n 0, 1) := by decide +kernel
theorem dX3_goOn_162 : decode cX3_goOn 162 = .ok (.getfield 17, 3) := by decide +kernel
theorem dX3_goOn_165 : decode cX3_goOn 165 = .ok (.iconst 1, 1) := by decide +kernel
theorem dX3_goOn_166 : decode cX3_goOn 166 = .ok (.if_icmp .le 10, 3) := by decide +kernel
theorem dX3_goOn_169 : decode cX3_goOn 169 = .ok (.aload_n 0, 1) := by decide +kernel
theorem dX3_goOn_170 : decode cX3_goOn 170 = .ok (.getfield 39, 3) := by decide +kernel
theorem dX3_goOn_173 : decode cX3_goOn 173 = .ok (.goto 4, 3) := by decide +kernel
theorem dX3_goOn_176 : decode cX3_goOn 176 = .ok (.lconst 0, 1) := by decide +kernel
theorem dX3_goOn_177 : decode cX3_goOn 177 = .ok (.putfield 43, 3) := by decide +kernel
theorem dX3_goOn_180 : decode cX3_goOn 180 = .ok (.aload_n 0, 1) := by decide +kernel
theorem dX3_goOn_181 : decode cX3_goOn 181 = .ok (.lload_n 3, 1) := by decide +kernel
theorem dX3_goOn_182 : decode cX3_goOn 182 = .ok (.putfield 39, 3) := by decide +kernel
theorem dX3_goOn_185 : decode cX3_goOn 185 = .ok (.return_, 1) := by decide +kernel
theorem dX3_thoseWhoSee_0 : decode cX3_thoseWhoSee 0 = .ok (.lconst 0, 1) := by decide +kernel
theorem dX3_thoseWhoSee_1 : decode cX3_thoseWhoSee 1 = .ok (.lstore_n 1, 1) := by decide +kernel
theorem dX3_thoseWhoSee_2 : decode cX3_thoseWhoSee 2 = .ok (.lconst 0, 1) := by decide +kernel
theorem dX3_thoseWhoSee_3 : decode cX3_thoseWhoSee 3 = .ok (.lstore_n 3, 1) := by decide +kernel
theorem dX3_thoseWhoSee_4 : decode cX3_thoseWhoSee 4 = .ok (.lconst 0, 1) := by decide +kernel
theorem dX3_thoseWhoSee_5 : decode cX3_thoseWhoSee 5 = .ok (.lstore 5, 2) := by decide +kernel
theorem dX3_thoseWhoSee_7 : decode cX3_thoseWhoSee 7 = .ok (.iconst 0, 1) := by decide +kernel
theorem dX3_thoseWhoSee_8 : decode cX3_thoseWhoSee 8 = .ok (.istore 7, 2) := by decide +kernel
theorem dX3_thoseWhoSee_10 : decode cX3_thoseWhoSee 10 = .ok (.iload 7, 2) := by decide +kernel
theorem dX3_thoseWhoSee_12 : decode cX3_thoseWhoSee 12 = .ok (.iconst 2, 1) := by decide +kernel
theorem dX3_thoseWhoSee_13 : decode cX3_thoseWhoSee 13 = .ok (.aload_n 0, 1) := by decide +kernel
theorem dX3_thoseWhoSee_14 : decode cX3_thoseWhoSee 14 = .ok (.getfield 29, 3) := by decide +kernel
theorem dX3_thoseWhoSee_17 : decode cX3_thoseWhoSee 17 = .ok (.imul, 1) := by decide +kernel
theorem dX3_thoseWhoSee_18 : decode cX3_thoseWhoSee 18 = .ok (.if_icmp .ge 107, 3) := by decide +kernel
theorem dX3_thoseWhoSee_21 : decode cX3_thoseWhoSee 21 = .ok (.iload 7, 2) := by decide +kernel
theorem dX3_thoseWhoSee_23 : decode cX3_thoseWhoSee 23 = .ok (.iconst 2, 1) := by decide +kernel
theorem dX3_thoseWhoSee_24 : decode cX3_thoseWhoSee 24 = .ok (.idiv, 1) := by decide +kernel
theorem dX3_thoseWhoSee_25 : decode cX3_thoseWhoSee 25 = .ok (.iconst 1, 1) := by decide +kernel
theorem dX3_thoseWhoSee_26 : decode cX3_thoseWhoSee 26 = .ok (.iadd, 1) := by decide +kernel
theorem dX3_thoseWhoSee_27 : decode cX3_thoseWhoSee 27 = .ok (.istore 8, 2) := by decide +kernel
theorem dX3_thoseWhoSee_29 : decode cX3_thoseWhoSee 29 = .ok (.iload 7, 2) := by decide +kernel
theorem dX3_thoseWhoSee_31 : decode cX3_thoseWhoSee 31 = .ok (.iconst 2, 1) := by decide +kernel
theorem dX3_thoseWhoSee_32 : decode cX3_thoseWhoSee 32 = .ok (.irem, 1) := by decide +kernel
theorem dX3_thoseWhoSee_33 : decode cX3_thoseWhoSee 33 = .ok (.ifCond .ne 7, 3) := by decide +kernel
theorem dX3_thoseWhoSee_36 : decode cX3_thoseWhoSee 36 = .ok (.iconst 1, 1) := by decide +kernel
theorem dX3_thoseWhoSee_37 : decode cX3_thoseWhoSee 37 = .ok (.goto 4, 3) := by decide +kernel
theorem dX3_thoseWhoSee_40 : decode cX3_thoseWhoSee 40 = .ok (.iconst 0, 1) := by decide +kernel
theorem dX3_thoseWhoSee_41 : decode cX3_thoseWhoSee 41 = .ok (.istore 9, 2) := by decide +kernel
theorem dX3_thoseWhoSee_43 : decode cX3_thoseWhoSee 43 = .ok (.iload 9, 2) := by decide +kernel
theorem dX3_thoseWhoSee_45 : decode cX3_thoseWhoSee 45 = .ok (.ifCond .eq 13, 3) := by decide +kernel
theorem dX3_thoseWhoSee_48 : decode cX3_thoseWhoSee 48 = .ok (.aload_n 0, 1) := by decide +kernel
theorem dX3_thoseWhoSee_49 : decode cX3_thoseWhoSee 49 = .ok (.getfield 32, 3) := by decide +kernel
theorem dX3_thoseWhoSee_52 : decode cX3_thoseWhoSee 52 = .ok (.ifCond .eq 67, 3) := by decide +kernel
theorem dX3_thoseWhoSee_55 : decode cX3_thoseWhoSee 55 = .ok (.goto 10, 3) := by decide +kernel
theorem dX3_thoseWhoSee_58 : decode cX3_thoseWhoSee 58 = .ok (.aload_n 0, 1) := by decide +kernel
theorem dX3_thoseWhoSee_59 : decode cX3_thoseWhoSee 59 = .ok (.getfield 36, 3) := by decide +kernel
theorem dX3_thoseWhoSee_62 : decode cX3_thoseWhoSee 62 = .ok (.ifCond .eq 57, 3) := by decide +kernel
theorem dX3_thoseWhoSee_65 : decode cX3_thoseWhoSee 65 = .ok (.aload_n 0, 1) := by decide +kernel
theorem dX3_thoseWhoSee_66 : decode cX3_thoseWhoSee 66 = .ok (.getfield 7, 3) := by decide +kernel
theorem dX3_thoseWhoSee_69 : decode cX3_thoseWhoSee 69 = .ok (.aload_n 0, 1) := by decide +kernel
theorem dX3_thoseWhoSee_70 : decode cX3_thoseWhoSee 70 = .ok (.getfield 39, 3) := by decide +kernel
theorem dX3_thoseWhoSee_73 : decode cX3_thoseWhoSee 73 = .ok (.iload 9, 2) := by decide +kernel
theorem dX3_thoseWhoSee_75 : decode cX3_thoseWhoSee 75 = .ok (.ifCond .eq 8, 3) := by decide +kernel
theorem dX3_thoseWhoSee_78 : decode cX3_thoseWhoSee 78 = .ok (.iload 8, 2) := by decide +kernel
theorem dX3_thoseWhoSee_80 : decode cX3_thoseWhoSee 80 = .ok (.goto 13, 3) := by decide +kernel
theorem dX3_thoseWhoSee_83 : decode cX3_thoseWhoSee 83 = .ok (.aload_n 0, 1) := by decide +kernel
theorem dX3_thoseWhoSee_84 : decode cX3_thoseWhoSee 84 = .ok (.getfield 7, 3) := by decide +kernel
theorem dX3_thoseWhoSee_87 : decode cX3_thoseWhoSee 87 = .ok (.getfield 73, 3) := by decide +kernel
theorem dX3_thoseWhoSee_90 : decode cX3_thoseWhoSee 90 = .ok (.iload 8, 2) := by decide +kernel
theorem dX3_thoseWhoSee_92 : decode cX3_thoseWhoSee 92 = .ok (.isub, 1) := by decide +kernel
theorem dX3_thoseWhoSee_93 : decode cX3_thoseWhoSee 93 = .ok (.invokevirtual 76, 3) := by decide +kernel
theorem dX3_thoseWhoSee_96 : decode cX3_thoseWhoSee 96 = .ok (.lstore 10, 2) := by decide +kernel
theorem dX3_thoseWhoSee_98 : decode cX3_thoseWhoSee 98 = .ok (.lload 5, 2) := by decide +kernel
theorem dX3_thoseWhoSee_100 : decode cX3_thoseWhoSee 100 = .ok (.lload_n 3, 1) := by decide +kernel
theorem dX3_thoseWhoSee_101 : decode cX3_thoseWhoSee 101 = .ok (.lload 10, 2) := by decide +kernel
theorem dX3_thoseWhoSee_103 : decode cX3_thoseWhoSee 103 = .ok (.land, 1) := by decide +kernel
theorem dX3_thoseWhoSee_104 : decode cX3_thoseWhoSee 104 = .ok (.lor, 1) := by decide +kernel
theorem dX3_thoseWhoSee_105 : decode cX3_thoseWhoSee 105 = .ok (.lstore 5, 2) := by decide +kernel
theorem dX3_thoseWhoSee_107 : decode cX3_thoseWhoSee 107 = .ok (.lload_n 3, 1) := by decide +kernel
theorem dX3_thoseWhoSee_108 : decode cX3_thoseWhoSee 108 = .ok (.lload_n 1, 1) := by decide +kernel
theorem dX3_thoseWhoSee_109 : decode cX3_thoseWhoSee 109 = .ok (.lload 10, 2) := by decide +kernel
theorem dX3_thoseWhoSee_111 : decode cX3_thoseWhoSee 111 = .ok (.land, 1) := by decide +kernel
theorem dX3_thoseWhoSee_112 : decode cX3_thoseWhoSee 112 = .ok (.lor, 1) := by decide +kernel
theorem dX3_thoseWhoSee_113 : decode cX3_thoseWhoSee 113 = .ok (.lstore_n 3, 1) := by decide +kernel
theorem dX3_thoseWhoSee_114 : decode cX3_thoseWhoSee 114 = .ok (.lload_n 1, 1) := by decide +kernel
theorem dX3_thoseWhoSee_115 : decode cX3_thoseWhoSee 115 = .ok (.lload 10, 2) := by decide +kernel
theorem dX3_thoseWhoSee_117 : decode cX3_thoseWhoSee 117 = .ok (.lor, 1) := by decide +kernel
theorem dX3_thoseWhoSee_118 : decode cX3_thoseWhoSee 118 = .ok (.lstore_n 1, 1) := by decide +kernel
theorem dX3_thoseWhoSee_119 : decode cX3_thoseWhoSee 119 = .ok (.iinc 7 1, 3) := by decide +kernel
theorem dX3_thoseWhoSee_122 : decode cX3_thoseWhoSee 122 = .ok (.goto (-112), 3) := by decide +kernel
theorem dX3_thoseWhoSee_125 : decode cX3_thoseWhoSee 125 = .ok (.aload_n 0, 1) := by decide +kernel
theorem dX3_thoseWhoSee_126 : decode cX3_thoseWhoSee 126 = .ok (.getfield 20, 3) := by decide +kernel
theorem dX3_thoseWhoSee_129 : decode cX3_thoseWhoSee 129 = .ok (.iconst 1, 1) := by decide +kernel
theorem dX3_thoseWhoSee_130 : decode cX3_thoseWhoSee 130 = .ok (.if_icmp .ne 7, 3) := by decide +kernel
theorem dX3_thoseWhoSee_133 : decode cX3_thoseWhoSee 133 = .ok (.lload_n 1, 1) := by decide +kernel
theorem dX3_thoseWhoSee_134 : decode cX3_thoseWhoSee 134 = .ok (.goto 17, 3) := by decide +kernel
theorem dX3_thoseWhoSee_137 : decode cX3_thoseWhoSee 137 = .ok (.aload_n 0, 1) := by decide +kernel
theorem dX3_thoseWhoSee_138 : decode cX3_thoseWhoSee 138 = .ok (.getfield 20, 3) := by decide +kernel
theorem dX3_thoseWhoSee_141 : decode cX3_thoseWhoSee 141 = .ok (.iconst 2, 1) := by decide +kernel
theorem dX3_thoseWhoSee_142 : decode cX3_thoseWhoSee 142 = .ok (.if_icmp .ne 7, 3) := by decide +kernel
theorem dX3_thoseWhoSee_145 : decode cX3_thoseWhoSee 145 = .ok (.lload_n 3, 1) := by decide +kernel
theorem dX3_thoseWhoSee_146 : decode cX3_thoseWhoSee 146 = .ok (.goto 5, 3) := by decide +kernel
theorem dX3_thoseWhoSee_149 : decode cX3_thoseWhoSee 149 = .ok (.lload 5, 2) := by decide +kernel
theorem dX3_thoseWhoSee_151 : decode cX3_thoseWhoSee 151 = .ok (.lreturn, 1) := by decide +kernel
end
section
theorem dX4_init_0 : decode cX4_init 0 = .ok (.aload_n 0, 1) := by decide +kernel
theorem dX4_init_1 : decode cX4_init 1 = .ok (.invokespecial 3, 3) := by decide +kernel
theorem dX4_init_4 : decode cX4_init 4 = .ok (.aload_n 0, 1) := by decide +kernel
theorem dX4_init_5 : decode cX4_init 5 = .ok (.aload_n 1, 1) := by decide +kernel
theorem dX4_init_6 : decode cX4_init 6 = .ok (.putfield 9, 3) := by decide +kernel
theorem dX4_init_9 : decode cX4_init 9 = .ok (.aload_n 0, 1) := by decide +kernel
theorem dX4_init_10 : decode cX4_init 10 = .ok (.aload_n 2, 1) := by decide +kernel
theorem dX4_init_11 : decode cX4_init 11 = .ok (.putfield 15, 3) := by decide +kernel
theorem dX4_init_14 : decode cX4_init 14 = .ok (.aload_n 0, 1) := by decide +kernel
theorem dX4_init_15 : decode cX4_init 15 = .ok (.iconst (-1), 1) := by decide +kernel
theorem dX4_init_16 : decode cX4_init 16 = .ok (.putfield 19, 3) := by decide +kernel
theorem dX4_init_19 : decode cX4_init 19 = .ok (.return_, 1) := by decide +kernel
theorem dX4_readInto_0 : decode cX4_readInto 0 = .ok (.aload_n 0, 1) := by decide +kernel
theorem dX4_readInto_1 : decode cX4_readInto 1 = .ok (.aload_n 1, 1) := by decide +kernel
theorem dX4_readInto_2 : decode cX4_readInto 2 = .ok (.putfield 15, 3) := by decide +kernel
theorem dX4_readInto_5 : decode cX4_readInto 5 = .ok (.aload_n 0, 1) := by decide +kernel
theorem dX4_readInto_6 : decode cX4_readInto 6 = .ok (.getfield 15, 3) := by decide +kernel
theorem dX4_readInto_9 : decode cX4_readInto 9 = .ok (.invokevirtual 23, 3) := by decide +kernel
theorem dX4_readInto_12 : decode cX4_readInto 12 = .ok (.aload_n 0, 1) := by decide +kernel
theorem dX4_readInto_13 : decode cX4_readInto 13 = .ok (.iconst 0, 1) := by decide +kernel
theorem dX4_readInto_14 : decode cX4_readInto 14 = .ok (.putfield 28, 3) := by decide +kernel
theorem dX4_readInto_17 : decode cX4_readInto 17 = .ok (.aload_n 0, 1) := by decide +kernel
theorem dX4_readInto_18 : decode cX4_readInto 18 = .ok (.iconst 0, 1) := by decide +kernel
theorem dX4_readInto_19 : decode cX4_readInto 19 = .ok (.putfield 32, 3) := by decide +kernel
theorem dX4_readInto_22 : decode cX4_readInto 22 = .ok (.aload_n 0, 1) := by decide +kernel
theorem dX4_readInto_23 : decode cX4_readInto 23 = .ok (.iconst 0, 1) := by decide +kernel
theorem dX4_readInto_24 : decode cX4_readInto 24 = .ok (.putfield 35, 3) := by decide +kernel
theorem dX4_readInto_27 : decode cX4_readInto 27 = .ok (.aload_n 0, 1) := by decide +kernel
theorem dX4_readInto_28 : decode cX4_readInto 28 = .ok (.iconst 0, 1) := by decide +kernel
theorem dX4_readInto_29 : decode cX4_readInto 29 = .ok (.putfield 38, 3) := by decide +kernel
theorem dX4_readInto_32 : decode cX4_readInto 32 = .ok (.aload_n 0, 1) := by decide +kernel
theorem dX4_readInto_33 : decode cX4_readInto 33 = .ok (.iconst (-1), 1) := by decide +kernel
theorem dX4_readInto_34 : decode cX4_readInto 34 = .ok (.putfield 19, 3) := by decide +kernel
theorem dX4_readInto_37 : decode cX4_readInto 37 = .ok (.aload_n 0, 1) := by decide +kernel
theorem dX4_readInto_38 : decode cX4_readInto 38 = .ok (.iconst 0, 1) := by decide +kernel
theorem dX4_readInto_39 : decode cX4_readInto 39 = .ok (.putfield 41, 3) := by decide +kernel
theorem dX4_readInto_42 : decode cX4_readInto 42 = .ok (.aload_n 0, 1) := by decide +kernel
theorem dX4_readInto_43 : decode cX4_readInto 43 = .ok (.invokevirtual 44, 3) := by decide +kernel
theorem dX4_readInto_46 : decode cX4_readInto 46 = .ok (.iconst 1, 1) := by decide +kernel
theorem dX4_readInto_47 : decode cX4_readInto 47 = .ok (.istore_n 2, 1) := by decide +kernel
theorem dX4_readInto_48 : decode cX4_readInto 48 = .ok (.iconst 0, 1) := by decide +kernel
theorem dX4_readInto_49 : decode cX4_readInto 49 = .ok (.istore_n 3, 1) := by decide +kernel
theorem dX4_readInto_50 : decode cX4_readInto 50 = .ok (.iload_n 3, 1) := by decide +kernel
theorem dX4_readInto_51 : decode cX4_readInto 51 = .ok (.sipush 800, 3) := by decide +kernel
theorem dX4_readInto_54 : decode cX4_readInto 54 = .ok (.if_icmp .gt 25, 3) := by decide +kernel
theorem dX4_readInto_57 : decode cX4_readInto 57 = .ok (.iload_n 2, 1) := by decide +kernel
theorem dX4_readInto_58 : decode cX4_readInto 58 = .ok (.ifCond .eq 21, 3) := by decide +kernel
theorem dX4_readInto_61 : decode cX4_readInto 61 = .ok (.aload_n 0, 1) := by decide +kernel
theorem dX4_readInto_62 : decode cX4_readInto 62 = .ok (.getfield 47, 3) := by decide +kernel
theorem dX4_readInto_65 : decode cX4_readInto 65 = .ok (.ifCond .eq 14, 3) := by decide +kernel
theorem dX4_readInto_68 : decode cX4_readInto 68 = .ok (.aload_n 0, 1) := by decide +kernel
theorem dX4_readInto_69 : decode cX4_readInto 69 = .ok (.invokevirtual 50, 3) := by decide +kernel
theorem dX4_readInto_72 : decode cX4_readInto 72 = .ok (.istore_n 2, 1) := by decide +kernel
theorem dX4_readInto_73 : decode cX4_readInto 73 = .ok (.iinc 3 1, 3) := by decide +kernel
theorem dX4_readInto_76 : decode cX4_readInto 76 = .ok (.goto (-26), 3) := by decide +kernel
theorem dX4_readInto_79 : decode cX4_readInto 79 = .ok (.iload_n 2, 1) := by decide +kernel
theorem dX4_readInto_80 : decode cX4_readInto 80 = .ok (.ireturn, 1) := by decide +kernel
theorem dX4_readLine_0 : decode cX4_readLine 0 = .ok (.aload_n 0, 1) := by decide +kernel
theorem dX4_readLine_1 : decode cX4_readLine 1 = .ok (.ldc 54, 2) := by decide +kernel
theorem dX4_readLine_3 : decode cX4_readLine 3 = .ok (.invokevirtual 56, 3) := by decide +kernel
theorem dX4_readLine_6 : decode cX4_readLine 6 = .ok (.ifCond .eq 8, 3) := by decide +kernel
theorem dX4_readLine_9 : decode cX4_readLine 9 = .ok (.aload_n 0, 1) := by decide +kernel
theorem dX4_readLine_10 : decode cX4_readLine 10 = .ok (.invokevirtual 60, 3) := by decide +kernel
theorem dX4_readLine_13 : decode cX4_readLine 13 = .ok (.ireturn, 1) := by decide +kernel
theorem dX4_readLine_14 : decode cX4_readLine 14 = .ok (.aload_n 0, 1) := by decide +kernel
theorem dX4_readLine_15 : decode cX4_readLine 15 = .ok (.ldc 63, 2) := by decide +kernel
theorem dX4_readLine_17 : decode cX4_readLine 17 = .ok (.invokevirtual 56, 3) := by decide +kernel
theorem dX4_readLine_20 : decode cX4_readLine 20 = .ok (.ifCond .ne 21, 3) := by decide +kernel
theorem dX4_readLine_23 : decode cX4_readLine 23 = .ok (.aload_n 0, 1) := by decide +kernel
theorem dX4_readLine_24 : decode cX4_readLine 24 = .ok (.ldc 65, 2) := by decide +kernel
theorem dX4_readLine_26 : decode cX4_readLine 26 = .ok (.invokevirtual 56, 3) := by decide +kernel
theorem dX4_readLine_29 : decode cX4_readLine 29 = .ok (.ifCond .ne 12, 3) := by decide +kernel
theorem dX4_readLine_32 : decode cX4_readLine 32 = .ok (.aload_n 0, 1) := by decide +kernel
theorem dX4_readLine_33 : decode cX4_readLine 33 = .ok (.ldc 67, 2) := by decide +kernel
theorem dX4_readLine_35 : decode cX4_readLine 35 = .ok (.invokevirtual 56, 3) := by decide +kernel
theorem dX4_readLine_38 : decode cX4_readLine 38 = .ok (.ifCond .eq 8, 3) := by decide +kernel
theorem dX4_readLine_41 : decode cX4_readLine 41 = .ok (.aload_n 0, 1) := by decide +kernel
theorem dX4_readLine_42 : decode cX4_readLine 42 = .ok (.invokevirtual 69, 3) := by decide +kernel
theorem dX4_readLine_45 : decode cX4_readLine 45 = .ok (.ireturn, 1) := by decide +kernel
theorem dX4_readLine_46 : decode cX4_readLine 46 = .ok (.aload_n 0, 1) := by decide +kernel
theorem dX4_readLine_47 : decode cX4_readLine 47 = .ok (.ldc 72, 2) := by decide +kernel
theorem dX4_readLine_49 : decode cX4_readLine 49 = .ok (.invokevirtual 56, 3) := by decide +kernel
theorem dX4_readLine_52 : decode cX4_readLine 52 = .ok (.ifCond .eq 8, 3) := by decide +kernel
theorem dX4_readLine_55 : decode cX4_readLine 55 = .ok (.aload_n 0, 1) := by decide +kernel
theorem dX4_readLine_56 : decode cX4_readLine 56 = .ok (.invokevirtual 74, 3) := by decide +kernel
theorem dX4_readLine_59 : decode cX4_readLine 59 = .ok (.ireturn, 1) := by decide +kernel
theorem dX4_readLine_60 : decode cX4_readLine 60 = .ok (.aload_n 0, 1) := by decide +kernel
theorem dX4_readLine_61 : decode cX4_readLine 61 = .ok (.ldc 77, 2) := by decide +kernel
theorem dX4_readLine_63 : decode cX4_readLine 63 = .ok (.invokevirtual 56, 3) := by decide +kernel
theorem dX4_readLine_66 : decode cX4_readLine 66 = .ok (.ifCond .eq 8, 3) := by decide +kernel
theorem dX4_readLine_69 : decode cX4_readLine 69 = .ok (.aload_n 0, 1) := by decide +kernel
theorem dX4_readLine_70 : decode cX4_readLine 70 = .ok (.invokevirtual 79, 3) := by decide +kernel
theorem dX4_readLine_73 : decode cX4_readLine 73 = .ok (.ireturn, 1) := by decide +kernel
theorem dX4_readLine_74 : decode cX4_readLine 74 = .ok (.aload_n 0, 1) := by decide +kernel
theorem dX4_readLine_75 : decode cX4_readLine 75 = .ok (.invokevirtual 82, 3) := by decide +kernel
theorem dX4_readLine_78 : decode cX4_readLine 78 = .ok (.ireturn, 1) := by decide +kernel
theorem dX4_readSeats_0 : decode cX4_readSeats 0 = .ok (.aload_n 0, 1) := by decide +kernel
theorem dX4_readSeats_1 : decode cX4_readSeats 1 = .ok (.getfield 28, 3) := by decide +kernel
theorem dX4_readSeats_4 : decode cX4_readSeats 4 = .ok (.ifCond .ne 10, 3) := by decide +kernel
theorem dX4_readSeats_7 : decode cX4_readSeats 7 = .ok (.aload_n 0, 1) := by decide +kernel
theorem dX4_readSeats_8 : decode cX4_readSeats 8 = .ok (.getfield 32, 3) := by decide +kernel
theorem dX4_readSeats_11 : decode cX4_readSeats 11 = .ok (.ifCond .eq 8, 3) := by decide +kernel
theorem dX4_readSeats_14 : decode cX4_readSeats 14 = .ok (.aload_n 0, 1) := by decide +kernel
theorem dX4_readSeats_15 : decode cX4_readSeats 15 = .ok (.invokevirtual 82, 3) := by decide +kernel
theorem dX4_readSeats_18 : decode cX4_readSeats 18 = .ok (.ireturn, 1) := by decide +kernel
theorem dX4_readSeats_19 : decode cX4_readSeats 19 = .ok (.aload_n 0, 1) := by decide +kernel
theorem dX4_readSeats_20 : decode cX4_readSeats 20 = .ok (.iconst 1, 1) := by decide +kernel
theorem dX4_readSeats_21 : decode cX4_readSeats 21 = .ok (.putfield 28, 3) := by decide +kernel
theorem dX4_readSeats_24 : decode cX4_readSeats 24 = .ok (.aload_n 0, 1) := by decide +kernel
theorem dX4_readSeats_25 : decode cX4_readSeats 25 = .ok (.invokevirtual 44, 3) := by decide +kernel
theorem dX4_readSeats_28 : decode cX4_readSeats 28 = .ok (.aload_n 0, 1) := by decide +kernel
theorem dX4_readSeats_29 : decode cX4_readSeats 29 = .ok (.bipush 6, 2) := by decide +kernel
theorem dX4_readSeats_31 : decode cX4_readSeats 31 = .ok (.bipush 40, 2) := by decide +kernel
theorem dX4_readSeats_33 : decode cX4_readSeats 33 = .ok (.invokevirtual 85, 3) := by decide +kernel
theorem dX4_readSeats_36 : decode cX4_readSeats 36 = .ok (.ifCond .ne 5, 3) := by decide +kernel
theorem dX4_readSeats_39 : decode cX4_readSeats 39 = .ok (.iconst 0, 1) := by decide +kernel
theorem dX4_readSeats_40 : decode cX4_readSeats 40 = .ok (.ireturn, 1) := by decide +kernel
theorem dX4_readSeats_41 : decode cX4_readSeats 41 = .ok (.aload_n 0, 1) := by decide +kernel
theorem dX4_readSeats_42 : decode cX4_readSeats 42 = .ok (.getfield 15, 3) := by decide +kernel
theorem dX4_readSeats_45 : decode cX4_readSeats 45 = .ok (.aload_n 0, 1) := by decide +kernel
theorem dX4_readSeats_46 : decode cX4_readSeats 46 = .ok (.getfield 89, 3) := by decide +kernel
theorem dX4_readSeats_49 : decode cX4_readSeats 49 = .ok (.putfield 92, 3) := by decide +kernel
theorem dX4_readSeats_52 : decode cX4_readSeats 52 = .ok (.aload_n 0, 1) := by decide +kernel
theorem dX4_readSeats_53 : decode cX4_readSeats 53 = .ok (.invokevirtual 44, 3) := by decide +kernel
theorem dX4_readSeats_56 : decode cX4_readSeats 56 = .ok (.aload_n 0, 1) := by decide +kernel
theorem dX4_readSeats_57 : decode cX4_readSeats 57 = .ok (.bipush 59, 2) := by decide +kernel
theorem dX4_readSeats_59 : decode cX4_readSeats 59 = .ok (.invokevirtual 94, 3) := by decide +kernel
theorem dX4_readSeats_62 : decode cX4_readSeats 62 = .ok (.ireturn, 1) := by decide +kernel
theorem dX4_readPlaces_0 : decode cX4_readPlaces 0 = .ok (.aload_n 0, 1) := by decide +kernel
theorem dX4_readPlaces_1 : decode cX4_readPlaces 1 = .ok (.ldc 63, 2) := by decide +kernel
theorem dX4_readPlaces_3 : decode cX4_readPlaces 3 = .ok (.invokevirtual 56, 3) := by decide +kernel
theorem dX4_readPlaces_6 : decode cX4_readPlaces 6 = .ok (.istore_n 1, 1) := by decide +kernel
theorem dX4_readPlaces_7 : decode cX4_readPlaces 7 = .ok (.aload_n 0, 1) := by decide +kernel
theorem dX4_readPlaces_8 : decode cX4_readPlaces 8 = .ok (.ldc 65, 2) := by decide +kernel
theorem dX4_readPlaces_10 : decode cX4_readPlaces 10 = .ok (.invokevirtual 56, 3) := by decide +kernel
theorem dX4_readPlaces_13 : decode cX4_readPlaces 13 = .ok (.istore_n 2, 1) := by decide +kernel
theorem dX4_readPlaces_14 : decode cX4_readPlaces 14 = .ok (.aload_n 0, 1) := by decide +kernel
theorem dX4_readPlaces_15 : decode cX4_readPlaces 15 = .ok (.iconst 1, 1) := by decide +kernel
theorem dX4_readPlaces_16 : decode cX4_readPlaces 16 = .ok (.putfield 32, 3) := by decide +kernel
theorem dX4_readPlaces_19 : decode cX4_readPlaces 19 = .ok (.aload_n 0, 1) := by decide +kernel
theorem dX4_readPlaces_20 : decode cX4_readPlaces 20 = .ok (.invokevirtual 44, 3) := by decide +kernel
theorem dX4_readPlaces_23 : decode cX4_readPlaces 23 = .ok (.aload_n 0, 1) := by decide +kernel
theorem dX4_readPlaces_24 : decode cX4_readPlaces 24 = .ok (.iconst 0, 1) := by decide +kernel
theorem dX4_readPlaces_25 : decode cX4_readPlaces 25 = .ok (.aload_n 0, 1) := by decide +kernel
theorem dX4_readPlaces_26 : decode cX4_readPlaces 26 = .ok (.getfield 15, 3) := by decide +kernel
theorem dX4_readPlaces_29 : decode cX4_readPlaces 29 = .ok (.getfield 92, 3) := by decide +kernel
theorem dX4_readPlaces_32 : decode cX4_readPlaces 32 = .ok (.iconst 1, 1) := by decide +kernel
theorem dX4_readPlaces_33 : decode cX4_readPlaces 33 = .ok (.isub, 1) := by decide +kernel
theorem dX4_readPlaces_34 : decode cX4_readPlaces 34 = .ok (.invokevirtual 85, 3) := by decide +kernel
theorem dX4_readPlaces_37 : decode cX4_readPlaces 37 = .ok (.ifCond .ne 5, 3) := by decide +kernel
theorem dX4_readPlaces_40 : decode cX4_readPlaces 40 = .ok (.iconst 0, 1) := by decide +kernel
theorem dX4_readPlaces_41 : decode cX4_readPlaces 41 = .ok (.ireturn, 1) := by decide +kernel
theorem dX4_readPlaces_42 : decode cX4_readPlaces 42 = .ok (.aload_n 0, 1) := by decide +kernel
theorem dX4_readPlaces_43 : decode cX4_readPlaces 43 = .ok (.getfield 89, 3) := by decide +kernel
theorem dX4_readPlaces_46 : decode cX4_readPlaces 46 = .ok (.istore_n 3, 1) := by decide +kernel
theorem dX4_readPlaces_47 : decode cX4_readPlaces 47 = .ok (.aload_n 0, 1) := by decide +kernel
theorem dX4_readPlaces_48 : decode cX4_readPlaces 48 = .ok (.invokevirtual 44, 3) := by decide +kernel
theorem dX4_readPlaces_51 : decode cX4_readPlaces 51 = .ok (.aload_n 0, 1) := by decide +kernel
theorem dX4_readPlaces_52 : decode cX4_readPlaces 52 = .ok (.ldc 98, 2) := by decide +kernel
theorem dX4_readPlaces_54 : decode cX4_readPlaces 54 = .ok (.invokevirtual 100, 3) := by decide +kernel
theorem dX4_readPlaces_57 : decode cX4_readPlaces 57 = .ok (.ifCond .eq 20, 3) := by decide +kernel
theorem dX4_readPlaces_60 : decode cX4_readPlaces 60 = .ok (.aload_n 0, 1) := by decide +kernel
theorem dX4_readPlaces_61 : decode cX4_readPlaces 61 = .ok (.iload_n 3, 1) := by decide +kernel
theorem dX4_readPlaces_62 : decode cX4_readPlaces 62 = .ok (.aload_n 0, 1) := by decide +kernel
theorem dX4_readPlaces_63 : decode cX4_readPlaces 63 = .ok (.getfield 15, 3) := by decide +kernel
theorem dX4_readPlaces_66 : decode cX4_readPlaces 66 = .ok (.getfield 92, 3) := by decide +kernel
theorem dX4_readPlaces_69 : decode cX4_readPlaces 69 = .ok (.iconst 1, 1) := by decide +kernel
theorem dX4_readPlaces_70 : decode cX4_readPlaces 70 = .ok (.isub, 1) := by decide +kernel
theorem dX4_readPlaces_71 : decode cX4_readPlaces 71 = .ok (.invokevirtual 85, 3) := by decide +kernel
theorem dX4_readPlaces_74 : decode cX4_readPlaces 74 = .ok (.ifCond .ne 5, 3) := by decide +kernel
theorem dX4_readPlaces_77 : decode cX4_readPlaces 77 = .ok (.iconst 0, 1) := by decide +kernel
theorem dX4_readPlaces_78 : decode cX4_readPlaces 78 = .ok (.ireturn, 1) := by decide +kernel
theorem dX4_readPlaces_79 : decode cX4_readPlaces 79 = .ok (.aload_n 0, 1) := by decide +kernel
theorem dX4_readPlaces_80 : decode cX4_readPlaces 80 = .ok (.getfield 15, 3) := by decide +kernel
theorem dX4_readPlaces_83 : decode cX4_readPlaces 83 = .ok (.iload_n 3, 1) := by decide +kernel
theorem dX4_readPlaces_84 : decode cX4_readPlaces 84 = .ok (.aload_n 0, 1) := by decide +kernel
theorem dX4_readPlaces_85 : decode cX4_readPlaces 85 = .ok (.getfield 89, 3) := by decide +kernel
theorem dX4_readPlaces_88 : decode cX4_readPlaces 88 = .ok (.iload_n 3, 1) := by decide +kernel
theorem dX4_readPlaces_89 : decode cX4_readPlaces 89 = .ok (.isub, 1) := by decide +kernel
theorem dX4_readPlaces_90 : decode cX4_readPlaces 90 = .ok (.iconst 1, 1) := by decide +kernel
theorem dX4_readPlaces_91 : decode cX4_readPlaces 91 = .ok (.iadd, 1) := by decide +kernel
theorem dX4_readPlaces_92 : decode cX4_readPlaces 92 = .ok (.invokevirtual 103, 3) := by decide +kernel
theorem dX4_readPlaces_95 : decode cX4_readPlaces 95 = .ok (.lstore 4, 2) := by decide +kernel
theorem dX4_readPlaces_97 : decode cX4_readPlaces 97 = .ok (.aload_n 0, 1) := by decide +kernel
theorem dX4_readPlaces_98 : decode cX4_readPlaces 98 = .ok (.invokevirtual 44, 3) := by decide +kernel
theorem dX4_readPlaces_101 : decode cX4_readPlaces 101 = .ok (.iload_n 1, 1) := by decide +kernel
theorem dX4_readPlaces_102 : decode cX4_readPlaces 102 = .ok (.ifCond .eq 20, 3) := by decide +kernel
theorem dX4_readPlaces_105 : decode cX4_readPlaces 105 = .ok (.aload_n 0, 1) := by decide +kernel
theorem dX4_readPlaces_106 : decode cX4_readPlaces 106 = .ok (.getfield 15, 3) := by decide +kernel
theorem dX4_readPlaces_109 : decode cX4_readPlaces 109 = .ok (.dup, 1) := by decide +kernel
theorem dX4_readPlaces_110 : decode cX4_readPlaces 110 = .ok (.getfield 107, 3) := by decide +kernel
theorem dX4_readPlaces_113 : decode cX4_readPlaces 113 = .ok (.lload 4, 2) := by decide +kernel
theorem dX4_readPlaces_115 : decode cX4_readPlaces 115 = .ok (.lor, 1) := by decide +kernel
theorem dX4_readPlaces_116 : decode cX4_readPlaces 116 = .ok (.putfield 107, 3) := by decide +kernel
theorem dX4_readPlaces_119 : decode cX4_readPlaces 119 = .ok (.goto 38, 3) := by decide +kernel
theorem dX4_readPlaces_122 : decode cX4_readPlaces 122 = .ok (.iload_n 2, 1) := by decide +kernel
theorem dX4_readPlaces_123 : decode cX4_readPlaces 123 = .ok (.ifCond .eq 20, 3) := by decide +kernel
theorem dX4_readPlaces_126 : decode cX4_readPlaces 126 = .ok (.aload_n 0, 1) := by decide +kernel
theorem dX4_readPlaces_127 : decode cX4_readPlaces 127 = .ok (.getfield 15, 3) := by decide +kernel
theorem dX4_readPlaces_130 : decode cX4_readPlaces 130 = .ok (.dup, 1) := by decide +kernel
theorem dX4_readPlaces_131 : decode cX4_readPlaces 131 = .ok (.getfield 110, 3) := by decide +kernel
theorem dX4_readPlaces_134 : decode cX4_readPlaces 134 = .ok (.lload 4, 2) := by decide +kernel
theorem dX4_readPlaces_136 : decode cX4_readPlaces 136 = .ok (.lor, 1) := by decide +kernel
theorem dX4_readPlaces_137 : decode cX4_readPlaces 137 = .ok (.putfield 110, 3) := by decide +kernel
theorem dX4_readPlaces_140 : decode cX4_readPlaces 140 = .ok (.goto 17, 3) := by decide +kernel
theorem dX4_readPlaces_143 : decode cX4_readPlaces 143 = .ok (.aload_n 0, 1) := by decide +kernel
theorem dX4_readPlaces_144 : decode cX4_readPlaces 144 = .ok (.getfield 15, 3) := by decide +kernel
theorem dX4_readPlaces_147 : decode cX4_readPlaces 147 = .ok (.dup, 1) := by decide +kernel
theorem dX4_readPlaces_148 : decode cX4_readPlaces 148 = .ok (.getfield 113, 3) := by decide +kernel
theorem dX4_readPlaces_151 : decode cX4_readPlaces 151 = .ok (.lload 4, 2) := by decide +kernel
theorem dX4_readPlaces_153 : decode cX4_readPlaces 153 = .ok (.lor, 1) := by decide +kernel
theorem dX4_readPlaces_154 : decode cX4_readPlaces 154 = .ok (.putfield 113, 3) := by decide +kernel
theorem dX4_readPlaces_157 : decode cX4_readPlaces 157 = .ok (.aload_n 0, 1) := by decide +kernel
theorem dX4_readPlaces_158 : decode cX4_readPlaces 158 = .ok (.bipush 59, 2) := by decide +kernel
theorem dX4_readPlaces_160 : decode cX4_readPlaces 160 = .ok (.invokevirtual 94, 3) := by decide +kernel
theorem dX4_readPlaces_163 : decode cX4_readPlaces 163 = .ok (.ireturn, 1) := by decide +kernel
theorem dX4_readSlack_0 : decode cX4_readSlack 0 = .ok (.aload_n 0, 1) := by decide +kernel
theorem dX4_readSlack_1 : decode cX4_readSlack 1 = .ok (.getfield 15, 3) := by decide +kernel
theorem dX4_readSlack_4 : decode cX4_readSlack 4 = .ok (.getfield 115, 3) := by decide +kernel
theorem dX4_readSlack_7 : decode cX4_readSlack 7 = .ok (.bipush 6, 2) := by decide +kernel
theorem dX4_readSlack_9 : decode cX4_readSlack 9 = .ok (.if_icmp .lt 8, 3) := by decide +kernel
theorem dX4_readSlack_12 : decode cX4_readSlack 12 = .ok (.aload_n 0, 1) := by decide +kernel
theorem dX4_readSlack_13 : decode cX4_readSlack 13 = .ok (.invokevirtual 82, 3) := by decide +kernel
theorem dX4_readSlack_16 : decode cX4_readSlack 16 = .ok (.ireturn, 1) := by decide +kernel
theorem dX4_readSlack_17 : decode cX4_readSlack 17 = .ok (.aload_n 0, 1) := by decide +kernel
theorem dX4_readSlack_18 : decode cX4_readSlack 18 = .ok (.invokevirtual 44, 3) := by decide +kernel
theorem dX4_readSlack_21 : decode cX4_readSlack 21 = .ok (.aload_n 0, 1) := by decide +kernel
theorem dX4_readSlack_22 : decode cX4_readSlack 22 = .ok (.iconst 0, 1) := by decide +kernel
theorem dX4_readSlack_23 : decode cX4_readSlack 23 = .ok (.sipush 999, 3) := by decide +kernel
theorem dX4_readSlack_26 : decode cX4_readSlack 26 = .ok (.invokevirtual 85, 3) := by decide +kernel
theorem dX4_readSlack_29 : decode cX4_readSlack 29 = .ok (.ifCond .ne 5, 3) := by decide +kernel
theorem dX4_readSlack_32 : decode cX4_readSlack 32 = .ok (.iconst 0, 1) := by decide +kernel
theorem dX4_readSlack_33 : decode cX4_readSlack 33 = .ok (.ireturn, 1) := by decide +kernel
theorem dX4_readSlack_34 : decode cX4_readSlack 34 = .ok (.aload_n 0, 1) := by decide +kernel
theorem dX4_readSlack_35 : decode cX4_readSlack 35 = .ok (.getfield 89, 3) := by decide +kernel
theorem dX4_readSlack_38 : decode cX4_readSlack 38 = .ok (.istore_n 1, 1) := by decide +kernel
theorem dX4_readSlack_39 : decode cX4_readSlack 39 = .ok (.aload_n 0, 1) := by decide +kernel
theorem dX4_readSlack_40 : decode cX4_readSlack 40 = .ok (.invokevirtual 44, 3) := by decide +kernel
theorem dX4_readSlack_43 : decode cX4_readSlack 43 = .ok (.aload_n 0, 1) := by decide +kernel
theorem dX4_readSlack_44 : decode cX4_readSlack 44 = .ok (.ldc 98, 2) := by decide +kernel
theorem dX4_readSlack_46 : decode cX4_readSlack 46 = .ok (.invokevirtual 100, 3) := by decide +kernel
theorem dX4_readSlack_49 : decode cX4_readSlack 49 = .ok (.ifCond .eq 14, 3) := by decide +kernel
theorem dX4_readSlack_52 : decode cX4_readSlack 52 = .ok (.aload_n 0, 1) := by decide +kernel
theorem dX4_readSlack_53 : decode cX4_readSlack 53 = .ok (.iload_n 1, 1) := by decide +kernel
theorem dX4_readSlack_54 : decode cX4_readSlack 54 = .ok (.sipush 999, 3) := by decide +kernel
theorem dX4_readSlack_57 : decode cX4_readSlack 57 = .ok (.invokevirtual 85, 3) := by decide +kernel
theorem dX4_readSlack_60 : decode cX4_readSlack 60 = .ok (.ifCond .ne 5, 3) := by decide +kernel
theorem dX4_readSlack_63 : decode cX4_readSlack 63 = .ok (.iconst 0, 1) := by decide +kernel
theorem dX4_readSlack_64 : decode cX4_readSlack 64 = .ok (.ireturn, 1) := by decide +kernel
theorem dX4_readSlack_65 : decode cX4_readSlack 65 = .ok (.aload_n 0, 1) := by decide +kernel
theorem dX4_readSlack_66 : decode cX4_readSlack 66 = .ok (.getfield 89, 3) := by decide +kernel
theorem dX4_readSlack_69 : decode cX4_readSlack 69 = .ok (.istore_n 2, 1) := by decide +kernel
theorem dX4_readSlack_70 : decode cX4_readSlack 70 = .ok (.aload_n 0, 1) := by decide +kernel
theorem dX4_readSlack_71 : decode cX4_readSlack 71 = .ok (.invokevirtual 44, 3) := by decide +kernel
theorem dX4_readSlack_74 : decode cX4_readSlack 74 = .ok (.aload_n 0, 1) := by decide +kernel
theorem dX4_readSlack_75 : decode cX4_readSlack 75 = .ok (.ldc 118, 2) := by decide +kernel
theorem dX4_readSlack_77 : decode cX4_readSlack 77 = .ok (.invokevirtual 100, 3) := by decide +kernel
theorem dX4_readSlack_80 : decode cX4_readSlack 80 = .ok (.ifCond .eq 13, 3) := by decide +kernel
theorem dX4_readSlack_83 : decode cX4_readSlack 83 = .ok (.aload_n 0, 1) := by decide +kernel
theorem dX4_readSlack_84 : decode cX4_readSlack 84 = .ok (.iconst 0, 1) := by decide +kernel
theorem dX4_readSlack_85 : decode cX4_readSlack 85 = .ok (.bipush 9, 2) := by decide +kernel
theorem dX4_readSlack_87 : decode cX4_readSlack 87 = .ok (.invokevirtual 85, 3) := by decide +kernel
theorem dX4_readSlack_90 : decode cX4_readSlack 90 = .ok (.ifCond .ne 5, 3) := by decide +kernel
theorem dX4_readSlack_93 : decode cX4_readSlack 93 = .ok (.iconst 0, 1) := by decide +kernel
theorem dX4_readSlack_94 : decode cX4_readSlack 94 = .ok (.ireturn, 1) := by decide +kernel
theorem dX4_readSlack_95 : decode cX4_readSlack 95 = .ok (.aload_n 0, 1) := by decide +kernel
theorem dX4_readSlack_96 : decode cX4_readSlack 96 = .ok (.getfield 15, 3) := by decide +kernel
theorem dX4_readSlack_99 : decode cX4_readSlack 99 = .ok (.iload_n 1, 1) := by decide +kernel
theorem dX4_readSlack_100 : decode cX4_readSlack 100 = .ok (.iload_n 2, 1) := by decide +kernel
theorem dX4_readSlack_101 : decode cX4_readSlack 101 = .ok (.aload_n 0, 1) := by decide +kernel
theorem dX4_readSlack_102 : decode cX4_readSlack 102 = .ok (.getfield 89, 3) := by decide +kernel
theorem dX4_readSlack_105 : decode cX4_readSlack 105 = .ok (.invokevirtual 120, 3) := by decide +kernel
theorem dX4_readSlack_108 : decode cX4_readSlack 108 = .ok (.aload_n 0, 1) := by decide +kernel
theorem dX4_readSlack_109 : decode cX4_readSlack 109 = .ok (.invokevirtual 44, 3) := by decide +kernel
theorem dX4_readSlack_112 : decode cX4_readSlack 112 = .ok (.aload_n 0, 1) := by decide +kernel
theorem dX4_readSlack_113 : decode cX4_readSlack 113 = .ok (.bipush 59, 2) := by decide +kernel
theorem dX4_readSlack_115 : decode cX4_readSlack 115 = .ok (.invokevirtual 94, 3) := by decide +kernel
theorem dX4_readSlack_118 : decode cX4_readSlack 118 = .ok (.ireturn, 1) := by decide +kernel
theorem dX4_readLaw_0 : decode cX4_readLaw 0 = .ok (.aload_n 0, 1) := by decide +kernel
theorem dX4_readLaw_1 : decode cX4_readLaw 1 = .ok (.getfield 35, 3) := by decide +kernel
theorem dX4_readLaw_4 : decode cX4_readLaw 4 = .ok (.ifCond .eq 8, 3) := by decide +kernel
theorem dX4_readLaw_7 : decode cX4_readLaw 7 = .ok (.aload_n 0, 1) := by decide +kernel
theorem dX4_readLaw_8 : decode cX4_readLaw 8 = .ok (.invokevirtual 82, 3) := by decide +kernel
theorem dX4_readLaw_11 : decode cX4_readLaw 11 = .ok (.ireturn, 1) := by decide +kernel
theorem dX4_readLaw_12 : decode cX4_readLaw 12 = .ok (.aload_n 0, 1) := by decide +kernel
theorem dX4_readLaw_13 : decode cX4_readLaw 13 = .ok (.iconst 1, 1) := by decide +kernel
theorem dX4_readLaw_14 : decode cX4_readLaw 14 = .ok (.putfield 35, 3) := by decide +kernel
theorem dX4_readLaw_17 : decode cX4_readLaw 17 = .ok (.aload_n 0, 1) := by decide +kernel
theorem dX4_readLaw_18 : decode cX4_readLaw 18 = .ok (.invokevirtual 44, 3) := by decide +kernel
theorem dX4_readLaw_21 : decode cX4_readLaw 21 = .ok (.aload_n 0, 1) := by decide +kernel
theorem dX4_readLaw_22 : decode cX4_readLaw 22 = .ok (.ldc 124, 2) := by decide +kernel
theorem dX4_readLaw_24 : decode cX4_readLaw 24 = .ok (.invokevirtual 100, 3) := by decide +kernel
theorem dX4_readLaw_27 : decode cX4_readLaw 27 = .ok (.ifCond .eq 13, 3) := by decide +kernel
theorem dX4_readLaw_30 : decode cX4_readLaw 30 = .ok (.aload_n 0, 1) := by decide +kernel
theorem dX4_readLaw_31 : decode cX4_readLaw 31 = .ok (.iconst 1, 1) := by decide +kernel
theorem dX4_readLaw_32 : decode cX4_readLaw 32 = .ok (.bipush 9, 2) := by decide +kernel
theorem dX4_readLaw_34 : decode cX4_readLaw 34 = .ok (.invokevirtual 85, 3) := by decide +kernel
theorem dX4_readLaw_37 : decode cX4_readLaw 37 = .ok (.ifCond .ne 5, 3) := by decide +kernel
theorem dX4_readLaw_40 : decode cX4_readLaw 40 = .ok (.iconst 0, 1) := by decide +kernel
theorem dX4_readLaw_41 : decode cX4_readLaw 41 = .ok (.ireturn, 1) := by decide +kernel
theorem dX4_readLaw_42 : decode cX4_readLaw 42 = .ok (.aload_n 0, 1) := by decide +kernel
theorem dX4_readLaw_43 : decode cX4_readLaw 43 = .ok (.getfield 15, 3) := by decide +kernel
theorem dX4_readLaw_46 : decode cX4_readLaw 46 = .ok (.aload_n 0, 1) := by decide +kernel
theorem dX4_readLaw_47 : decode cX4_readLaw 47 = .ok (.getfield 89, 3) := by decide +kernel
theorem dX4_readLaw_50 : decode cX4_readLaw 50 = .ok (.putfield 126, 3) := by decide +kernel
theorem dX4_readLaw_53 : decode cX4_readLaw 53 = .ok (.aload_n 0, 1) := by decide +kernel
theorem dX4_readLaw_54 : decode cX4_readLaw 54 = .ok (.invokevirtual 44, 3) := by decide +kernel
theorem dX4_readLaw_57 : decode cX4_readLaw 57 = .ok (.aload_n 0, 1) := by decide +kernel
theorem dX4_readLaw_58 : decode cX4_readLaw 58 = .ok (.ldc 128, 2) := by decide +kernel
theorem dX4_readLaw_60 : decode cX4_readLaw 60 = .ok (.invokevirtual 100, 3) := by decide +kernel
theorem dX4_readLaw_63 : decode cX4_readLaw 63 = .ok (.ifCond .eq 13, 3) := by decide +kernel
theorem dX4_readLaw_66 : decode cX4_readLaw 66 = .ok (.aload_n 0, 1) := by decide +kernel
theorem dX4_readLaw_67 : decode cX4_readLaw 67 = .ok (.iconst 0, 1) := by decide +kernel
theorem dX4_readLaw_68 : decode cX4_readLaw 68 = .ok (.bipush 20, 2) := by decide +kernel
theorem dX4_readLaw_70 : decode cX4_readLaw 70 = .ok (.invokevirtual 85, 3) := by decide +kernel
theorem dX4_readLaw_73 : decode cX4_readLaw 73 = .ok (.ifCond .ne 5, 3) := by decide +kernel
theorem dX4_readLaw_76 : decode cX4_readLaw 76 = .ok (.iconst 0, 1) := by decide +kernel
theorem dX4_readLaw_77 : decode cX4_readLaw 77 = .ok (.ireturn, 1) := by decide +kernel
theorem dX4_readLaw_78 : decode cX4_readLaw 78 = .ok (.aload_n 0, 1) := by decide +kernel
theorem dX4_readLaw_79 : decode cX4_readLaw 79 = .ok (.getfield 15, 3) := by decide +kernel
theorem dX4_readLaw_82 : decode cX4_readLaw 82 = .ok (.aload_n 0, 1) := by decide +kernel
theorem dX4_readLaw_83 : decode cX4_readLaw 83 = .ok (.getfield 89, 3) := by decide +kernel
theorem dX4_readLaw_86 : decode cX4_readLaw 86 = .ok (.putfield 130, 3) := by decide +kernel
theorem dX4_readLaw_89 : decode cX4_readLaw 89 = .ok (.aload_n 0, 1) := by decide +kernel
theorem dX4_readLaw_90 : decode cX4_readLaw 90 = .ok (.invokevirtual 44, 3) := by decide +kernel
theorem dX4_readLaw_93 : decode cX4_readLaw 93 = .ok (.aload_n 0, 1) := by decide +kernel
theorem dX4_readLaw_94 : decode cX4_readLaw 94 = .ok (.ldc 132, 2) := by decide +kernel
theorem dX4_readLaw_96 : decode cX4_readLaw 96 = .ok (.invokevirtual 100, 3) := by decide +kernel
theorem dX4_readLaw_99 : decode cX4_readLaw 99 = .ok (.ifCond .eq 13, 3) := by decide +kernel
theorem dX4_readLaw_102 : decode cX4_readLaw 102 = .ok (.aload_n 0, 1) := by decide +kernel
theorem dX4_readLaw_103 : decode cX4_readLaw 103 = .ok (.iconst 1, 1) := by decide +kernel
theorem dX4_readLaw_104 : decode cX4_readLaw 104 = .ok (.bipush 9, 2) := by decide +kernel
theorem dX4_readLaw_106 : decode cX4_readLaw 106 = .ok (.invokevirtual 85, 3) := by decide +kernel
theorem dX4_readLaw_109 : decode cX4_readLaw 109 = .ok (.ifCond .ne 5, 3) := by decide +kernel
theorem dX4_readLaw_112 : decode cX4_readLaw 112 = .ok (.iconst 0, 1) := by decide +kernel
theorem dX4_readLaw_113 : decode cX4_readLaw 113 = .ok (.ireturn, 1) := by decide +kernel
theorem dX4_readLaw_114 : decode cX4_readLaw 114 = .ok (.aload_n 0, 1) := by decide +kernel
theorem dX4_readLaw_115 : decode cX4_readLaw 115 = .ok (.getfield 15, 3) := by decide +kernel
theorem dX4_readLaw_118 : decode cX4_readLaw 118 = .ok (.aload_n 0, 1) := by decide +kernel
theorem dX4_readLaw_119 : decode cX4_readLaw 119 = .ok (.getfield 89, 3) := by decide +kernel
theorem dX4_readLaw_122 : decode cX4_readLaw 122 = .ok (.putfield 134, 3) := by decide +kernel
theorem dX4_readLaw_125 : decode cX4_readLaw 125 = .ok (.aload_n 0, 1) := by decide +kernel
theorem dX4_readLaw_126 : decode cX4_readLaw 126 = .ok (.invokevirtual 44, 3) := by decide +kernel
theorem dX4_readLaw_129 : decode cX4_readLaw 129 = .ok (.aload_n 0, 1) := by decide +kernel
theorem dX4_readLaw_130 : decode cX4_readLaw 130 = .ok (.ldc 136, 2) := by decide +kernel
theorem dX4_readLaw_132 : decode cX4_readLaw 132 = .ok (.invokevirtual 100, 3) := by decide +kernel
theorem dX4_readLaw_135 : decode cX4_readLaw 135 = .ok (.ifCond .eq 13, 3) := by decide +kernel
theorem dX4_readLaw_138 : decode cX4_readLaw 138 = .ok (.aload_n 0, 1) := by decide +kernel
theorem dX4_readLaw_139 : decode cX4_readLaw 139 = .ok (.iconst 0, 1) := by decide +kernel
theorem dX4_readLaw_140 : decode cX4_readLaw 140 = .ok (.bipush 9, 2) := by decide +kernel
theorem dX4_readLaw_142 : decode cX4_readLaw 142 = .ok (.invokevirtual 85, 3) := by decide +kernel
theorem dX4_readLaw_145 : decode cX4_readLaw 145 = .ok (.ifCond .ne 5, 3) := by decide +kernel
theorem dX4_readLaw_148 : decode cX4_readLaw 148 = .ok (.iconst 0, 1) := by decide +kernel
theorem dX4_readLaw_149 : decode cX4_readLaw 149 = .ok (.ireturn, 1) := by decide +kernel
theorem dX4_readLaw_150 : decode cX4_readLaw 150 = .ok (.aload_n 0, 1) := by decide +kernel
theorem dX4_readLaw_151 : decode cX4_readLaw 151 = .ok (.getfield 15, 3) := by decide +kernel
theorem dX4_readLaw_154 : decode cX4_readLaw 154 = .ok (.aload_n 0, 1) := by decide +kernel
theorem dX4_readLaw_155 : decode cX4_readLaw 155 = .ok (.getfield 89, 3) := by decide +kernel
theorem dX4_readLaw_158 : decode cX4_readLaw 158 = .ok (.putfield 138, 3) := by decide +kernel
theorem dX4_readLaw_161 : decode cX4_readLaw 161 = .ok (.aload_n 0, 1) := by decide +kernel
theorem dX4_readLaw_162 : decode cX4_readLaw 162 = .ok (.invokevirtual 44, 3) := by decide +kernel
theorem dX4_readLaw_165 : decode cX4_readLaw 165 = .ok (.aload_n 0, 1) := by decide +kernel
theorem dX4_readLaw_166 : decode cX4_readLaw 166 = .ok (.getfield 15, 3) := by decide +kernel
theorem dX4_readLaw_169 : decode cX4_readLaw 169 = .ok (.getfield 140, 3) := by decide +kernel
theorem dX4_readLaw_172 : decode cX4_readLaw 172 = .ok (.invokevirtual 143, 3) := by decide +kernel
theorem dX4_readLaw_175 : decode cX4_readLaw 175 = .ok (.aload_n 0, 1) := by decide +kernel
theorem dX4_readLaw_176 : decode cX4_readLaw 176 = .ok (.ldc 148, 2) := by decide +kernel
theorem dX4_readLaw_178 : decode cX4_readLaw 178 = .ok (.invokevirtual 100, 3) := by decide +kernel
theorem dX4_readLaw_181 : decode cX4_readLaw 181 = .ok (.ifCond .eq 24, 3) := by decide +kernel
theorem dX4_readLaw_184 : decode cX4_readLaw 184 = .ok (.aload_n 0, 1) := by decide +kernel
theorem dX4_readLaw_185 : decode cX4_readLaw 185 = .ok (.iconst 0, 1) := by decide +kernel
theorem dX4_readLaw_186 : decode cX4_readLaw 186 = .ok (.invokevirtual 150, 3) := by decide +kernel
theorem dX4_readLaw_189 : decode cX4_readLaw 189 = .ok (.ifCond .eq 16, 3) := by decide +kernel
theorem dX4_readLaw_192 : decode cX4_readLaw 192 = .ok (.aload_n 0, 1) := by decide +kernel
theorem dX4_readLaw_193 : decode cX4_readLaw 193 = .ok (.bipush 59, 2) := by decide +kernel
theorem dX4_readLaw_195 : decode cX4_readLaw 195 = .ok (.invokevirtual 94, 3) := by decide +kernel
theorem dX4_readLaw_198 : decode cX4_readLaw 198 = .ok (.ifCond .eq 7, 3) := by decide +kernel
theorem dX4_readLaw_201 : decode cX4_readLaw 201 = .ok (.iconst 1, 1) := by decide +kernel
theorem dX4_readLaw_202 : decode cX4_readLaw 202 = .ok (.goto 4, 3) := by decide +kernel
theorem dX4_readLaw_205 : decode cX4_readLaw 205 = .ok (.iconst 0, 1) := by decide +kernel
theorem dX4_readLaw_206 : decode cX4_readLaw 206 = .ok (.ireturn, 1) := by decide +kernel
theorem dX4_readEither_0 : decode cX4_readEither 0 = .ok (.aload_n 0, 1) := by decide +kernel
theorem dX4_readEither_1 : decode cX4_readEither 1 = .ok (.iload_n 1, 1) := by decide +kernel
theorem dX4_readEither_2 : decode cX4_readEither 2 = .ok (.invokevirtual 154, 3) := by decide +kernel
theorem dX4_readEither_5 : decode cX4_readEither 5 = .ok (.istore_n 2, 1) := by decide +kernel
theorem dX4_readEither_6 : decode cX4_readEither 6 = .ok (.iconst 0, 1) := by decide +kernel
theorem dX4_readEither_7 : decode cX4_readEither 7 = .ok (.istore_n 3, 1) := by decide +kernel
theorem dX4_readEither_8 : decode cX4_readEither 8 = .ok (.iload_n 3, 1) := by decide +kernel
theorem dX4_readEither_9 : decode cX4_readEither 9 = .ok (.bipush 30, 2) := by decide +kernel
theorem dX4_readEither_11 : decode cX4_readEither 11 = .ok (.if_icmp .ge 45, 3) := by decide +kernel
theorem dX4_readEither_14 : decode cX4_readEither 14 = .ok (.iload_n 2, 1) := by decide +kernel
theorem dX4_readEither_15 : decode cX4_readEither 15 = .ok (.ifCond .eq 41, 3) := by decide +kernel
theorem dX4_readEither_18 : decode cX4_readEither 18 = .ok (.aload_n 0, 1) := by decide +kernel
theorem dX4_readEither_19 : decode cX4_readEither 19 = .ok (.ldc 157, 2) := by decide +kernel
theorem dX4_readEither_21 : decode cX4_readEither 21 = .ok (.invokevirtual 56, 3) := by decide +kernel
theorem dX4_readEither_24 : decode cX4_readEither 24 = .ok (.ifCond .eq 32, 3) := by decide +kernel
theorem dX4_readEither_27 : decode cX4_readEither 27 = .ok (.aload_n 0, 1) := by decide +kernel
theorem dX4_readEither_28 : decode cX4_readEither 28 = .ok (.invokevirtual 44, 3) := by decide +kernel
theorem dX4_readEither_31 : decode cX4_readEither 31 = .ok (.aload_n 0, 1) := by decide +kernel
theorem dX4_readEither_32 : decode cX4_readEither 32 = .ok (.iload_n 1, 1) := by decide +kernel
theorem dX4_readEither_33 : decode cX4_readEither 33 = .ok (.invokevirtual 154, 3) := by decide +kernel
theorem dX4_readEither_36 : decode cX4_readEither 36 = .ok (.istore_n 2, 1) := by decide +kernel
theorem dX4_readEither_37 : decode cX4_readEither 37 = .ok (.aload_n 0, 1) := by decide +kernel
theorem dX4_readEither_38 : decode cX4_readEither 38 = .ok (.getfield 15, 3) := by decide +kernel
theorem dX4_readEither_41 : decode cX4_readEither 41 = .ok (.getfield 140, 3) := by decide +kernel
theorem dX4_readEither_44 : decode cX4_readEither 44 = .ok (.sipush 20002, 3) := by decide +kernel
theorem dX4_readEither_47 : decode cX4_readEither 47 = .ok (.invokevirtual 159, 3) := by decide +kernel
theorem dX4_readEither_50 : decode cX4_readEither 50 = .ok (.iinc 3 1, 3) := by decide +kernel
theorem dX4_readEither_53 : decode cX4_readEither 53 = .ok (.goto (-45), 3) := by decide +kernel
theorem dX4_readEither_56 : decode cX4_readEither 56 = .ok (.iload_n 2, 1) := by decide +kernel
theorem dX4_readEither_57 : decode cX4_readEither 57 = .ok (.ireturn, 1) := by decide +kernel
theorem dX4_readBoth_0 : decode cX4_readBoth 0 = .ok (.aload_n 0, 1) := by decide +kernel
theorem dX4_readBoth_1 : decode cX4_readBoth 1 = .ok (.iload_n 1, 1) := by decide +kernel
theorem dX4_readBoth_2 : decode cX4_readBoth 2 = .ok (.invokevirtual 163, 3) := by decide +kernel
theorem dX4_readBoth_5 : decode cX4_readBoth 5 = .ok (.istore_n 2, 1) := by decide +kernel
theorem dX4_readBoth_6 : decode cX4_readBoth 6 = .ok (.iconst 0, 1) := by decide +kernel
theorem dX4_readBoth_7 : decode cX4_readBoth 7 = .ok (.istore_n 3, 1) := by decide +kernel
theorem dX4_readBoth_8 : decode cX4_readBoth 8 = .ok (.iload_n 3, 1) := by decide +kernel
theorem dX4_readBoth_9 : decode cX4_readBoth 9 = .ok (.bipush 30, 2) := by decide +kernel
theorem dX4_readBoth_11 : decode cX4_readBoth 11 = .ok (.if_icmp .ge 45, 3) := by decide +kernel
theorem dX4_readBoth_14 : decode cX4_readBoth 14 = .ok (.iload_n 2, 1) := by decide +kernel
theorem dX4_readBoth_15 : decode cX4_readBoth 15 = .ok (.ifCond .eq 41, 3) := by decide +kernel
theorem dX4_readBoth_18 : decode cX4_readBoth 18 = .ok (.aload_n 0, 1) := by decide +kernel
theorem dX4_readBoth_19 : decode cX4_readBoth 19 = .ok (.ldc 166, 2) := by decide +kernel
theorem dX4_readBoth_21 : decode cX4_readBoth 21 = .ok (.invokevirtual 56, 3) := by decide +kernel
theorem dX4_readBoth_24 : decode cX4_readBoth 24 = .ok (.ifCond .eq 32, 3) := by decide +kernel
theorem dX4_readBoth_27 : decode cX4_readBoth 27 = .ok (.aload_n 0, 1) := by decide +kernel
theorem dX4_readBoth_28 : decode cX4_readBoth 28 = .ok (.invokevirtual 44, 3) := by decide +kernel
theorem dX4_readBoth_31 : decode cX4_readBoth 31 = .ok (.aload_n 0, 1) := by decide +kernel
theorem dX4_readBoth_32 : decode cX4_readBoth 32 = .ok (.iload_n 1, 1) := by decide +kernel
theorem dX4_readBoth_33 : decode cX4_readBoth 33 = .ok (.invokevirtual 163, 3) := by decide +kernel
theorem dX4_readBoth_36 : decode cX4_readBoth 36 = .ok (.istore_n 2, 1) := by decide +kernel
theorem dX4_readBoth_37 : decode cX4_readBoth 37 = .ok (.aload_n 0, 1) := by decide +kernel
theorem dX4_readBoth_38 : decode cX4_readBoth 38 = .ok (.getfield 15, 3) := by decide +kernel
theorem dX4_readBoth_41 : decode cX4_readBoth 41 = .ok (.getfield 140, 3) := by decide +kernel
theorem dX4_readBoth_44 : decode cX4_readBoth 44 = .ok (.sipush 20001, 3) := by decide +kernel
theorem dX4_readBoth_47 : decode cX4_readBoth 47 = .ok (.invokevirtual 159, 3) := by decide +kernel
theorem dX4_readBoth_50 : decode cX4_readBoth 50 = .ok (.iinc 3 1, 3) := by decide +kernel
theorem dX4_readBoth_53 : decode cX4_readBoth 53 = .ok (.goto (-45), 3) := by decide +kernel
theorem dX4_readBoth_56 : decode cX4_readBoth 56 = .ok (.iload_n 2, 1) := by decide +kernel
theorem dX4_readBoth_57 : decode cX4_readBoth 57 = .ok (.ireturn, 1) := by decide +kernel
theorem dX4_readOne_0 : decode cX4_readOne 0 = .ok (.aload_n 0, 1) := by decide +kernel
theorem dX4_readOne_1 : decode cX4_readOne 1 = .ok (.ldc 168, 2) := by decide +kernel
theorem dX4_readOne_3 : decode cX4_readOne 3 = .ok (.invokevirtual 56, 3) := by decide +kernel
theorem dX4_readOne_6 : decode cX4_readOne 6 = .ok (.ifCond .eq 41, 3) := by decide +kernel
theorem dX4_readOne_9 : decode cX4_readOne 9 = .ok (.iload_n 1, 1) := by decide +kernel
theorem dX4_readOne_10 : decode cX4_readOne 10 = .ok (.bipush 7, 2) := by decide +kernel
theorem dX4_readOne_12 : decode cX4_readOne 12 = .ok (.if_icmp .lt 8, 3) := by decide +kernel
theorem dX4_readOne_15 : decode cX4_readOne 15 = .ok (.aload_n 0, 1) := by decide +kernel
theorem dX4_readOne_16 : decode cX4_readOne 16 = .ok (.invokevirtual 82, 3) := by decide +kernel
theorem dX4_readOne_19 : decode cX4_readOne 19 = .ok (.ireturn, 1) := by decide +kernel
theorem dX4_readOne_20 : decode cX4_readOne 20 = .ok (.aload_n 0, 1) := by decide +kernel
theorem dX4_readOne_21 : decode cX4_readOne 21 = .ok (.invokevirtual 44, 3) := by decide +kernel
theorem dX4_readOne_24 : decode cX4_readOne 24 = .ok (.aload_n 0, 1) := by decide +kernel
theorem dX4_readOne_25 : decode cX4_readOne 25 = .ok (.iload_n 1, 1) := by decide +kernel
theorem dX4_readOne_26 : decode cX4_readOne 26 = .ok (.iconst 1, 1) := by decide +kernel
theorem dX4_readOne_27 : decode cX4_readOne 27 = .ok (.iadd, 1) := by decide +kernel
theorem dX4_readOne_28 : decode cX4_readOne 28 = .ok (.invokevirtual 163, 3) := by decide +kernel
theorem dX4_readOne_31 : decode cX4_readOne 31 = .ok (.istore_n 2, 1) := by decide +kernel
theorem dX4_readOne_32 : decode cX4_readOne 32 = .ok (.aload_n 0, 1) := by decide +kernel
theorem dX4_readOne_33 : decode cX4_readOne 33 = .ok (.getfield 15, 3) := by decide +kernel
theorem dX4_readOne_36 : decode cX4_readOne 36 = .ok (.getfield 140, 3) := by decide +kernel
theorem dX4_readOne_39 : decode cX4_readOne 39 = .ok (.sipush 20000, 3) := by decide +kernel
theorem dX4_readOne_42 : decode cX4_readOne 42 = .ok (.invokevirtual 159, 3) := by decide +kernel
theorem dX4_readOne_45 : decode cX4_readOne 45 = .ok (.iload_n 2, 1) := by decide +kernel
theorem dX4_readOne_46 : decode cX4_readOne 46 = .ok (.ireturn, 1) := by decide +kernel
theorem dX4_readOne_47 : decode cX4_readOne 47 = .ok (.aload_n 0, 1) := by decide +kernel
theorem dX4_readOne_48 : decode cX4_readOne 48 = .ok (.iload_n 1, 1) := by decide +kernel
theorem dX4_readOne_49 : decode cX4_readOne 49 = .ok (.invokevirtual 170, 3) := by decide +kernel
theorem dX4_readOne_52 : decode cX4_readOne 52 = .ok (.ifCond .ne 5, 3) := by decide +kernel
theorem dX4_readOne_55 : decode cX4_readOne 55 = .ok (.iconst 0, 1) := by decide +kernel
theorem dX4_readOne_56 : decode cX4_readOne 56 = .ok (.ireturn, 1) := by decide +kernel
theorem dX4_readOne_57 : decode cX4_readOne 57 = .ok (.aload_n 0, 1) := by decide +kernel
theorem dX4_readOne_58 : decode cX4_readOne 58 = .ok (.invokevirtual 173, 3) := by decide +kernel
theorem dX4_readOne_61 : decode cX4_readOne 61 = .ok (.istore_n 2, 1) := by decide +kernel
theorem dX4_readOne_62 : decode cX4_readOne 62 = .ok (.iload_n 2, 1) := by decide +kernel
theorem dX4_readOne_63 : decode cX4_readOne 63 = .ok (.iconst (-1), 1) := by decide +kernel
theorem dX4_readOne_64 : decode cX4_readOne 64 = .ok (.if_icmp .ne 5, 3) := by decide +kernel
theorem dX4_readOne_67 : decode cX4_readOne 67 = .ok (.iconst 1, 1) := by decide +kernel
theorem dX4_readOne_68 : decode cX4_readOne 68 = .ok (.ireturn, 1) := by decide +kernel
theorem dX4_readOne_69 : decode cX4_readOne 69 = .ok (.aload_n 0, 1) := by decide +kernel
theorem dX4_readOne_70 : decode cX4_readOne 70 = .ok (.invokevirtual 44, 3) := by decide +kernel
theorem dX4_readOne_73 : decode cX4_readOne 73 = .ok (.aload_n 0, 1) := by decide +kernel
theorem dX4_readOne_74 : decode cX4_readOne 74 = .ok (.iload_n 1, 1) := by decide +kernel
theorem dX4_readOne_75 : decode cX4_readOne 75 = .ok (.invokevirtual 170, 3) := by decide +kernel
theorem dX4_readOne_78 : decode cX4_readOne 78 = .ok (.istore_n 3, 1) := by decide +kernel
theorem dX4_readOne_79 : decode cX4_readOne 79 = .ok (.aload_n 0, 1) := by decide +kernel
theorem dX4_readOne_80 : decode cX4_readOne 80 = .ok (.getfield 15, 3) := by decide +kernel
theorem dX4_readOne_83 : decode cX4_readOne 83 = .ok (.getfield 140, 3) := by decide +kernel
theorem dX4_readOne_86 : decode cX4_readOne 86 = .ok (.iload_n 2, 1) := by decide +kernel
theorem dX4_readOne_87 : decode cX4_readOne 87 = .ok (.invokevirtual 159, 3) := by decide +kernel
theorem dX4_readOne_90 : decode cX4_readOne 90 = .ok (.iload_n 3, 1) := by decide +kernel
theorem dX4_readOne_91 : decode cX4_readOne 91 = .ok (.ireturn, 1) := by decide +kernel
theorem dX4_relationHere_0 : decode cX4_relationHere 0 = .ok (.aload_n 0, 1) := by decide +kernel
theorem dX4_relationHere_1 : decode cX4_relationHere 1 = .ok (.bipush 60, 2) := by decide +kernel
theorem dX4_relationHere_3 : decode cX4_relationHere 3 = .ok (.invokevirtual 177, 3) := by decide +kernel
theorem dX4_relationHere_6 : decode cX4_relationHere 6 = .ok (.ifCond .eq 7, 3) := by decide +kernel
theorem dX4_relationHere_9 : decode cX4_relationHere 9 = .ok (.sipush 20003, 3) := by decide +kernel
theorem dX4_relationHere_12 : decode cX4_relationHere 12 = .ok (.ireturn, 1) := by decide +kernel
theorem dX4_relationHere_13 : decode cX4_relationHere 13 = .ok (.aload_n 0, 1) := by decide +kernel
theorem dX4_relationHere_14 : decode cX4_relationHere 14 = .ok (.bipush 62, 2) := by decide +kernel
theorem dX4_relationHere_16 : decode cX4_relationHere 16 = .ok (.invokevirtual 177, 3) := by decide +kernel
theorem dX4_relationHere_19 : decode cX4_relationHere 19 = .ok (.ifCond .eq 7, 3) := by decide +kernel
theorem dX4_relationHere_22 : decode cX4_relationHere 22 = .ok (.sipush 20004, 3) := by decide +kernel
theorem dX4_relationHere_25 : decode cX4_relationHere 25 = .ok (.ireturn, 1) := by decide +kernel
theorem dX4_relationHere_26 : decode cX4_relationHere 26 = .ok (.aload_n 0, 1) := by decide +kernel
theorem dX4_relationHere_27 : decode cX4_relationHere 27 = .ok (.bipush 61, 2) := by decide +kernel
theorem dX4_relationHere_29 : decode cX4_relationHere 29 = .ok (.invokevirtual 177, 3) := by decide +kernel
theorem dX4_relationHere_32 : decode cX4_relationHere 32 = .ok (.ifCond .eq 9, 3) := by decide +kernel
theorem dX4_relationHere_35 : decode cX4_relationHere 35 = .ok (.sipush 20005, 3) := by decide +kernel
theorem dX4_relationHere_38 : decode cX4_relationHere 38 = .ok (.goto 4, 3) := by decide +kernel
theorem dX4_relationHere_41 : decode cX4_relationHere 41 = .ok (.iconst (-1), 1) := by decide +kernel
theorem dX4_relationHere_42 : decode cX4_relationHere 42 = .ok (.ireturn, 1) := by decide +kernel
theorem dX4_readSum_0 : decode cX4_readSum 0 = .ok (.aload_n 0, 1) := by decide +kernel
theorem dX4_readSum_1 : decode cX4_readSum 1 = .ok (.iload_n 1, 1) := by decide +kernel
theorem dX4_readSum_2 : decode cX4_readSum 2 = .ok (.invokevirtual 180, 3) := by decide +kernel
theorem dX4_readSum_5 : decode cX4_readSum 5 = .ok (.istore_n 2, 1) := by decide +kernel
theorem dX4_readSum_6 : decode cX4_readSum 6 = .ok (.iconst 0, 1) := by decide +kernel
theorem dX4_readSum_7 : decode cX4_readSum 7 = .ok (.istore_n 3, 1) := by decide +kernel
theorem dX4_readSum_8 : decode cX4_readSum 8 = .ok (.iload_n 3, 1) := by decide +kernel
theorem dX4_readSum_9 : decode cX4_readSum 9 = .ok (.bipush 30, 2) := by decide +kernel
theorem dX4_readSum_11 : decode cX4_readSum 11 = .ok (.if_icmp .ge 73, 3) := by decide +kernel
theorem dX4_readSum_14 : decode cX4_readSum 14 = .ok (.iload_n 2, 1) := by decide +kernel
theorem dX4_readSum_15 : decode cX4_readSum 15 = .ok (.ifCond .eq 69, 3) := by decide +kernel
theorem dX4_readSum_18 : decode cX4_readSum 18 = .ok (.aload_n 0, 1) := by decide +kernel
theorem dX4_readSum_19 : decode cX4_readSum 19 = .ok (.bipush 43, 2) := by decide +kernel
theorem dX4_readSum_21 : decode cX4_readSum 21 = .ok (.invokevirtual 177, 3) := by decide +kernel
theorem dX4_readSum_24 : decode cX4_readSum 24 = .ok (.ifCond .ne 12, 3) := by decide +kernel
theorem dX4_readSum_27 : decode cX4_readSum 27 = .ok (.aload_n 0, 1) := by decide +kernel
theorem dX4_readSum_28 : decode cX4_readSum 28 = .ok (.bipush 45, 2) := by decide +kernel
theorem dX4_readSum_30 : decode cX4_readSum 30 = .ok (.invokevirtual 177, 3) := by decide +kernel
theorem dX4_readSum_33 : decode cX4_readSum 33 = .ok (.ifCond .eq 51, 3) := by decide +kernel
theorem dX4_readSum_36 : decode cX4_readSum 36 = .ok (.aload_n 0, 1) := by decide +kernel
theorem dX4_readSum_37 : decode cX4_readSum 37 = .ok (.bipush 43, 2) := by decide +kernel
theorem dX4_readSum_39 : decode cX4_readSum 39 = .ok (.invokevirtual 177, 3) := by decide +kernel
theorem dX4_readSum_42 : decode cX4_readSum 42 = .ok (.ifCond .eq 9, 3) := by decide +kernel
theorem dX4_readSum_45 : decode cX4_readSum 45 = .ok (.sipush 20006, 3) := by decide +kernel
theorem dX4_readSum_48 : decode cX4_readSum 48 = .ok (.goto 6, 3) := by decide +kernel
theorem dX4_readSum_51 : decode cX4_readSum 51 = .ok (.sipush 20007, 3) := by decide +kernel
theorem dX4_readSum_54 : decode cX4_readSum 54 = .ok (.istore 4, 2) := by decide +kernel
theorem dX4_readSum_56 : decode cX4_readSum 56 = .ok (.aload_n 0, 1) := by decide +kernel
theorem dX4_readSum_57 : decode cX4_readSum 57 = .ok (.invokevirtual 44, 3) := by decide +kernel
theorem dX4_readSum_60 : decode cX4_readSum 60 = .ok (.aload_n 0, 1) := by decide +kernel
theorem dX4_readSum_61 : decode cX4_readSum 61 = .ok (.iload_n 1, 1) := by decide +kernel
theorem dX4_readSum_62 : decode cX4_readSum 62 = .ok (.invokevirtual 180, 3) := by decide +kernel
theorem dX4_readSum_65 : decode cX4_readSum 65 = .ok (.istore_n 2, 1) := by decide +kernel
theorem dX4_readSum_66 : decode cX4_readSum 66 = .ok (.aload_n 0, 1) := by decide +kernel
theorem dX4_readSum_67 : decode cX4_readSum 67 = .ok (.getfield 15, 3) := by decide +kernel
theorem dX4_readSum_70 : decode cX4_readSum 70 = .ok (.getfield 140, 3) := by decide +kernel
theorem dX4_readSum_73 : decode cX4_readSum 73 = .ok (.iload 4, 2) := by decide +kernel
theorem dX4_readSum_75 : decode cX4_readSum 75 = .ok (.invokevirtual 159, 3) := by decide +kernel
theorem dX4_readSum_78 : decode cX4_readSum 78 = .ok (.iinc 3 1, 3) := by decide +kernel
theorem dX4_readSum_81 : decode cX4_readSum 81 = .ok (.goto (-73), 3) := by decide +kernel
theorem dX4_readSum_84 : decode cX4_readSum 84 = .ok (.iload_n 2, 1) := by decide +kernel
theorem dX4_readSum_85 : decode cX4_readSum 85 = .ok (.ireturn, 1) := by decide +kernel
theorem dX4_readTerm_0 : decode cX4_readTerm 0 = .ok (.aload_n 0, 1) := by decide +kernel
theorem dX4_readTerm_1 : decode cX4_readTerm 1 = .ok (.iload_n 1, 1) := by decide +kernel
theorem dX4_readTerm_2 : decode cX4_readTerm 2 = .ok (.invokevirtual 183, 3) := by decide +kernel
theorem dX4_readTerm_5 : decode cX4_readTerm 5 = .ok (.istore_n 2, 1) := by decide +kernel
theorem dX4_readTerm_6 : decode cX4_readTerm 6 = .ok (.iconst 0, 1) := by decide +kernel
theorem dX4_readTerm_7 : decode cX4_readTerm 7 = .ok (.istore_n 3, 1) := by decide +kernel
theorem dX4_readTerm_8 : decode cX4_readTerm 8 = .ok (.iload_n 3, 1) := by decide +kernel
theorem dX4_readTerm_9 : decode cX4_readTerm 9 = .ok (.bipush 30, 2) := by decide +kernel
theorem dX4_readTerm_11 : decode cX4_readTerm 11 = .ok (.if_icmp .ge 45, 3) := by decide +kernel
theorem dX4_readTerm_14 : decode cX4_readTerm 14 = .ok (.iload_n 2, 1) := by decide +kernel
theorem dX4_readTerm_15 : decode cX4_readTerm 15 = .ok (.ifCond .eq 41, 3) := by decide +kernel
theorem dX4_readTerm_18 : decode cX4_readTerm 18 = .ok (.aload_n 0, 1) := by decide +kernel
theorem dX4_readTerm_19 : decode cX4_readTerm 19 = .ok (.bipush 42, 2) := by decide +kernel
theorem dX4_readTerm_21 : decode cX4_readTerm 21 = .ok (.invokevirtual 177, 3) := by decide +kernel
theorem dX4_readTerm_24 : decode cX4_readTerm 24 = .ok (.ifCond .eq 32, 3) := by decide +kernel
theorem dX4_readTerm_27 : decode cX4_readTerm 27 = .ok (.aload_n 0, 1) := by decide +kernel
theorem dX4_readTerm_28 : decode cX4_readTerm 28 = .ok (.invokevirtual 44, 3) := by decide +kernel
theorem dX4_readTerm_31 : decode cX4_readTerm 31 = .ok (.aload_n 0, 1) := by decide +kernel
theorem dX4_readTerm_32 : decode cX4_readTerm 32 = .ok (.iload_n 1, 1) := by decide +kernel
theorem dX4_readTerm_33 : decode cX4_readTerm 33 = .ok (.invokevirtual 183, 3) := by decide +kernel
theorem dX4_readTerm_36 : decode cX4_readTerm 36 = .ok (.istore_n 2, 1) := by decide +kernel
theorem dX4_readTerm_37 : decode cX4_readTerm 37 = .ok (.aload_n 0, 1) := by decide +kernel
theorem dX4_readTerm_38 : decode cX4_readTerm 38 = .ok (.getfield 15, 3) := by decide +kernel
theorem dX4_readTerm_41 : decode cX4_readTerm 41 = .ok (.getfield 140, 3) := by decide +kernel
theorem dX4_readTerm_44 : decode cX4_readTerm 44 = .ok (.sipush 20008, 3) := by decide +kernel
theorem dX4_readTerm_47 : decode cX4_readTerm 47 = .ok (.invokevirtual 159, 3) := by decide +kernel
theorem dX4_readTerm_50 : decode cX4_readTerm 50 = .ok (.iinc 3 1, 3) := by decide +kernel
theorem dX4_readTerm_53 : decode cX4_readTerm 53 = .ok (.goto (-45), 3) := by decide +kernel
theorem dX4_readTerm_56 : decode cX4_readTerm 56 = .ok (.iload_n 2, 1) := by decide +kernel
theorem dX4_readTerm_57 : decode cX4_readTerm 57 = .ok (.ireturn, 1) := by decide +kernel
theorem dX4_readUnit_0 : decode cX4_readUnit 0 = .ok (.aload_n 0, 1) := by decide +kernel
theorem dX4_readUnit_1 : decode cX4_readUnit 1 = .ok (.getfield 15, 3) := by decide +kernel
theorem dX4_readUnit_4 : decode cX4_readUnit 4 = .ok (.getfield 140, 3) := by decide +kernel
theorem dX4_readUnit_7 : decode cX4_readUnit 7 = .ok (.getfield 186, 3) := by decide +kernel
theorem dX4_readUnit_10 : decode cX4_readUnit 10 = .ok (.bipush 30, 2) := by decide +kernel
theorem dX4_readUnit_12 : decode cX4_readUnit 12 = .ok (.if_icmp .lt 8, 3) := by decide +kernel
theorem dX4_readUnit_15 : decode cX4_readUnit 15 = .ok (.aload_n 0, 1) := by decide +kernel
theorem dX4_readUnit_16 : decode cX4_readUnit 16 = .ok (.invokevirtual 82, 3) := by decide +kernel
theorem dX4_readUnit_19 : decode cX4_readUnit 19 = .ok (.ireturn, 1) := by decide +kernel
theorem dX4_readUnit_20 : decode cX4_readUnit 20 = .ok (.aload_n 0, 1) := by decide +kernel
theorem dX4_readUnit_21 : decode cX4_readUnit 21 = .ok (.bipush 40, 2) := by decide +kernel
theorem dX4_readUnit_23 : decode cX4_readUnit 23 = .ok (.invokevirtual 177, 3) := by decide +kernel
theorem dX4_readUnit_26 : decode cX4_readUnit 26 = .ok (.ifCond .eq 9, 3) := by decide +kernel
theorem dX4_readUnit_29 : decode cX4_readUnit 29 = .ok (.aload_n 0, 1) := by decide +kernel
theorem dX4_readUnit_30 : decode cX4_readUnit 30 = .ok (.iload_n 1, 1) := by decide +kernel
theorem dX4_readUnit_31 : decode cX4_readUnit 31 = .ok (.invokevirtual 189, 3) := by decide +kernel
theorem dX4_readUnit_34 : decode cX4_readUnit 34 = .ok (.ireturn, 1) := by decide +kernel
theorem dX4_readUnit_35 : decode cX4_readUnit 35 = .ok (.aload_n 0, 1) := by decide +kernel
theorem dX4_readUnit_36 : decode cX4_readUnit 36 = .ok (.invokevirtual 192, 3) := by decide +kernel
theorem dX4_readUnit_39 : decode cX4_readUnit 39 = .ok (.istore_n 2, 1) := by decide +kernel
theorem dX4_readUnit_40 : decode cX4_readUnit 40 = .ok (.aload_n 0, 1) := by decide +kernel
theorem dX4_readUnit_41 : decode cX4_readUnit 41 = .ok (.getfield 47, 3) := by decide +kernel
theorem dX4_readUnit_44 : decode cX4_readUnit 44 = .ok (.iconst 2, 1) := by decide +kernel
theorem dX4_readUnit_45 : decode cX4_readUnit 45 = .ok (.if_icmp .eq 13, 3) := by decide +kernel
theorem dX4_readUnit_48 : decode cX4_readUnit 48 = .ok (.iload_n 2, 1) := by decide +kernel
theorem dX4_readUnit_49 : decode cX4_readUnit 49 = .ok (.iconst (-1), 1) := by decide +kernel
theorem dX4_readUnit_50 : decode cX4_readUnit 50 = .ok (.if_icmp .ne 8, 3) := by decide +kernel
theorem dX4_readUnit_53 : decode cX4_readUnit 53 = .ok (.aload_n 0, 1) := by decide +kernel
theorem dX4_readUnit_54 : decode cX4_readUnit 54 = .ok (.invokevirtual 82, 3) := by decide +kernel
theorem dX4_readUnit_57 : decode cX4_readUnit 57 = .ok (.ireturn, 1) := by decide +kernel
theorem dX4_readUnit_58 : decode cX4_readUnit 58 = .ok (.aload_n 0, 1) := by decide +kernel
theorem dX4_readUnit_59 : decode cX4_readUnit 59 = .ok (.getfield 15, 3) := by decide +kernel
theorem dX4_readUnit_62 : decode cX4_readUnit 62 = .ok (.getfield 140, 3) := by decide +kernel
theorem dX4_readUnit_65 : decode cX4_readUnit 65 = .ok (.aload_n 0, 1) := by decide +kernel
theorem dX4_readUnit_66 : decode cX4_readUnit 66 = .ok (.getfield 47, 3) := by decide +kernel
theorem dX4_readUnit_69 : decode cX4_readUnit 69 = .ok (.iconst 2, 1) := by decide +kernel
theorem dX4_readUnit_70 : decode cX4_readUnit 70 = .ok (.if_icmp .ne 10, 3) := by decide +kernel
theorem dX4_readUnit_73 : decode cX4_readUnit 73 = .ok (.aload_n 0, 1) := by decide +kernel
theorem dX4_readUnit_74 : decode cX4_readUnit 74 = .ok (.getfield 89, 3) := by decide +kernel
theorem dX4_readUnit_77 : decode cX4_readUnit 77 = .ok (.goto 8, 3) := by decide +kernel
theorem dX4_readUnit_80 : decode cX4_readUnit 80 = .ok (.sipush 10000, 3) := by decide +kernel
theorem dX4_readUnit_83 : decode cX4_readUnit 83 = .ok (.iload_n 2, 1) := by decide +kernel
theorem dX4_readUnit_84 : decode cX4_readUnit 84 = .ok (.iadd, 1) := by decide +kernel
theorem dX4_readUnit_85 : decode cX4_readUnit 85 = .ok (.invokevirtual 195, 3) := by decide +kernel
theorem dX4_readUnit_88 : decode cX4_readUnit 88 = .ok (.aload_n 0, 1) := by decide +kernel
theorem dX4_readUnit_89 : decode cX4_readUnit 89 = .ok (.invokevirtual 44, 3) := by decide +kernel
theorem dX4_readUnit_92 : decode cX4_readUnit 92 = .ok (.iconst 1, 1) := by decide +kernel
theorem dX4_readUnit_93 : decode cX4_readUnit 93 = .ok (.ireturn, 1) := by decide +kernel
theorem dX4_readNested_0 : decode cX4_readNested 0 = .ok (.iload_n 1, 1) := by decide +kernel
theorem dX4_readNested_1 : decode cX4_readNested 1 = .ok (.bipush 7, 2) := by decide +kernel
theorem dX4_readNested_3 : decode cX4_readNested 3 = .ok (.if_icmp .lt 8, 3) := by decide +kernel
theorem dX4_readNested_6 : decode cX4_readNested 6 = .ok (.aload_n 0, 1) := by decide +kernel
theorem dX4_readNested_7 : decode cX4_readNested 7 = .ok (.invokevirtual 82, 3) := by decide +kernel
theorem dX4_readNested_10 : decode cX4_readNested 10 = .ok (.ireturn, 1) := by decide +kernel
theorem dX4_readNested_11 : decode cX4_readNested 11 = .ok (.aload_n 0, 1) := by decide +kernel
theorem dX4_readNested_12 : decode cX4_readNested 12 = .ok (.getfield 15, 3) := by decide +kernel
theorem dX4_readNested_15 : decode cX4_readNested 15 = .ok (.getfield 140, 3) := by decide +kernel
theorem dX4_readNested_18 : decode cX4_readNested 18 = .ok (.dup, 1) := by decide +kernel
theorem dX4_readNested_19 : decode cX4_readNested 19 = .ok (.getfield 186, 3) := by decide +kernel
theorem dX4_readNested_22 : decode cX4_readNested 22 = .ok (.iconst 1, 1) := by decide +kernel
theorem dX4_readNested_23 : decode cX4_readNested 23 = .ok (.iadd, 1) := by decide +kernel
theorem dX4_readNested_24 : decode cX4_readNested 24 = .ok (.putfield 186, 3) := by decide +kernel
theorem dX4_readNested_27 : decode cX4_readNested 27 = .ok (.aload_n 0, 1) := by decide +kernel
theorem dX4_readNested_28 : decode cX4_readNested 28 = .ok (.invokevirtual 44, 3) := by decide +kernel
theorem dX4_readNested_31 : decode cX4_readNested 31 = .ok (.aload_n 0, 1) := by decide +kernel
theorem dX4_readNested_32 : decode cX4_readNested 32 = .ok (.iload_n 1, 1) := by decide +kernel
theorem dX4_readNested_33 : decode cX4_readNested 33 = .ok (.iconst 1, 1) := by decide +kernel
theorem dX4_readNested_34 : decode cX4_readNested 34 = .ok (.iadd, 1) := by decide +kernel
theorem dX4_readNested_35 : decode cX4_readNested 35 = .ok (.invokevirtual 150, 3) := by decide +kernel
theorem dX4_readNested_38 : decode cX4_readNested 38 = .ok (.ifCond .eq 16, 3) := by decide +kernel
theorem dX4_readNested_41 : decode cX4_readNested 41 = .ok (.aload_n 0, 1) := by decide +kernel
theorem dX4_readNested_42 : decode cX4_readNested 42 = .ok (.bipush 41, 2) := by decide +kernel
theorem dX4_readNested_44 : decode cX4_readNested 44 = .ok (.invokevirtual 94, 3) := by decide +kernel
theorem dX4_readNested_47 : decode cX4_readNested 47 = .ok (.ifCond .eq 7, 3) := by decide +kernel
theorem dX4_readNested_50 : decode cX4_readNested 50 = .ok (.iconst 1, 1) := by decide +kernel
theorem dX4_readNested_51 : decode cX4_readNested 51 = .ok (.goto 4, 3) := by decide +kernel
theorem dX4_readNested_54 : decode cX4_readNested 54 = .ok (.iconst 0, 1) := by decide +kernel
theorem dX4_readNested_55 : decode cX4_readNested 55 = .ok (.ireturn, 1) := by decide +kernel
theorem dX4_lookHere_0 : decode cX4_lookHere 0 = .ok (.aload_n 0, 1) := by decide +kernel
theorem dX4_lookHere_1 : decode cX4_lookHere 1 = .ok (.ldc 198, 2) := by decide +kernel
theorem dX4_lookHere_3 : decode cX4_lookHere 3 = .ok (.invokevirtual 56, 3) := by decide +kernel
theorem dX4_lookHere_6 : decode cX4_lookHere 6 = .ok (.ifCond .eq 5, 3) := by decide +kernel
theorem dX4_lookHere_9 : decode cX4_lookHere 9 = .ok (.iconst 0, 1) := by decide +kernel
theorem dX4_lookHere_10 : decode cX4_lookHere 10 = .ok (.ireturn, 1) := by decide +kernel
theorem dX4_lookHere_11 : decode cX4_lookHere 11 = .ok (.aload_n 0, 1) := by decide +kernel
theorem dX4_lookHere_12 : decode cX4_lookHere 12 = .ok (.ldc 200, 2) := by decide +kernel
theorem dX4_lookHere_14 : decode cX4_lookHere 14 = .ok (.invokevirtual 56, 3) := by decide +kernel
theorem dX4_lookHere_17 : decode cX4_lookHere 17 = .ok (.ifCond .eq 5, 3) := by decide +kernel
theorem dX4_lookHere_20 : decode cX4_lookHere 20 = .ok (.iconst 1, 1) := by decide +kernel
theorem dX4_lookHere_21 : decode cX4_lookHere 21 = .ok (.ireturn, 1) := by decide +kernel
theorem dX4_lookHere_22 : decode cX4_lookHere 22 = .ok (.aload_n 0, 1) := by decide +kernel
theorem dX4_lookHere_23 : decode cX4_lookHere 23 = .ok (.ldc 72, 2) := by decide +kernel
theorem dX4_lookHere_25 : decode cX4_lookHere 25 = .ok (.invokevirtual 56, 3) := by decide +kernel
theorem dX4_lookHere_28 : decode cX4_lookHere 28 = .ok (.ifCond .eq 5, 3) := by decide +kernel
theorem dX4_lookHere_31 : decode cX4_lookHere 31 = .ok (.iconst 2, 1) := by decide +kernel
theorem dX4_lookHere_32 : decode cX4_lookHere 32 = .ok (.ireturn, 1) := by decide +kernel
theorem dX4_lookHere_33 : decode cX4_lookHere 33 = .ok (.aload_n 0, 1) := by decide +kernel
theorem dX4_lookHere_34 : decode cX4_lookHere 34 = .ok (.ldc 202, 2) := by decide +kernel
theorem dX4_lookHere_36 : decode cX4_lookHere 36 = .ok (.invokevirtual 56, 3) := by decide +kernel
theorem dX4_lookHere_39 : decode cX4_lookHere 39 = .ok (.ifCond .eq 5, 3) := by decide +kernel
theorem dX4_lookHere_42 : decode cX4_lookHere 42 = .ok (.iconst 3, 1) := by decide +kernel
theorem dX4_lookHere_43 : decode cX4_lookHere 43 = .ok (.ireturn, 1) := by decide +kernel
theorem dX4_lookHere_44 : decode cX4_lookHere 44 = .ok (.aload_n 0, 1) := by decide +kernel
theorem dX4_lookHere_45 : decode cX4_lookHere 45 = .ok (.ldc 204, 2) := by decide +kernel
theorem dX4_lookHere_47 : decode cX4_lookHere 47 = .ok (.invokevirtual 56, 3) := by decide +kernel
theorem dX4_lookHere_50 : decode cX4_lookHere 50 = .ok (.ifCond .eq 5, 3) := by decide +kernel
theorem dX4_lookHere_53 : decode cX4_lookHere 53 = .ok (.iconst 4, 1) := by decide +kernel
theorem dX4_lookHere_54 : decode cX4_lookHere 54 = .ok (.ireturn, 1) := by decide +kernel
theorem dX4_lookHere_55 : decode cX4_lookHere 55 = .ok (.aload_n 0, 1) := by decide +kernel
theorem dX4_lookHere_56 : decode cX4_lookHere 56 = .ok (.ldc 206, 2) := by decide +kernel
theorem dX4_lookHere_58 : decode cX4_lookHere 58 = .ok (.invokevirtual 56, 3) := by decide +kernel
theorem dX4_lookHere_61 : decode cX4_lookHere 61 = .ok (.ifCond .eq 5, 3) := by decide +kernel
theorem dX4_lookHere_64 : decode cX4_lookHere 64 = .ok (.iconst 5, 1) := by decide +kernel
theorem dX4_lookHere_65 : decode cX4_lookHere 65 = .ok (.ireturn, 1) := by decide +kernel
theorem dX4_lookHere_66 : decode cX4_lookHere 66 = .ok (.aload_n 0, 1) := by decide +kernel
theorem dX4_lookHere_67 : decode cX4_lookHere 67 = .ok (.ldc 208, 2) := by decide +kernel
theorem dX4_lookHere_69 : decode cX4_lookHere 69 = .ok (.invokevirtual 56, 3) := by decide +kernel
theorem dX4_lookHere_72 : decode cX4_lookHere 72 = .ok (.ifCond .eq 8, 3) := by decide +kernel
theorem dX4_lookHere_75 : decode cX4_lookHere 75 = .ok (.bipush 6, 2) := by decide +kernel
theorem dX4_lookHere_77 : decode cX4_lookHere 77 = .ok (.goto 4, 3) := by decide +kernel
theorem dX4_lookHere_80 : decode cX4_lookHere 80 = .ok (.iconst (-1), 1) := by decide +kernel
theorem dX4_lookHere_81 : decode cX4_lookHere 81 = .ok (.ireturn, 1) := by decide +kernel
theorem dX4_takeWord_0 : decode cX4_takeWord 0 = .ok (.aload_n 0, 1) := by decide +kernel
theorem dX4_takeWord_1 : decode cX4_takeWord 1 = .ok (.aload_n 1, 1) := by decide +kernel
theorem dX4_takeWord_2 : decode cX4_takeWord 2 = .ok (.invokevirtual 56, 3) := by decide +kernel
theorem dX4_takeWord_5 : decode cX4_takeWord 5 = .ok (.ifCond .ne 8, 3) := by decide +kernel
theorem dX4_takeWord_8 : decode cX4_takeWord 8 = .ok (.aload_n 0, 1) := by decide +kernel
theorem dX4_takeWord_9 : decode cX4_takeWord 9 = .ok (.invokevirtual 82, 3) := by decide +kernel
theorem dX4_takeWord_12 : decode cX4_takeWord 12 = .ok (.ireturn, 1) := by decide +kernel
theorem dX4_takeWord_13 : decode cX4_takeWord 13 = .ok (.aload_n 0, 1) := by decide +kernel
theorem dX4_takeWord_14 : decode cX4_takeWord 14 = .ok (.invokevirtual 44, 3) := by decide +kernel
theorem dX4_takeWord_17 : decode cX4_takeWord 17 = .ok (.iconst 1, 1) := by decide +kernel
theorem dX4_takeWord_18 : decode cX4_takeWord 18 = .ok (.ireturn, 1) := by decide +kernel
theorem dX4_takeSign_0 : decode cX4_takeSign 0 = .ok (.aload_n 0, 1) := by decide +kernel
theorem dX4_takeSign_1 : decode cX4_takeSign 1 = .ok (.iload_n 1, 1) := by decide +kernel
theorem dX4_takeSign_2 : decode cX4_takeSign 2 = .ok (.invokevirtual 177, 3) := by decide +kernel
theorem dX4_takeSign_5 : decode cX4_takeSign 5 = .ok (.ifCond .ne 8, 3) := by decide +kernel
theorem dX4_takeSign_8 : decode cX4_takeSign 8 = .ok (.aload_n 0, 1) := by decide +kernel
theorem dX4_takeSign_9 : decode cX4_takeSign 9 = .ok (.invokevirtual 82, 3) := by decide +kernel
theorem dX4_takeSign_12 : decode cX4_takeSign 12 = .ok (.ireturn, 1) := by decide +kernel
theorem dX4_takeSign_13 : decode cX4_takeSign 13 = .ok (.aload_n 0, 1) := by decide +kernel
theorem dX4_takeSign_14 : decode cX4_takeSign 14 = .ok (.invokevirtual 44, 3) := by decide +kernel
theorem dX4_takeSign_17 : decode cX4_takeSign 17 = .ok (.iconst 1, 1) := by decide +kernel
theorem dX4_takeSign_18 : decode cX4_takeSign 18 = .ok (.ireturn, 1) := by decide +kernel
theorem dX4_takeNumber_0 : decode cX4_takeNumber 0 = .ok (.aload_n 0, 1) := by decide +kernel
theorem dX4_takeNumber_1 : decode cX4_takeNumber 1 = .ok (.getfield 47, 3) := by decide +kernel
theorem dX4_takeNumber_4 : decode cX4_takeNumber 4 = .ok (.iconst 2, 1) := by decide +kernel
theorem dX4_takeNumber_5 : decode cX4_takeNumber 5 = .ok (.if_icmp .eq 8, 3) := by decide +kernel
theorem dX4_takeNumber_8 : decode cX4_takeNumber 8 = .ok (.aload_n 0, 1) := by decide +kernel
theorem dX4_takeNumber_9 : decode cX4_takeNumber 9 = .ok (.invokevirtual 82, 3) := by decide +kernel
theorem dX4_takeNumber_12 : decode cX4_takeNumber 12 = .ok (.ireturn, 1) := by decide +kernel
theorem dX4_takeNumber_13 : decode cX4_takeNumber 13 = .ok (.aload_n 0, 1) := by decide +kernel
theorem dX4_takeNumber_14 : decode cX4_takeNumber 14 = .ok (.getfield 89, 3) := by decide +kernel
theorem dX4_takeNumber_17 : decode cX4_takeNumber 17 = .ok (.iload_n 1, 1) := by decide +kernel
theorem dX4_takeNumber_18 : decode cX4_takeNumber 18 = .ok (.if_icmp .lt 11, 3) := by decide +kernel
theorem dX4_takeNumber_21 : decode cX4_takeNumber 21 = .ok (.aload_n 0, 1) := by decide +kernel
theorem dX4_takeNumber_22 : decode cX4_takeNumber 22 = .ok (.getfield 89, 3) := by decide +kernel
theorem dX4_takeNumber_25 : decode cX4_takeNumber 25 = .ok (.iload_n 2, 1) := by decide +kernel
theorem dX4_takeNumber_26 : decode cX4_takeNumber 26 = .ok (.if_icmp .le 18, 3) := by decide +kernel
theorem dX4_takeNumber_29 : decode cX4_takeNumber 29 = .ok (.aload_n 0, 1) := by decide +kernel
theorem dX4_takeNumber_30 : decode cX4_takeNumber 30 = .ok (.iconst 4, 1) := by decide +kernel
theorem dX4_takeNumber_31 : decode cX4_takeNumber 31 = .ok (.putfield 38, 3) := by decide +kernel
theorem dX4_takeNumber_34 : decode cX4_takeNumber 34 = .ok (.aload_n 0, 1) := by decide +kernel
theorem dX4_takeNumber_35 : decode cX4_takeNumber 35 = .ok (.aload_n 0, 1) := by decide +kernel
theorem dX4_takeNumber_36 : decode cX4_takeNumber 36 = .ok (.getfield 210, 3) := by decide +kernel
theorem dX4_takeNumber_39 : decode cX4_takeNumber 39 = .ok (.putfield 19, 3) := by decide +kernel
theorem dX4_takeNumber_42 : decode cX4_takeNumber 42 = .ok (.iconst 0, 1) := by decide +kernel
theorem dX4_takeNumber_43 : decode cX4_takeNumber 43 = .ok (.ireturn, 1) := by decide +kernel
theorem dX4_takeNumber_44 : decode cX4_takeNumber 44 = .ok (.iconst 1, 1) := by decide +kernel
theorem dX4_takeNumber_45 : decode cX4_takeNumber 45 = .ok (.ireturn, 1) := by decide +kernel
theorem dX4_refuse_0 : decode cX4_refuse 0 = .ok (.aload_n 0, 1) := by decide +kernel
theorem dX4_refuse_1 : decode cX4_refuse 1 = .ok (.aload_n 0, 1) := by decide +kernel
theorem dX4_refuse_2 : decode cX4_refuse 2 = .ok (.getfield 47, 3) := by decide +kernel
theorem dX4_refuse_5 : decode cX4_refuse 5 = .ok (.iconst 4, 1) := by decide +kernel
theorem dX4_refuse_6 : decode cX4_refuse 6 = .ok (.if_icmp .ne 7, 3) := by decide +kernel
theorem dX4_refuse_9 : decode cX4_refuse 9 = .ok (.iconst 1, 1) := by decide +kernel
theorem dX4_refuse_10 : decode cX4_refuse 10 = .ok (.goto 4, 3) := by decide +kernel
theorem dX4_refuse_13 : decode cX4_refuse 13 = .ok (.iconst 2, 1) := by decide +kernel
theorem dX4_refuse_14 : decode cX4_refuse 14 = .ok (.putfield 38, 3) := by decide +kernel
theorem dX4_refuse_17 : decode cX4_refuse 17 = .ok (.aload_n 0, 1) := by decide +kernel
theorem dX4_refuse_18 : decode cX4_refuse 18 = .ok (.aload_n 0, 1) := by decide +kernel
theorem dX4_refuse_19 : decode cX4_refuse 19 = .ok (.getfield 210, 3) := by decide +kernel
theorem dX4_refuse_22 : decode cX4_refuse 22 = .ok (.putfield 19, 3) := by decide +kernel
theorem dX4_refuse_25 : decode cX4_refuse 25 = .ok (.iconst 0, 1) := by decide +kernel
theorem dX4_refuse_26 : decode cX4_refuse 26 = .ok (.ireturn, 1) := by decide +kernel
theorem dX4_isSign_0 : decode cX4_isSign 0 = .ok (.aload_n 0, 1) := by decide +kernel
theorem dX4_isSign_1 : decode cX4_isSign 1 = .ok (.getfield 47, 3) := by decide +kernel
theorem dX4_isSign_4 : decode cX4_isSign 4 = .ok (.iconst 3, 1) := by decide +kernel
theorem dX4_isSign_5 : decode cX4_isSign 5 = .ok (.if_icmp .ne 22, 3) := by decide +kernel
theorem dX4_isSign_8 : decode cX4_isSign 8 = .ok (.aload_n 0, 1) := by decide +kernel
theorem dX4_isSign_9 : decode cX4_isSign 9 = .ok (.getfield 9, 3) := by decide +kernel
theorem dX4_isSign_12 : decode cX4_isSign 12 = .ok (.aload_n 0, 1) := by decide +kernel
theorem dX4_isSign_13 : decode cX4_isSign 13 = .ok (.getfield 210, 3) := by decide +kernel
theorem dX4_isSign_16 : decode cX4_isSign 16 = .ok (.invokevirtual 213, 3) := by decide +kernel
theorem dX4_isSign_19 : decode cX4_isSign 19 = .ok (.iload_n 1, 1) := by decide +kernel
theorem dX4_isSign_20 : decode cX4_isSign 20 = .ok (.if_icmp .ne 7, 3) := by decide +kernel
theorem dX4_isSign_23 : decode cX4_isSign 23 = .ok (.iconst 1, 1) := by decide +kernel
theorem dX4_isSign_24 : decode cX4_isSign 24 = .ok (.goto 4, 3) := by decide +kernel
theorem dX4_isSign_27 : decode cX4_isSign 27 = .ok (.iconst 0, 1) := by decide +kernel
theorem dX4_isSign_28 : decode cX4_isSign 28 = .ok (.ireturn, 1) := by decide +kernel
theorem dX4_isWord_0 : decode cX4_isWord 0 = .ok (.aload_n 0, 1) := by decide +kernel
theorem dX4_isWord_1 : decode cX4_isWord 1 = .ok (.getfield 47, 3) := by decide +kernel
theorem dX4_isWord_4 : decode cX4_isWord 4 = .ok (.iconst 1, 1) := by decide +kernel
theorem dX4_isWord_5 : decode cX4_isWord 5 = .ok (.if_icmp .ne 19, 3) := by decide +kernel
theorem dX4_isWord_8 : decode cX4_isWord 8 = .ok (.aload_n 0, 1) := by decide +kernel
theorem dX4_isWord_9 : decode cX4_isWord 9 = .ok (.getfield 41, 3) := by decide +kernel
theorem dX4_isWord_12 : decode cX4_isWord 12 = .ok (.aload_n 0, 1) := by decide +kernel
theorem dX4_isWord_13 : decode cX4_isWord 13 = .ok (.getfield 210, 3) := by decide +kernel
theorem dX4_isWord_16 : decode cX4_isWord 16 = .ok (.isub, 1) := by decide +kernel
theorem dX4_isWord_17 : decode cX4_isWord 17 = .ok (.aload_n 1, 1) := by decide +kernel
theorem dX4_isWord_18 : decode cX4_isWord 18 = .ok (.invokevirtual 219, 3) := by decide +kernel
theorem dX4_isWord_21 : decode cX4_isWord 21 = .ok (.if_icmp .eq 5, 3) := by decide +kernel
theorem dX4_isWord_24 : decode cX4_isWord 24 = .ok (.iconst 0, 1) := by decide +kernel
theorem dX4_isWord_25 : decode cX4_isWord 25 = .ok (.ireturn, 1) := by decide +kernel
theorem dX4_isWord_26 : decode cX4_isWord 26 = .ok (.iconst 0, 1) := by decide +kernel
theorem dX4_isWord_27 : decode cX4_isWord 27 = .ok (.istore_n 2, 1) := by decide +kernel
theorem dX4_isWord_28 : decode cX4_isWord 28 = .ok (.iload_n 2, 1) := by decide +kernel
theorem dX4_isWord_29 : decode cX4_isWord 29 = .ok (.aload_n 1, 1) := by decide +kernel
theorem dX4_isWord_30 : decode cX4_isWord 30 = .ok (.invokevirtual 219, 3) := by decide +kernel
theorem dX4_isWord_33 : decode cX4_isWord 33 = .ok (.if_icmp .ge 32, 3) := by decide +kernel
theorem dX4_isWord_36 : decode cX4_isWord 36 = .ok (.aload_n 0, 1) := by decide +kernel
theorem dX4_isWord_37 : decode cX4_isWord 37 = .ok (.getfield 9, 3) := by decide +kernel
theorem dX4_isWord_40 : decode cX4_isWord 40 = .ok (.aload_n 0, 1) := by decide +kernel
theorem dX4_isWord_41 : decode cX4_isWord 41 = .ok (.getfield 210, 3) := by decide +kernel
theorem dX4_isWord_44 : decode cX4_isWord 44 = .ok (.iload_n 2, 1) := by decide +kernel
theorem dX4_isWord_45 : decode cX4_isWord 45 = .ok (.iadd, 1) := by decide +kernel
theorem dX4_isWord_46 : decode cX4_isWord 46 = .ok (.invokevirtual 213, 3) := by decide +kernel
theorem dX4_isWord_49 : decode cX4_isWord 49 = .ok (.aload_n 1, 1) := by decide +kernel
theorem dX4_isWord_50 : decode cX4_isWord 50 = .ok (.iload_n 2, 1) := by decide +kernel
theorem dX4_isWord_51 : decode cX4_isWord 51 = .ok (.invokevirtual 224, 3) := by decide +kernel
theorem dX4_isWord_54 : decode cX4_isWord 54 = .ok (.if_icmp .eq 5, 3) := by decide +kernel
theorem dX4_isWord_57 : decode cX4_isWord 57 = .ok (.iconst 0, 1) := by decide +kernel
theorem dX4_isWord_58 : decode cX4_isWord 58 = .ok (.ireturn, 1) := by decide +kernel
theorem dX4_isWord_59 : decode cX4_isWord 59 = .ok (.iinc 2 1, 3) := by decide +kernel
theorem dX4_isWord_62 : decode cX4_isWord 62 = .ok (.goto (-34), 3) := by decide +kernel
theorem dX4_isWord_65 : decode cX4_isWord 65 = .ok (.iconst 1, 1) := by decide +kernel
theorem dX4_isWord_66 : decode cX4_isWord 66 = .ok (.ireturn, 1) := by decide +kernel
theorem dX4_step_0 : decode cX4_step 0 = .ok (.aload_n 0, 1) := by decide +kernel
theorem dX4_step_1 : decode cX4_step 1 = .ok (.getfield 41, 3) := by decide +kernel
theorem dX4_step_4 : decode cX4_step 4 = .ok (.istore_n 1, 1) := by decide +kernel
theorem dX4_step_5 : decode cX4_step 5 = .ok (.iload_n 1, 1) := by decide +kernel
theorem dX4_step_6 : decode cX4_step 6 = .ok (.sipush 800, 3) := by decide +kernel
theorem dX4_step_9 : decode cX4_step 9 = .ok (.if_icmp .ge 23, 3) := by decide +kernel
theorem dX4_step_12 : decode cX4_step 12 = .ok (.aload_n 0, 1) := by decide +kernel
theorem dX4_step_13 : decode cX4_step 13 = .ok (.getfield 9, 3) := by decide +kernel
theorem dX4_step_16 : decode cX4_step 16 = .ok (.iload_n 1, 1) := by decide +kernel
theorem dX4_step_17 : decode cX4_step 17 = .ok (.invokevirtual 213, 3) := by decide +kernel
theorem dX4_step_20 : decode cX4_step 20 = .ok (.invokestatic 228, 3) := by decide +kernel
theorem dX4_step_23 : decode cX4_step 23 = .ok (.ifCond .eq 9, 3) := by decide +kernel
theorem dX4_step_26 : decode cX4_step 26 = .ok (.iinc 1 1, 3) := by decide +kernel
theorem dX4_step_29 : decode cX4_step 29 = .ok (.goto (-24), 3) := by decide +kernel
theorem dX4_step_32 : decode cX4_step 32 = .ok (.aload_n 0, 1) := by decide +kernel
theorem dX4_step_33 : decode cX4_step 33 = .ok (.iload_n 1, 1) := by decide +kernel
theorem dX4_step_34 : decode cX4_step 34 = .ok (.putfield 210, 3) := by decide +kernel
theorem dX4_step_37 : decode cX4_step 37 = .ok (.aload_n 0, 1) := by decide +kernel
theorem dX4_step_38 : decode cX4_step 38 = .ok (.getfield 9, 3) := by decide +kernel
theorem dX4_step_41 : decode cX4_step 41 = .ok (.iload_n 1, 1) := by decide +kernel
theorem dX4_step_42 : decode cX4_step 42 = .ok (.invokevirtual 213, 3) := by decide +kernel
theorem dX4_step_45 : decode cX4_step 45 = .ok (.istore_n 2, 1) := by decide +kernel
theorem dX4_step_46 : decode cX4_step 46 = .ok (.iload_n 2, 1) := by decide +kernel
theorem dX4_step_47 : decode cX4_step 47 = .ok (.iconst (-1), 1) := by decide +kernel
theorem dX4_step_48 : decode cX4_step 48 = .ok (.if_icmp .ne 16, 3) := by decide +kernel
theorem dX4_step_51 : decode cX4_step 51 = .ok (.aload_n 0, 1) := by decide +kernel
theorem dX4_step_52 : decode cX4_step 52 = .ok (.iconst 0, 1) := by decide +kernel
theorem dX4_step_53 : decode cX4_step 53 = .ok (.putfield 47, 3) := by decide +kernel
theorem dX4_step_56 : decode cX4_step 56 = .ok (.aload_n 0, 1) := by decide +kernel
theorem dX4_step_57 : decode cX4_step 57 = .ok (.iload_n 1, 1) := by decide +kernel
theorem dX4_step_58 : decode cX4_step 58 = .ok (.putfield 41, 3) := by decide +kernel
theorem dX4_step_61 : decode cX4_step 61 = .ok (.goto 54, 3) := by decide +kernel
theorem dX4_step_64 : decode cX4_step 64 = .ok (.iload_n 2, 1) := by decide +kernel
theorem dX4_step_65 : decode cX4_step 65 = .ok (.invokestatic 231, 3) := by decide +kernel
theorem dX4_step_68 : decode cX4_step 68 = .ok (.ifCond .eq 10, 3) := by decide +kernel
theorem dX4_step_71 : decode cX4_step 71 = .ok (.aload_n 0, 1) := by decide +kernel
theorem dX4_step_72 : decode cX4_step 72 = .ok (.invokevirtual 234, 3) := by decide +kernel
theorem dX4_step_75 : decode cX4_step 75 = .ok (.goto 40, 3) := by decide +kernel
theorem dX4_step_78 : decode cX4_step 78 = .ok (.iload_n 2, 1) := by decide +kernel
theorem dX4_step_79 : decode cX4_step 79 = .ok (.invokestatic 237, 3) := by decide +kernel
theorem dX4_step_82 : decode cX4_step 82 = .ok (.ifCond .eq 10, 3) := by decide +kernel
theorem dX4_step_85 : decode cX4_step 85 = .ok (.aload_n 0, 1) := by decide +kernel
theorem dX4_step_86 : decode cX4_step 86 = .ok (.invokevirtual 240, 3) := by decide +kernel
theorem dX4_step_89 : decode cX4_step 89 = .ok (.goto 26, 3) := by decide +kernel
theorem dX4_step_92 : decode cX4_step 92 = .ok (.aload_n 0, 1) := by decide +kernel
theorem dX4_step_93 : decode cX4_step 93 = .ok (.iload_n 2, 1) := by decide +kernel
theorem dX4_step_94 : decode cX4_step 94 = .ok (.invokestatic 243, 3) := by decide +kernel
theorem dX4_step_97 : decode cX4_step 97 = .ok (.ifCond .eq 7, 3) := by decide +kernel
theorem dX4_step_100 : decode cX4_step 100 = .ok (.iconst 3, 1) := by decide +kernel
theorem dX4_step_101 : decode cX4_step 101 = .ok (.goto 4, 3) := by decide +kernel
theorem dX4_step_104 : decode cX4_step 104 = .ok (.iconst 4, 1) := by decide +kernel
theorem dX4_step_105 : decode cX4_step 105 = .ok (.putfield 47, 3) := by decide +kernel
theorem dX4_step_108 : decode cX4_step 108 = .ok (.aload_n 0, 1) := by decide +kernel
theorem dX4_step_109 : decode cX4_step 109 = .ok (.iload_n 1, 1) := by decide +kernel
theorem dX4_step_110 : decode cX4_step 110 = .ok (.iconst 1, 1) := by decide +kernel
theorem dX4_step_111 : decode cX4_step 111 = .ok (.iadd, 1) := by decide +kernel
theorem dX4_step_112 : decode cX4_step 112 = .ok (.putfield 41, 3) := by decide +kernel
theorem dX4_step_115 : decode cX4_step 115 = .ok (.return_, 1) := by decide +kernel
theorem dX4_readWord_0 : decode cX4_readWord 0 = .ok (.aload_n 0, 1) := by decide +kernel
theorem dX4_readWord_1 : decode cX4_readWord 1 = .ok (.getfield 210, 3) := by decide +kernel
theorem dX4_readWord_4 : decode cX4_readWord 4 = .ok (.istore_n 1, 1) := by decide +kernel
theorem dX4_readWord_5 : decode cX4_readWord 5 = .ok (.iload_n 1, 1) := by decide +kernel
theorem dX4_readWord_6 : decode cX4_readWord 6 = .ok (.sipush 800, 3) := by decide +kernel
theorem dX4_readWord_9 : decode cX4_readWord 9 = .ok (.if_icmp .ge 23, 3) := by decide +kernel
theorem dX4_readWord_12 : decode cX4_readWord 12 = .ok (.aload_n 0, 1) := by decide +kernel
theorem dX4_readWord_13 : decode cX4_readWord 13 = .ok (.getfield 9, 3) := by decide +kernel
theorem dX4_readWord_16 : decode cX4_readWord 16 = .ok (.iload_n 1, 1) := by decide +kernel
theorem dX4_readWord_17 : decode cX4_readWord 17 = .ok (.invokevirtual 213, 3) := by decide +kernel
theorem dX4_readWord_20 : decode cX4_readWord 20 = .ok (.invokestatic 231, 3) := by decide +kernel
theorem dX4_readWord_23 : decode cX4_readWord 23 = .ok (.ifCond .eq 9, 3) := by decide +kernel
theorem dX4_readWord_26 : decode cX4_readWord 26 = .ok (.iinc 1 1, 3) := by decide +kernel
theorem dX4_readWord_29 : decode cX4_readWord 29 = .ok (.goto (-24), 3) := by decide +kernel
theorem dX4_readWord_32 : decode cX4_readWord 32 = .ok (.aload_n 0, 1) := by decide +kernel
theorem dX4_readWord_33 : decode cX4_readWord 33 = .ok (.iload_n 1, 1) := by decide +kernel
theorem dX4_readWord_34 : decode cX4_readWord 34 = .ok (.putfield 41, 3) := by decide +kernel
theorem dX4_readWord_37 : decode cX4_readWord 37 = .ok (.aload_n 0, 1) := by decide +kernel
theorem dX4_readWord_38 : decode cX4_readWord 38 = .ok (.iload_n 1, 1) := by decide +kernel
theorem dX4_readWord_39 : decode cX4_readWord 39 = .ok (.aload_n 0, 1) := by decide +kernel
theorem dX4_readWord_40 : decode cX4_readWord 40 = .ok (.getfield 210, 3) := by decide +kernel
theorem dX4_readWord_43 : decode cX4_readWord 43 = .ok (.isub, 1) := by decide +kernel
theorem dX4_readWord_44 : decode cX4_readWord 44 = .ok (.bipush 8, 2) := by decide +kernel
theorem dX4_readWord_46 : decode cX4_readWord 46 = .ok (.if_icmp .le 7, 3) := by decide +kernel
theorem dX4_readWord_49 : decode cX4_readWord 49 = .ok (.iconst 4, 1) := by decide +kernel
theorem dX4_readWord_50 : decode cX4_readWord 50 = .ok (.goto 4, 3) := by decide +kernel
theorem dX4_readWord_53 : decode cX4_readWord 53 = .ok (.iconst 1, 1) := by decide +kernel
theorem dX4_readWord_54 : decode cX4_readWord 54 = .ok (.putfield 47, 3) := by decide +kernel
theorem dX4_readWord_57 : decode cX4_readWord 57 = .ok (.return_, 1) := by decide +kernel
theorem dX4_readNumber_0 : decode cX4_readNumber 0 = .ok (.aload_n 0, 1) := by decide +kernel
theorem dX4_readNumber_1 : decode cX4_readNumber 1 = .ok (.getfield 210, 3) := by decide +kernel
theorem dX4_readNumber_4 : decode cX4_readNumber 4 = .ok (.istore_n 1, 1) := by decide +kernel
theorem dX4_readNumber_5 : decode cX4_readNumber 5 = .ok (.aload_n 0, 1) := by decide +kernel
theorem dX4_readNumber_6 : decode cX4_readNumber 6 = .ok (.iconst 0, 1) := by decide +kernel
theorem dX4_readNumber_7 : decode cX4_readNumber 7 = .ok (.putfield 89, 3) := by decide +kernel
theorem dX4_readNumber_10 : decode cX4_readNumber 10 = .ok (.iload_n 1, 1) := by decide +kernel
theorem dX4_readNumber_11 : decode cX4_readNumber 11 = .ok (.sipush 800, 3) := by decide +kernel
theorem dX4_readNumber_14 : decode cX4_readNumber 14 = .ok (.if_icmp .ge 46, 3) := by decide +kernel
theorem dX4_readNumber_17 : decode cX4_readNumber 17 = .ok (.aload_n 0, 1) := by decide +kernel
theorem dX4_readNumber_18 : decode cX4_readNumber 18 = .ok (.getfield 9, 3) := by decide +kernel
theorem dX4_readNumber_21 : decode cX4_readNumber 21 = .ok (.iload_n 1, 1) := by decide +kernel
theorem dX4_readNumber_22 : decode cX4_readNumber 22 = .ok (.invokevirtual 213, 3) := by decide +kernel
theorem dX4_readNumber_25 : decode cX4_readNumber 25 = .ok (.invokestatic 237, 3) := by decide +kernel
theorem dX4_readNumber_28 : decode cX4_readNumber 28 = .ok (.ifCond .eq 32, 3) := by decide +kernel
theorem dX4_readNumber_31 : decode cX4_readNumber 31 = .ok (.aload_n 0, 1) := by decide +kernel
theorem dX4_readNumber_32 : decode cX4_readNumber 32 = .ok (.aload_n 0, 1) := by decide +kernel
theorem dX4_readNumber_33 : decode cX4_readNumber 33 = .ok (.getfield 89, 3) := by decide +kernel
theorem dX4_readNumber_36 : decode cX4_readNumber 36 = .ok (.bipush 10, 2) := by decide +kernel
theorem dX4_readNumber_38 : decode cX4_readNumber 38 = .ok (.imul, 1) := by decide +kernel
theorem dX4_readNumber_39 : decode cX4_readNumber 39 = .ok (.aload_n 0, 1) := by decide +kernel
theorem dX4_readNumber_40 : decode cX4_readNumber 40 = .ok (.getfield 9, 3) := by decide +kernel
theorem dX4_readNumber_43 : decode cX4_readNumber 43 = .ok (.iload_n 1, 1) := by decide +kernel
theorem dX4_readNumber_44 : decode cX4_readNumber 44 = .ok (.invokevirtual 213, 3) := by decide +kernel
theorem dX4_readNumber_47 : decode cX4_readNumber 47 = .ok (.iadd, 1) := by decide +kernel
theorem dX4_readNumber_48 : decode cX4_readNumber 48 = .ok (.bipush 48, 2) := by decide +kernel
theorem dX4_readNumber_50 : decode cX4_readNumber 50 = .ok (.isub, 1) := by decide +kernel
theorem dX4_readNumber_51 : decode cX4_readNumber 51 = .ok (.putfield 89, 3) := by decide +kernel
theorem dX4_readNumber_54 : decode cX4_readNumber 54 = .ok (.iinc 1 1, 3) := by decide +kernel
theorem dX4_readNumber_57 : decode cX4_readNumber 57 = .ok (.goto (-47), 3) := by decide +kernel
theorem dX4_readNumber_60 : decode cX4_readNumber 60 = .ok (.aload_n 0, 1) := by decide +kernel
theorem dX4_readNumber_61 : decode cX4_readNumber 61 = .ok (.iload_n 1, 1) := by decide +kernel
theorem dX4_readNumber_62 : decode cX4_readNumber 62 = .ok (.putfield 41, 3) := by decide +kernel
theorem dX4_readNumber_65 : decode cX4_readNumber 65 = .ok (.aload_n 0, 1) := by decide +kernel
theorem dX4_readNumber_66 : decode cX4_readNumber 66 = .ok (.iload_n 1, 1) := by decide +kernel
theorem dX4_readNumber_67 : decode cX4_readNumber 67 = .ok (.aload_n 0, 1) := by decide +kernel
theorem dX4_readNumber_68 : decode cX4_readNumber 68 = .ok (.getfield 210, 3) := by decide +kernel
theorem dX4_readNumber_71 : decode cX4_readNumber 71 = .ok (.isub, 1) := by decide +kernel
theorem dX4_readNumber_72 : decode cX4_readNumber 72 = .ok (.iconst 4, 1) := by decide +kernel
theorem dX4_readNumber_73 : decode cX4_readNumber 73 = .ok (.if_icmp .gt 17, 3) := by decide +kernel
theorem dX4_readNumber_76 : decode cX4_readNumber 76 = .ok (.aload_n 0, 1) := by decide +kernel
theorem dX4_readNumber_77 : decode cX4_readNumber 77 = .ok (.getfield 9, 3) := by decide +kernel
theorem dX4_readNumber_80 : decode cX4_readNumber 80 = .ok (.iload_n 1, 1) := by decide +kernel
theorem dX4_readNumber_81 : decode cX4_readNumber 81 = .ok (.invokevirtual 213, 3) := by decide +kernel
theorem dX4_readNumber_84 : decode cX4_readNumber 84 = .ok (.invokestatic 231, 3) := by decide +kernel
theorem dX4_readNumber_87 : decode cX4_readNumber 87 = .ok (.ifCond .eq 7, 3) := by decide +kernel
theorem dX4_readNumber_90 : decode cX4_readNumber 90 = .ok (.iconst 4, 1) := by decide +kernel
theorem dX4_readNumber_91 : decode cX4_readNumber 91 = .ok (.goto 4, 3) := by decide +kernel
theorem dX4_readNumber_94 : decode cX4_readNumber 94 = .ok (.iconst 2, 1) := by decide +kernel
theorem dX4_readNumber_95 : decode cX4_readNumber 95 = .ok (.putfield 47, 3) := by decide +kernel
theorem dX4_readNumber_98 : decode cX4_readNumber 98 = .ok (.return_, 1) := by decide +kernel
theorem dX4_isBlank_0 : decode cX4_isBlank 0 = .ok (.iload_n 0, 1) := by decide +kernel
theorem dX4_isBlank_1 : decode cX4_isBlank 1 = .ok (.bipush 32, 2) := by decide +kernel
theorem dX4_isBlank_3 : decode cX4_isBlank 3 = .ok (.if_icmp .eq 9, 3) := by decide +kernel
theorem dX4_isBlank_6 : decode cX4_isBlank 6 = .ok (.iload_n 0, 1) := by decide +kernel
theorem dX4_isBlank_7 : decode cX4_isBlank 7 = .ok (.bipush 10, 2) := by decide +kernel
theorem dX4_isBlank_9 : decode cX4_isBlank 9 = .ok (.if_icmp .ne 7, 3) := by decide +kernel
theorem dX4_isBlank_12 : decode cX4_isBlank 12 = .ok (.iconst 1, 1) := by decide +kernel
theorem dX4_isBlank_13 : decode cX4_isBlank 13 = .ok (.goto 4, 3) := by decide +kernel
theorem dX4_isBlank_16 : decode cX4_isBlank 16 = .ok (.iconst 0, 1) := by decide +kernel
theorem dX4_isBlank_17 : decode cX4_isBlank 17 = .ok (.ireturn, 1) := by decide +kernel
theorem dX4_isLetter_0 : decode cX4_isLetter 0 = .ok (.iload_n 0, 1) := by decide +kernel
theorem dX4_isLetter_1 : decode cX4_isLetter 1 = .ok (.bipush 97, 2) := by decide +kernel
theorem dX4_isLetter_3 : decode cX4_isLetter 3 = .ok (.if_icmp .lt 13, 3) := by decide +kernel
theorem dX4_isLetter_6 : decode cX4_isLetter 6 = .ok (.iload_n 0, 1) := by decide +kernel
theorem dX4_isLetter_7 : decode cX4_isLetter 7 = .ok (.bipush 122, 2) := by decide +kernel
theorem dX4_isLetter_9 : decode cX4_isLetter 9 = .ok (.if_icmp .gt 7, 3) := by decide +kernel
theorem dX4_isLetter_12 : decode cX4_isLetter 12 = .ok (.iconst 1, 1) := by decide +kernel
theorem dX4_isLetter_13 : decode cX4_isLetter 13 = .ok (.goto 4, 3) := by decide +kernel
theorem dX4_isLetter_16 : decode cX4_isLetter 16 = .ok (.iconst 0, 1) := by decide +kernel
theorem dX4_isLetter_17 : decode cX4_isLetter 17 = .ok (.ireturn, 1) := by decide +kernel
theorem dX4_isDigit_0 : decode cX4_isDigit 0 = .ok (.iload_n 0, 1) := by decide +kernel
theorem dX4_isDigit_1 : decode cX4_isDigit 1 = .ok (.bipush 48, 2) := by decide +kernel
theorem dX4_isDigit_3 : decode cX4_isDigit 3 = .ok (.if_icmp .lt 13, 3) := by decide +kernel
theorem dX4_isDigit_6 : decode cX4_isDigit 6 = .ok (.iload_n 0, 1) := by decide +kernel
theorem dX4_isDigit_7 : decode cX4_isDigit 7 = .ok (.bipush 57, 2) := by decide +kernel
theorem dX4_isDigit_9 : decode cX4_isDigit 9 = .ok (.if_icmp .gt 7, 3) := by decide +kernel
theorem dX4_isDigit_12 : decode cX4_isDigit 12 = .ok (.iconst 1, 1) := by decide +kernel
theorem dX4_isDigit_13 : decode cX4_isDigit 13 = .ok (.goto 4, 3) := by decide +kernel
theorem dX4_isDigit_16 : decode cX4_isDigit 16 = .ok (.iconst 0, 1) := by decide +kernel
theorem dX4_isDigit_17 : decode cX4_isDigit 17 = .ok (.ireturn, 1) := by decide +kernel
theorem dX4_isOneOfTheSigns_0 : decode cX4_isOneOfTheSigns 0 = .ok (.iload_n 0, 1) := by decide +kernel
theorem dX4_isOneOfTheSigns_1 : decode cX4_isOneOfTheSigns 1 = .ok (.bipush 40, 2) := by decide +kernel
theorem dX4_isOneOfTheSigns_3 : decode cX4_isOneOfTheSigns 3 = .ok (.if_icmp .lt 9, 3) := by decide +kernel
theorem dX4_isOneOfTheSigns_6 : decode cX4_isOneOfTheSigns 6 = .ok (.iload_n 0, 1) := by decide +kernel
theorem dX4_isOneOfTheSigns_7 : decode cX4_isOneOfTheSigns 7 = .ok (.bipush 43, 2) := by decide +kernel
theorem dX4_isOneOfTheSigns_9 : decode cX4_isOneOfTheSigns 9 = .ok (.if_icmp .le 21, 3) := by decide +kernel
theorem dX4_isOneOfTheSigns_12 : decode cX4_isOneOfTheSigns 12 = .ok (.iload_n 0, 1) := by decide +kernel
theorem dX4_isOneOfTheSigns_13 : decode cX4_isOneOfTheSigns 13 = .ok (.bipush 45, 2) := by decide +kernel
theorem dX4_isOneOfTheSigns_15 : decode cX4_isOneOfTheSigns 15 = .ok (.if_icmp .eq 15, 3) := by decide +kernel
theorem dX4_isOneOfTheSigns_18 : decode cX4_isOneOfTheSigns 18 = .ok (.iload_n 0, 1) := by decide +kernel
theorem dX4_isOneOfTheSigns_19 : decode cX4_isOneOfTheSigns 19 = .ok (.bipush 59, 2) := by decide +kernel
theorem dX4_isOneOfTheSigns_21 : decode cX4_isOneOfTheSigns 21 = .ok (.if_icmp .lt 13, 3) := by decide +kernel
theorem dX4_isOneOfTheSigns_24 : decode cX4_isOneOfTheSigns 24 = .ok (.iload_n 0, 1) := by decide +kernel
theorem dX4_isOneOfTheSigns_25 : decode cX4_isOneOfTheSigns 25 = .ok (.bipush 62, 2) := by decide +kernel
theorem dX4_isOneOfTheSigns_27 : decode cX4_isOneOfTheSigns 27 = .ok (.if_icmp .gt 7, 3) := by decide +kernel
theorem dX4_isOneOfTheSigns_30 : decode cX4_isOneOfTheSigns 30 = .ok (.iconst 1, 1) := by decide +kernel
theorem dX4_isOneOfTheSigns_31 : decode cX4_isOneOfTheSigns 31 = .ok (.goto 4, 3) := by decide +kernel
theorem dX4_isOneOfTheSigns_34 : decode cX4_isOneOfTheSigns 34 = .ok (.iconst 0, 1) := by decide +kernel
theorem dX4_isOneOfTheSigns_35 : decode cX4_isOneOfTheSigns 35 = .ok (.ireturn, 1) := by decide +kernel
theorem dX6_init_0 : decode cX6_init 0 = .ok (.aload_n 0, 1) := by decide +kernel
theorem dX6_init_1 : decode cX6_init 1 = .ok (.invokespecial 3, 3) := by decide +kernel
theorem dX6_init_4 : decode cX6_init 4 = .ok (.aload_n 0, 1) := by decide +kernel
theorem dX6_init_5 : decode cX6_init 5 = .ok (.sipush 800, 3) := by decide +kernel
theorem dX6_init_8 : decode cX6_init 8 = .ok (.newarray .byte, 2) := by decide +kernel
theorem dX6_init_10 : decode cX6_init 10 = .ok (.putfield 9, 3) := by decide +kernel
theorem dX6_init_13 : decode cX6_init 13 = .ok (.return_, 1) := by decide +kernel
theorem dX6_add_0 : decode cX6_add 0 = .ok (.bipush 24, 2) := by decide +kernel
theorem dX6_add_2 : decode cX6_add 2 = .ok (.istore_n 2, 1) := by decide +kernel
theorem dX6_add_3 : decode cX6_add 3 = .ok (.iload_n 2, 1) := by decide +kernel
theorem dX6_add_4 : decode cX6_add 4 = .ok (.ifCond .lt 51, 3) := by decide +kernel
theorem dX6_add_7 : decode cX6_add 7 = .ok (.aload_n 0, 1) := by decide +kernel
theorem dX6_add_8 : decode cX6_add 8 = .ok (.getfield 15, 3) := by decide +kernel
theorem dX6_add_11 : decode cX6_add 11 = .ok (.ifCond .lt 38, 3) := by decide +kernel
theorem dX6_add_14 : decode cX6_add 14 = .ok (.aload_n 0, 1) := by decide +kernel
theorem dX6_add_15 : decode cX6_add 15 = .ok (.getfield 15, 3) := by decide +kernel
theorem dX6_add_18 : decode cX6_add 18 = .ok (.aload_n 0, 1) := by decide +kernel
theorem dX6_add_19 : decode cX6_add 19 = .ok (.getfield 9, 3) := by decide +kernel
theorem dX6_add_22 : decode cX6_add 22 = .ok (.arraylength, 1) := by decide +kernel
theorem dX6_add_23 : decode cX6_add 23 = .ok (.if_icmp .ge 26, 3) := by decide +kernel
theorem dX6_add_26 : decode cX6_add 26 = .ok (.aload_n 0, 1) := by decide +kernel
theorem dX6_add_27 : decode cX6_add 27 = .ok (.getfield 9, 3) := by decide +kernel
theorem dX6_add_30 : decode cX6_add 30 = .ok (.aload_n 0, 1) := by decide +kernel
theorem dX6_add_31 : decode cX6_add 31 = .ok (.getfield 15, 3) := by decide +kernel
theorem dX6_add_34 : decode cX6_add 34 = .ok (.iload_n 1, 1) := by decide +kernel
theorem dX6_add_35 : decode cX6_add 35 = .ok (.iload_n 2, 1) := by decide +kernel
theorem dX6_add_36 : decode cX6_add 36 = .ok (.iushr, 1) := by decide +kernel
theorem dX6_add_37 : decode cX6_add 37 = .ok (.i2b, 1) := by decide +kernel
theorem dX6_add_38 : decode cX6_add 38 = .ok (.bastore, 1) := by decide +kernel
theorem dX6_add_39 : decode cX6_add 39 = .ok (.aload_n 0, 1) := by decide +kernel
theorem dX6_add_40 : decode cX6_add 40 = .ok (.dup, 1) := by decide +kernel
theorem dX6_add_41 : decode cX6_add 41 = .ok (.getfield 15, 3) := by decide +kernel
theorem dX6_add_44 : decode cX6_add 44 = .ok (.iconst 1, 1) := by decide +kernel
theorem dX6_add_45 : decode cX6_add 45 = .ok (.iadd, 1) := by decide +kernel
theorem dX6_add_46 : decode cX6_add 46 = .ok (.putfield 15, 3) := by decide +kernel
theorem dX6_add_49 : decode cX6_add 49 = .ok (.iinc 2 (-8), 3) := by decide +kernel
theorem dX6_add_52 : decode cX6_add 52 = .ok (.goto (-49), 3) := by decide +kernel
theorem dX6_add_55 : decode cX6_add 55 = .ok (.return_, 1) := by decide +kernel
theorem dX6_at_0 : decode cX6_at 0 = .ok (.iload_n 1, 1) := by decide +kernel
theorem dX6_at_1 : decode cX6_at 1 = .ok (.ifCond .lt 33, 3) := by decide +kernel
theorem dX6_at_4 : decode cX6_at 4 = .ok (.iload_n 1, 1) := by decide +kernel
theorem dX6_at_5 : decode cX6_at 5 = .ok (.aload_n 0, 1) := by decide +kernel
theorem dX6_at_6 : decode cX6_at 6 = .ok (.getfield 15, 3) := by decide +kernel
theorem dX6_at_9 : decode cX6_at 9 = .ok (.if_icmp .ge 25, 3) := by decide +kernel
theorem dX6_at_12 : decode cX6_at 12 = .ok (.iload_n 1, 1) := by decide +kernel
theorem dX6_at_13 : decode cX6_at 13 = .ok (.aload_n 0, 1) := by decide +kernel
theorem dX6_at_14 : decode cX6_at 14 = .ok (.getfield 9, 3) := by decide +kernel
theorem dX6_at_17 : decode cX6_at 17 = .ok (.arraylength, 1) := by decide +kernel
theorem dX6_at_18 : decode cX6_at 18 = .ok (.if_icmp .ge 16, 3) := by decide +kernel
theorem dX6_at_21 : decode cX6_at 21 = .ok (.aload_n 0, 1) := by decide +kernel
theorem dX6_at_22 : decode cX6_at 22 = .ok (.getfield 9, 3) := by decide +kernel
theorem dX6_at_25 : decode cX6_at 25 = .ok (.iload_n 1, 1) := by decide +kernel
theorem dX6_at_26 : decode cX6_at 26 = .ok (.baload, 1) := by decide +kernel
theorem dX6_at_27 : decode cX6_at 27 = .ok (.sipush 255, 3) := by decide +kernel
theorem dX6_at_30 : decode cX6_at 30 = .ok (.iand, 1) := by decide +kernel
theorem dX6_at_31 : decode cX6_at 31 = .ok (.goto 4, 3) := by decide +kernel
theorem dX6_at_34 : decode cX6_at 34 = .ok (.iconst (-1), 1) := by decide +kernel
theorem dX6_at_35 : decode cX6_at 35 = .ok (.ireturn, 1) := by decide +kernel
end
section
theorem dX5_init_0 : decode cX5_init 0 = .ok (.aload_n 0, 1) := by decide +kernel
theorem dX5_init_1 : decode cX5_init 1 = .ok (.invokespecial 3, 3) := by decide +kernel
theorem dX5_init_4 : decode cX5_init 4 = .ok (.aload_n 0, 1) := by decide +kernel
theorem dX5_init_5 : decode cX5_init 5 = .ok (.new 9, 3) := by decide +kernel
theorem dX5_init_8 : decode cX5_init 8 = .ok (.dup, 1) := by decide +kernel
theorem dX5_init_9 : decode cX5_init 9 = .ok (.invokespecial 11, 3) := by decide +kernel
theorem dX5_init_12 : decode cX5_init 12 = .ok (.putfield 12, 3) := by decide +kernel
theorem dX5_init_15 : decode cX5_init 15 = .ok (.aload_n 0, 1) := by decide +kernel
theorem dX5_init_16 : decode cX5_init 16 = .ok (.bipush 6, 2) := by decide +kernel
theorem dX5_init_18 : decode cX5_init 18 = .ok (.newarray .int, 2) := by decide +kernel
theorem dX5_init_20 : decode cX5_init 20 = .ok (.putfield 18, 3) := by decide +kernel
theorem dX5_init_23 : decode cX5_init 23 = .ok (.aload_n 0, 1) := by decide +kernel
theorem dX5_init_24 : decode cX5_init 24 = .ok (.bipush 6, 2) := by decide +kernel
theorem dX5_init_26 : decode cX5_init 26 = .ok (.newarray .int, 2) := by decide +kernel
theorem dX5_init_28 : decode cX5_init 28 = .ok (.putfield 22, 3) := by decide +kernel
theorem dX5_init_31 : decode cX5_init 31 = .ok (.aload_n 0, 1) := by decide +kernel
theorem dX5_init_32 : decode cX5_init 32 = .ok (.bipush 6, 2) := by decide +kernel
theorem dX5_init_34 : decode cX5_init 34 = .ok (.newarray .int, 2) := by decide +kernel
theorem dX5_init_36 : decode cX5_init 36 = .ok (.putfield 25, 3) := by decide +kernel
theorem dX5_init_39 : decode cX5_init 39 = .ok (.aload_n 0, 1) := by decide +kernel
theorem dX5_init_40 : decode cX5_init 40 = .ok (.invokevirtual 28, 3) := by decide +kernel
theorem dX5_init_43 : decode cX5_init 43 = .ok (.return_, 1) := by decide +kernel
theorem dX5_empty_0 : decode cX5_empty 0 = .ok (.aload_n 0, 1) := by decide +kernel
theorem dX5_empty_1 : decode cX5_empty 1 = .ok (.iconst 0, 1) := by decide +kernel
theorem dX5_empty_2 : decode cX5_empty 2 = .ok (.putfield 31, 3) := by decide +kernel
theorem dX5_empty_5 : decode cX5_empty 5 = .ok (.aload_n 0, 1) := by decide +kernel
theorem dX5_empty_6 : decode cX5_empty 6 = .ok (.bipush 24, 2) := by decide +kernel
theorem dX5_empty_8 : decode cX5_empty 8 = .ok (.putfield 35, 3) := by decide +kernel
theorem dX5_empty_11 : decode cX5_empty 11 = .ok (.aload_n 0, 1) := by decide +kernel
theorem dX5_empty_12 : decode cX5_empty 12 = .ok (.lconst 0, 1) := by decide +kernel
theorem dX5_empty_13 : decode cX5_empty 13 = .ok (.putfield 38, 3) := by decide +kernel
theorem dX5_empty_16 : decode cX5_empty 16 = .ok (.aload_n 0, 1) := by decide +kernel
theorem dX5_empty_17 : decode cX5_empty 17 = .ok (.lconst 0, 1) := by decide +kernel
theorem dX5_empty_18 : decode cX5_empty 18 = .ok (.putfield 42, 3) := by decide +kernel
theorem dX5_empty_21 : decode cX5_empty 21 = .ok (.aload_n 0, 1) := by decide +kernel
theorem dX5_empty_22 : decode cX5_empty 22 = .ok (.lconst 0, 1) := by decide +kernel
theorem dX5_empty_23 : decode cX5_empty 23 = .ok (.putfield 45, 3) := by decide +kernel
theorem dX5_empty_26 : decode cX5_empty 26 = .ok (.aload_n 0, 1) := by decide +kernel
theorem dX5_empty_27 : decode cX5_empty 27 = .ok (.iconst 2, 1) := by decide +kernel
theorem dX5_empty_28 : decode cX5_empty 28 = .ok (.putfield 48, 3) := by decide +kernel
theorem dX5_empty_31 : decode cX5_empty 31 = .ok (.aload_n 0, 1) := by decide +kernel
theorem dX5_empty_32 : decode cX5_empty 32 = .ok (.iconst 4, 1) := by decide +kernel
theorem dX5_empty_33 : decode cX5_empty 33 = .ok (.putfield 51, 3) := by decide +kernel
theorem dX5_empty_36 : decode cX5_empty 36 = .ok (.aload_n 0, 1) := by decide +kernel
theorem dX5_empty_37 : decode cX5_empty 37 = .ok (.iconst 2, 1) := by decide +kernel
theorem dX5_empty_38 : decode cX5_empty 38 = .ok (.putfield 54, 3) := by decide +kernel
theorem dX5_empty_41 : decode cX5_empty 41 = .ok (.aload_n 0, 1) := by decide +kernel
theorem dX5_empty_42 : decode cX5_empty 42 = .ok (.iconst 0, 1) := by decide +kernel
theorem dX5_empty_43 : decode cX5_empty 43 = .ok (.putfield 57, 3) := by decide +kernel
theorem dX5_empty_46 : decode cX5_empty 46 = .ok (.aload_n 0, 1) := by decide +kernel
theorem dX5_empty_47 : decode cX5_empty 47 = .ok (.getfield 12, 3) := by decide +kernel
theorem dX5_empty_50 : decode cX5_empty 50 = .ok (.invokevirtual 60, 3) := by decide +kernel
theorem dX5_empty_53 : decode cX5_empty 53 = .ok (.aload_n 0, 1) := by decide +kernel
theorem dX5_empty_54 : decode cX5_empty 54 = .ok (.getfield 12, 3) := by decide +kernel
theorem dX5_empty_57 : decode cX5_empty 57 = .ok (.sipush 10000, 3) := by decide +kernel
theorem dX5_empty_60 : decode cX5_empty 60 = .ok (.invokevirtual 63, 3) := by decide +kernel
theorem dX5_empty_63 : decode cX5_empty 63 = .ok (.aload_n 0, 1) := by decide +kernel
theorem dX5_empty_64 : decode cX5_empty 64 = .ok (.getfield 12, 3) := by decide +kernel
theorem dX5_empty_67 : decode cX5_empty 67 = .ok (.iconst 0, 1) := by decide +kernel
theorem dX5_empty_68 : decode cX5_empty 68 = .ok (.invokevirtual 63, 3) := by decide +kernel
theorem dX5_empty_71 : decode cX5_empty 71 = .ok (.aload_n 0, 1) := by decide +kernel
theorem dX5_empty_72 : decode cX5_empty 72 = .ok (.getfield 12, 3) := by decide +kernel
theorem dX5_empty_75 : decode cX5_empty 75 = .ok (.sipush 20004, 3) := by decide +kernel
theorem dX5_empty_78 : decode cX5_empty 78 = .ok (.invokevirtual 67, 3) := by decide +kernel
theorem dX5_empty_81 : decode cX5_empty 81 = .ok (.return_, 1) := by decide +kernel
theorem dX5_has_0 : decode cX5_has 0 = .ok (.iload_n 1, 1) := by decide +kernel
theorem dX5_has_1 : decode cX5_has 1 = .ok (.ifCond .lt 15, 3) := by decide +kernel
theorem dX5_has_4 : decode cX5_has 4 = .ok (.iload_n 1, 1) := by decide +kernel
theorem dX5_has_5 : decode cX5_has 5 = .ok (.aload_n 0, 1) := by decide +kernel
theorem dX5_has_6 : decode cX5_has 6 = .ok (.getfield 35, 3) := by decide +kernel
theorem dX5_has_9 : decode cX5_has 9 = .ok (.if_icmp .ge 7, 3) := by decide +kernel
theorem dX5_has_12 : decode cX5_has 12 = .ok (.iconst 1, 1) := by decide +kernel
theorem dX5_has_13 : decode cX5_has 13 = .ok (.goto 4, 3) := by decide +kernel
theorem dX5_has_16 : decode cX5_has 16 = .ok (.iconst 0, 1) := by decide +kernel
theorem dX5_has_17 : decode cX5_has 17 = .ok (.ireturn, 1) := by decide +kernel
theorem dX5_everySeat_0 : decode cX5_everySeat 0 = .ok (.lconst 1, 1) := by decide +kernel
theorem dX5_everySeat_1 : decode cX5_everySeat 1 = .ok (.aload_n 0, 1) := by decide +kernel
theorem dX5_everySeat_2 : decode cX5_everySeat 2 = .ok (.getfield 35, 3) := by decide +kernel
theorem dX5_everySeat_5 : decode cX5_everySeat 5 = .ok (.lshl, 1) := by decide +kernel
theorem dX5_everySeat_6 : decode cX5_everySeat 6 = .ok (.lconst 1, 1) := by decide +kernel
theorem dX5_everySeat_7 : decode cX5_everySeat 7 = .ok (.lsub, 1) := by decide +kernel
theorem dX5_everySeat_8 : decode cX5_everySeat 8 = .ok (.lreturn, 1) := by decide +kernel
theorem dX5_seatsFrom_0 : decode cX5_seatsFrom 0 = .ok (.aload_n 0, 1) := by decide +kernel
theorem dX5_seatsFrom_1 : decode cX5_seatsFrom 1 = .ok (.lconst 1, 1) := by decide +kernel
theorem dX5_seatsFrom_2 : decode cX5_seatsFrom 2 = .ok (.iload_n 2, 1) := by decide +kernel
theorem dX5_seatsFrom_3 : decode cX5_seatsFrom 3 = .ok (.aload_n 0, 1) := by decide +kernel
theorem dX5_seatsFrom_4 : decode cX5_seatsFrom 4 = .ok (.getfield 35, 3) := by decide +kernel
theorem dX5_seatsFrom_7 : decode cX5_seatsFrom 7 = .ok (.invokestatic 70, 3) := by decide +kernel
theorem dX5_seatsFrom_10 : decode cX5_seatsFrom 10 = .ok (.lshl, 1) := by decide +kernel
theorem dX5_seatsFrom_11 : decode cX5_seatsFrom 11 = .ok (.lconst 1, 1) := by decide +kernel
theorem dX5_seatsFrom_12 : decode cX5_seatsFrom 12 = .ok (.lsub, 1) := by decide +kernel
theorem dX5_seatsFrom_13 : decode cX5_seatsFrom 13 = .ok (.iload_n 1, 1) := by decide +kernel
theorem dX5_seatsFrom_14 : decode cX5_seatsFrom 14 = .ok (.invokevirtual 76, 3) := by decide +kernel
theorem dX5_seatsFrom_17 : decode cX5_seatsFrom 17 = .ok (.lreturn, 1) := by decide +kernel
theorem dX5_turned_0 : decode cX5_turned 0 = .ok (.lload_n 1, 1) := by decide +kernel
theorem dX5_turned_1 : decode cX5_turned 1 = .ok (.iload_n 3, 1) := by decide +kernel
theorem dX5_turned_2 : decode cX5_turned 2 = .ok (.lshl, 1) := by decide +kernel
theorem dX5_turned_3 : decode cX5_turned 3 = .ok (.lload_n 1, 1) := by decide +kernel
theorem dX5_turned_4 : decode cX5_turned 4 = .ok (.aload_n 0, 1) := by decide +kernel
theorem dX5_turned_5 : decode cX5_turned 5 = .ok (.getfield 35, 3) := by decide +kernel
theorem dX5_turned_8 : decode cX5_turned 8 = .ok (.iload_n 3, 1) := by decide +kernel
theorem dX5_turned_9 : decode cX5_turned 9 = .ok (.isub, 1) := by decide +kernel
theorem dX5_turned_10 : decode cX5_turned 10 = .ok (.lushr, 1) := by decide +kernel
theorem dX5_turned_11 : decode cX5_turned 11 = .ok (.lor, 1) := by decide +kernel
theorem dX5_turned_12 : decode cX5_turned 12 = .ok (.aload_n 0, 1) := by decide +kernel
theorem dX5_turned_13 : decode cX5_turned 13 = .ok (.invokevirtual 80, 3) := by decide +kernel
theorem dX5_turned_16 : decode cX5_turned 16 = .ok (.land, 1) := by decide +kernel
theorem dX5_turned_17 : decode cX5_turned 17 = .ok (.lreturn, 1) := by decide +kernel
theorem dX5_sightOf_0 : decode cX5_sightOf 0 = .ok (.iload_n 1, 1) := by decide +kernel
theorem dX5_sightOf_1 : decode cX5_sightOf 1 = .ok (.aload_n 0, 1) := by decide +kernel
theorem dX5_sightOf_2 : decode cX5_sightOf 2 = .ok (.getfield 35, 3) := by decide +kernel
theorem dX5_sightOf_5 : decode cX5_sightOf 5 = .ok (.iconst 1, 1) := by decide +kernel
theorem dX5_sightOf_6 : decode cX5_sightOf 6 = .ok (.isub, 1) := by decide +kernel
theorem dX5_sightOf_7 : decode cX5_sightOf 7 = .ok (.iconst 2, 1) := by decide +kernel
theorem dX5_sightOf_8 : decode cX5_sightOf 8 = .ok (.idiv, 1) := by decide +kernel
theorem dX5_sightOf_9 : decode cX5_sightOf 9 = .ok (.invokestatic 70, 3) := by decide +kernel
theorem dX5_sightOf_12 : decode cX5_sightOf 12 = .ok (.ireturn, 1) := by decide +kernel
theorem dX5_addSlack_0 : decode cX5_addSlack 0 = .ok (.aload_n 0, 1) := by decide +kernel
theorem dX5_addSlack_1 : decode cX5_addSlack 1 = .ok (.getfield 31, 3) := by decide +kernel
theorem dX5_addSlack_4 : decode cX5_addSlack 4 = .ok (.ifCond .lt 52, 3) := by decide +kernel
theorem dX5_addSlack_7 : decode cX5_addSlack 7 = .ok (.aload_n 0, 1) := by decide +kernel
theorem dX5_addSlack_8 : decode cX5_addSlack 8 = .ok (.getfield 31, 3) := by decide +kernel
theorem dX5_addSlack_11 : decode cX5_addSlack 11 = .ok (.bipush 6, 2) := by decide +kernel
theorem dX5_addSlack_13 : decode cX5_addSlack 13 = .ok (.if_icmp .ge 43, 3) := by decide +kernel
theorem dX5_addSlack_16 : decode cX5_addSlack 16 = .ok (.aload_n 0, 1) := by decide +kernel
theorem dX5_addSlack_17 : decode cX5_addSlack 17 = .ok (.getfield 18, 3) := by decide +kernel
theorem dX5_addSlack_20 : decode cX5_addSlack 20 = .ok (.aload_n 0, 1) := by decide +kernel
theorem dX5_addSlack_21 : decode cX5_addSlack 21 = .ok (.getfield 31, 3) := by decide +kernel
theorem dX5_addSlack_24 : decode cX5_addSlack 24 = .ok (.iload_n 1, 1) := by decide +kernel
theorem dX5_addSlack_25 : decode cX5_addSlack 25 = .ok (.iastore, 1) := by decide +kernel
theorem dX5_addSlack_26 : decode cX5_addSlack 26 = .ok (.aload_n 0, 1) := by decide +kernel
theorem dX5_addSlack_27 : decode cX5_addSlack 27 = .ok (.getfield 22, 3) := by decide +kernel
theorem dX5_addSlack_30 : decode cX5_addSlack 30 = .ok (.aload_n 0, 1) := by decide +kernel
theorem dX5_addSlack_31 : decode cX5_addSlack 31 = .ok (.getfield 31, 3) := by decide +kernel
theorem dX5_addSlack_34 : decode cX5_addSlack 34 = .ok (.iload_n 2, 1) := by decide +kernel
theorem dX5_addSlack_35 : decode cX5_addSlack 35 = .ok (.iastore, 1) := by decide +kernel
theorem dX5_addSlack_36 : decode cX5_addSlack 36 = .ok (.aload_n 0, 1) := by decide +kernel
theorem dX5_addSlack_37 : decode cX5_addSlack 37 = .ok (.getfield 25, 3) := by decide +kernel
theorem dX5_addSlack_40 : decode cX5_addSlack 40 = .ok (.aload_n 0, 1) := by decide +kernel
theorem dX5_addSlack_41 : decode cX5_addSlack 41 = .ok (.getfield 31, 3) := by decide +kernel
theorem dX5_addSlack_44 : decode cX5_addSlack 44 = .ok (.iload_n 3, 1) := by decide +kernel
theorem dX5_addSlack_45 : decode cX5_addSlack 45 = .ok (.iastore, 1) := by decide +kernel
theorem dX5_addSlack_46 : decode cX5_addSlack 46 = .ok (.aload_n 0, 1) := by decide +kernel
theorem dX5_addSlack_47 : decode cX5_addSlack 47 = .ok (.dup, 1) := by decide +kernel
theorem dX5_addSlack_48 : decode cX5_addSlack 48 = .ok (.getfield 31, 3) := by decide +kernel
theorem dX5_addSlack_51 : decode cX5_addSlack 51 = .ok (.iconst 1, 1) := by decide +kernel
theorem dX5_addSlack_52 : decode cX5_addSlack 52 = .ok (.iadd, 1) := by decide +kernel
theorem dX5_addSlack_53 : decode cX5_addSlack 53 = .ok (.putfield 31, 3) := by decide +kernel
theorem dX5_addSlack_56 : decode cX5_addSlack 56 = .ok (.return_, 1) := by decide +kernel
theorem dX5_slackIn_0 : decode cX5_slackIn 0 = .ok (.iconst 0, 1) := by decide +kernel
theorem dX5_slackIn_1 : decode cX5_slackIn 1 = .ok (.istore_n 2, 1) := by decide +kernel
theorem dX5_slackIn_2 : decode cX5_slackIn 2 = .ok (.iload_n 2, 1) := by decide +kernel
theorem dX5_slackIn_3 : decode cX5_slackIn 3 = .ok (.aload_n 0, 1) := by decide +kernel
theorem dX5_slackIn_4 : decode cX5_slackIn 4 = .ok (.getfield 31, 3) := by decide +kernel
theorem dX5_slackIn_7 : decode cX5_slackIn 7 = .ok (.if_icmp .ge 42, 3) := by decide +kernel
theorem dX5_slackIn_10 : decode cX5_slackIn 10 = .ok (.iload_n 2, 1) := by decide +kernel
theorem dX5_slackIn_11 : decode cX5_slackIn 11 = .ok (.bipush 6, 2) := by decide +kernel
theorem dX5_slackIn_13 : decode cX5_slackIn 13 = .ok (.if_icmp .ge 36, 3) := by decide +kernel
theorem dX5_slackIn_16 : decode cX5_slackIn 16 = .ok (.iload_n 1, 1) := by decide +kernel
theorem dX5_slackIn_17 : decode cX5_slackIn 17 = .ok (.aload_n 0, 1) := by decide +kernel
theorem dX5_slackIn_18 : decode cX5_slackIn 18 = .ok (.getfield 18, 3) := by decide +kernel
theorem dX5_slackIn_21 : decode cX5_slackIn 21 = .ok (.iload_n 2, 1) := by decide +kernel
theorem dX5_slackIn_22 : decode cX5_slackIn 22 = .ok (.iaload, 1) := by decide +kernel
theorem dX5_slackIn_23 : decode cX5_slackIn 23 = .ok (.if_icmp .lt 20, 3) := by decide +kernel
theorem dX5_slackIn_26 : decode cX5_slackIn 26 = .ok (.iload_n 1, 1) := by decide +kernel
theorem dX5_slackIn_27 : decode cX5_slackIn 27 = .ok (.aload_n 0, 1) := by decide +kernel
theorem dX5_slackIn_28 : decode cX5_slackIn 28 = .ok (.getfield 22, 3) := by decide +kernel
theorem dX5_slackIn_31 : decode cX5_slackIn 31 = .ok (.iload_n 2, 1) := by decide +kernel
theorem dX5_slackIn_32 : decode cX5_slackIn 32 = .ok (.iaload, 1) := by decide +kernel
theorem dX5_slackIn_33 : decode cX5_slackIn 33 = .ok (.if_icmp .gt 10, 3) := by decide +kernel
theorem dX5_slackIn_36 : decode cX5_slackIn 36 = .ok (.aload_n 0, 1) := by decide +kernel
theorem dX5_slackIn_37 : decode cX5_slackIn 37 = .ok (.getfield 25, 3) := by decide +kernel
theorem dX5_slackIn_40 : decode cX5_slackIn 40 = .ok (.iload_n 2, 1) := by decide +kernel
theorem dX5_slackIn_41 : decode cX5_slackIn 41 = .ok (.iaload, 1) := by decide +kernel
theorem dX5_slackIn_42 : decode cX5_slackIn 42 = .ok (.ireturn, 1) := by decide +kernel
theorem dX5_slackIn_43 : decode cX5_slackIn 43 = .ok (.iinc 2 1, 3) := by decide +kernel
theorem dX5_slackIn_46 : decode cX5_slackIn 46 = .ok (.goto (-44), 3) := by decide +kernel
theorem dX5_slackIn_49 : decode cX5_slackIn 49 = .ok (.iconst 0, 1) := by decide +kernel
theorem dX5_slackIn_50 : decode cX5_slackIn 50 = .ok (.ireturn, 1) := by decide +kernel
theorem dX5_widest_0 : decode cX5_widest 0 = .ok (.lload_n 1, 1) := by decide +kernel
theorem dX5_widest_1 : decode cX5_widest 1 = .ok (.lstore_n 3, 1) := by decide +kernel
theorem dX5_widest_2 : decode cX5_widest 2 = .ok (.iconst 0, 1) := by decide +kernel
theorem dX5_widest_3 : decode cX5_widest 3 = .ok (.istore 5, 2) := by decide +kernel
theorem dX5_widest_5 : decode cX5_widest 5 = .ok (.iload 5, 2) := by decide +kernel
theorem dX5_widest_7 : decode cX5_widest 7 = .ok (.aload_n 0, 1) := by decide +kernel
theorem dX5_widest_8 : decode cX5_widest 8 = .ok (.getfield 35, 3) := by decide +kernel
theorem dX5_widest_11 : decode cX5_widest 11 = .ok (.if_icmp .ge 24, 3) := by decide +kernel
theorem dX5_widest_14 : decode cX5_widest 14 = .ok (.lload_n 3, 1) := by decide +kernel
theorem dX5_widest_15 : decode cX5_widest 15 = .ok (.lconst 0, 1) := by decide +kernel
theorem dX5_widest_16 : decode cX5_widest 16 = .ok (.lcmp, 1) := by decide +kernel
theorem dX5_widest_17 : decode cX5_widest 17 = .ok (.ifCond .eq 18, 3) := by decide +kernel
theorem dX5_widest_20 : decode cX5_widest 20 = .ok (.lload_n 3, 1) := by decide +kernel
theorem dX5_widest_21 : decode cX5_widest 21 = .ok (.aload_n 0, 1) := by decide +kernel
theorem dX5_widest_22 : decode cX5_widest 22 = .ok (.lload_n 3, 1) := by decide +kernel
theorem dX5_widest_23 : decode cX5_widest 23 = .ok (.iconst 1, 1) := by decide +kernel
theorem dX5_widest_24 : decode cX5_widest 24 = .ok (.invokevirtual 76, 3) := by decide +kernel
theorem dX5_widest_27 : decode cX5_widest 27 = .ok (.land, 1) := by decide +kernel
theorem dX5_widest_28 : decode cX5_widest 28 = .ok (.lstore_n 3, 1) := by decide +kernel
theorem dX5_widest_29 : decode cX5_widest 29 = .ok (.iinc 5 1, 3) := by decide +kernel
theorem dX5_widest_32 : decode cX5_widest 32 = .ok (.goto (-27), 3) := by decide +kernel
theorem dX5_widest_35 : decode cX5_widest 35 = .ok (.iload 5, 2) := by decide +kernel
theorem dX5_widest_37 : decode cX5_widest 37 = .ok (.ireturn, 1) := by decide +kernel
theorem dX5_stretches_0 : decode cX5_stretches 0 = .ok (.lload_n 1, 1) := by decide +kernel
theorem dX5_stretches_1 : decode cX5_stretches 1 = .ok (.aload_n 0, 1) := by decide +kernel
theorem dX5_stretches_2 : decode cX5_stretches 2 = .ok (.invokevirtual 80, 3) := by decide +kernel
theorem dX5_stretches_5 : decode cX5_stretches 5 = .ok (.lcmp, 1) := by decide +kernel
theorem dX5_stretches_6 : decode cX5_stretches 6 = .ok (.ifCond .ne 5, 3) := by decide +kernel
theorem dX5_stretches_9 : decode cX5_stretches 9 = .ok (.iconst 1, 1) := by decide +kernel
theorem dX5_stretches_10 : decode cX5_stretches 10 = .ok (.ireturn, 1) := by decide +kernel
theorem dX5_stretches_11 : decode cX5_stretches 11 = .ok (.lload_n 1, 1) := by decide +kernel
theorem dX5_stretches_12 : decode cX5_stretches 12 = .ok (.aload_n 0, 1) := by decide +kernel
theorem dX5_stretches_13 : decode cX5_stretches 13 = .ok (.lload_n 1, 1) := by decide +kernel
theorem dX5_stretches_14 : decode cX5_stretches 14 = .ok (.iconst 1, 1) := by decide +kernel
theorem dX5_stretches_15 : decode cX5_stretches 15 = .ok (.invokevirtual 76, 3) := by decide +kernel
theorem dX5_stretches_18 : decode cX5_stretches 18 = .ok (.ldc2_w 84, 3) := by decide +kernel
theorem dX5_stretches_21 : decode cX5_stretches 21 = .ok (.lxor, 1) := by decide +kernel
theorem dX5_stretches_22 : decode cX5_stretches 22 = .ok (.land, 1) := by decide +kernel
theorem dX5_stretches_23 : decode cX5_stretches 23 = .ok (.invokestatic 86, 3) := by decide +kernel
theorem dX5_stretches_26 : decode cX5_stretches 26 = .ok (.ireturn, 1) := by decide +kernel
theorem dX7_init_0 : decode cX7_init 0 = .ok (.aload_n 0, 1) := by decide +kernel
theorem dX7_init_1 : decode cX7_init 1 = .ok (.invokespecial 3, 3) := by decide +kernel
theorem dX7_init_4 : decode cX7_init 4 = .ok (.aload_n 0, 1) := by decide +kernel
theorem dX7_init_5 : decode cX7_init 5 = .ok (.new 9, 3) := by decide +kernel
theorem dX7_init_8 : decode cX7_init 8 = .ok (.dup, 1) := by decide +kernel
theorem dX7_init_9 : decode cX7_init 9 = .ok (.invokespecial 11, 3) := by decide +kernel
theorem dX7_init_12 : decode cX7_init 12 = .ok (.putfield 12, 3) := by decide +kernel
theorem dX7_init_15 : decode cX7_init 15 = .ok (.aload_n 0, 1) := by decide +kernel
theorem dX7_init_16 : decode cX7_init 16 = .ok (.new 16, 3) := by decide +kernel
theorem dX7_init_19 : decode cX7_init 19 = .ok (.dup, 1) := by decide +kernel
theorem dX7_init_20 : decode cX7_init 20 = .ok (.invokespecial 18, 3) := by decide +kernel
theorem dX7_init_23 : decode cX7_init 23 = .ok (.putfield 19, 3) := by decide +kernel
theorem dX7_init_26 : decode cX7_init 26 = .ok (.aload_n 0, 1) := by decide +kernel
theorem dX7_init_27 : decode cX7_init 27 = .ok (.new 16, 3) := by decide +kernel
theorem dX7_init_30 : decode cX7_init 30 = .ok (.dup, 1) := by decide +kernel
theorem dX7_init_31 : decode cX7_init 31 = .ok (.invokespecial 18, 3) := by decide +kernel
theorem dX7_init_34 : decode cX7_init 34 = .ok (.putfield 23, 3) := by decide +kernel
theorem dX7_init_37 : decode cX7_init 37 = .ok (.aload_n 0, 1) := by decide +kernel
theorem dX7_init_38 : decode cX7_init 38 = .ok (.new 26, 3) := by decide +kernel
theorem dX7_init_41 : decode cX7_init 41 = .ok (.dup, 1) := by decide +kernel
theorem dX7_init_42 : decode cX7_init 42 = .ok (.aload_n 0, 1) := by decide +kernel
theorem dX7_init_43 : decode cX7_init 43 = .ok (.getfield 12, 3) := by decide +kernel
theorem dX7_init_46 : decode cX7_init 46 = .ok (.aload_n 0, 1) := by decide +kernel
theorem dX7_init_47 : decode cX7_init 47 = .ok (.getfield 23, 3) := by decide +kernel
theorem dX7_init_50 : decode cX7_init 50 = .ok (.invokespecial 28, 3) := by decide +kernel
theorem dX7_init_53 : decode cX7_init 53 = .ok (.putfield 31, 3) := by decide +kernel
theorem dX7_init_56 : decode cX7_init 56 = .ok (.aload_n 0, 1) := by decide +kernel
theorem dX7_init_57 : decode cX7_init 57 = .ok (.new 35, 3) := by decide +kernel
theorem dX7_init_60 : decode cX7_init 60 = .ok (.dup, 1) := by decide +kernel
theorem dX7_init_61 : decode cX7_init 61 = .ok (.invokespecial 37, 3) := by decide +kernel
theorem dX7_init_64 : decode cX7_init 64 = .ok (.putfield 38, 3) := by decide +kernel
theorem dX7_init_67 : decode cX7_init 67 = .ok (.aload_n 0, 1) := by decide +kernel
theorem dX7_init_68 : decode cX7_init 68 = .ok (.new 35, 3) := by decide +kernel
theorem dX7_init_71 : decode cX7_init 71 = .ok (.dup, 1) := by decide +kernel
theorem dX7_init_72 : decode cX7_init 72 = .ok (.invokespecial 37, 3) := by decide +kernel
theorem dX7_init_75 : decode cX7_init 75 = .ok (.putfield 42, 3) := by decide +kernel
theorem dX7_init_78 : decode cX7_init 78 = .ok (.aload_n 0, 1) := by decide +kernel
theorem dX7_init_79 : decode cX7_init 79 = .ok (.iconst 3, 1) := by decide +kernel
theorem dX7_init_80 : decode cX7_init 80 = .ok (.anewarray 35, 3) := by decide +kernel
theorem dX7_init_83 : decode cX7_init 83 = .ok (.putfield 45, 3) := by decide +kernel
theorem dX7_init_86 : decode cX7_init 86 = .ok (.aload_n 0, 1) := by decide +kernel
theorem dX7_init_87 : decode cX7_init 87 = .ok (.iconst 3, 1) := by decide +kernel
theorem dX7_init_88 : decode cX7_init 88 = .ok (.newarray .boolean, 2) := by decide +kernel
theorem dX7_init_90 : decode cX7_init 90 = .ok (.putfield 49, 3) := by decide +kernel
theorem dX7_init_93 : decode cX7_init 93 = .ok (.aload_n 0, 1) := by decide +kernel
theorem dX7_init_94 : decode cX7_init 94 = .ok (.new 53, 3) := by decide +kernel
theorem dX7_init_97 : decode cX7_init 97 = .ok (.dup, 1) := by decide +kernel
theorem dX7_init_98 : decode cX7_init 98 = .ok (.invokespecial 55, 3) := by decide +kernel
theorem dX7_init_101 : decode cX7_init 101 = .ok (.putfield 56, 3) := by decide +kernel
theorem dX7_init_104 : decode cX7_init 104 = .ok (.aload_n 0, 1) := by decide +kernel
theorem dX7_init_105 : decode cX7_init 105 = .ok (.new 60, 3) := by decide +kernel
theorem dX7_init_108 : decode cX7_init 108 = .ok (.dup, 1) := by decide +kernel
theorem dX7_init_109 : decode cX7_init 109 = .ok (.aload_n 0, 1) := by decide +kernel
theorem dX7_init_110 : decode cX7_init 110 = .ok (.getfield 19, 3) := by decide +kernel
theorem dX7_init_113 : decode cX7_init 113 = .ok (.invokespecial 62, 3) := by decide +kernel
theorem dX7_init_116 : decode cX7_init 116 = .ok (.putfield 65, 3) := by decide +kernel
theorem dX7_init_119 : decode cX7_init 119 = .ok (.aload_n 0, 1) := by decide +kernel
theorem dX7_init_120 : decode cX7_init 120 = .ok (.new 60, 3) := by decide +kernel
theorem dX7_init_123 : decode cX7_init 123 = .ok (.dup, 1) := by decide +kernel
theorem dX7_init_124 : decode cX7_init 124 = .ok (.aload_n 0, 1) := by decide +kernel
theorem dX7_init_125 : decode cX7_init 125 = .ok (.getfield 19, 3) := by decide +kernel
theorem dX7_init_128 : decode cX7_init 128 = .ok (.invokespecial 62, 3) := by decide +kernel
theorem dX7_init_131 : decode cX7_init 131 = .ok (.putfield 69, 3) := by decide +kernel
theorem dX7_init_134 : decode cX7_init 134 = .ok (.aload_n 0, 1) := by decide +kernel
theorem dX7_init_135 : decode cX7_init 135 = .ok (.bipush 16, 2) := by decide +kernel
theorem dX7_init_137 : decode cX7_init 137 = .ok (.newarray .long, 2) := by decide +kernel
theorem dX7_init_139 : decode cX7_init 139 = .ok (.putfield 72, 3) := by decide +kernel
theorem dX7_init_142 : decode cX7_init 142 = .ok (.iconst 0, 1) := by decide +kernel
theorem dX7_init_143 : decode cX7_init 143 = .ok (.istore_n 1, 1) := by decide +kernel
theorem dX7_init_144 : decode cX7_init 144 = .ok (.iload_n 1, 1) := by decide +kernel
theorem dX7_init_145 : decode cX7_init 145 = .ok (.aload_n 0, 1) := by decide +kernel
theorem dX7_init_146 : decode cX7_init 146 = .ok (.getfield 45, 3) := by decide +kernel
theorem dX7_init_149 : decode cX7_init 149 = .ok (.arraylength, 1) := by decide +kernel
theorem dX7_init_150 : decode cX7_init 150 = .ok (.if_icmp .ge 22, 3) := by decide +kernel
theorem dX7_init_153 : decode cX7_init 153 = .ok (.aload_n 0, 1) := by decide +kernel
theorem dX7_init_154 : decode cX7_init 154 = .ok (.getfield 45, 3) := by decide +kernel
theorem dX7_init_157 : decode cX7_init 157 = .ok (.iload_n 1, 1) := by decide +kernel
theorem dX7_init_158 : decode cX7_init 158 = .ok (.new 35, 3) := by decide +kernel
theorem dX7_init_161 : decode cX7_init 161 = .ok (.dup, 1) := by decide +kernel
theorem dX7_init_162 : decode cX7_init 162 = .ok (.invokespecial 37, 3) := by decide +kernel
theorem dX7_init_165 : decode cX7_init 165 = .ok (.aastore, 1) := by decide +kernel
theorem dX7_init_166 : decode cX7_init 166 = .ok (.iinc 1 1, 3) := by decide +kernel
theorem dX7_init_169 : decode cX7_init 169 = .ok (.goto (-25), 3) := by decide +kernel
theorem dX7_init_172 : decode cX7_init 172 = .ok (.return_, 1) := by decide +kernel
theorem dX7_feed_0 : decode cX7_feed 0 = .ok (.aload_n 0, 1) := by decide +kernel
theorem dX7_feed_1 : decode cX7_feed 1 = .ok (.getfield 12, 3) := by decide +kernel
theorem dX7_feed_4 : decode cX7_feed 4 = .ok (.getfield 76, 3) := by decide +kernel
theorem dX7_feed_7 : decode cX7_feed 7 = .ok (.sipush 780, 3) := by decide +kernel
theorem dX7_feed_10 : decode cX7_feed 10 = .ok (.if_icmp .le 5, 3) := by decide +kernel
theorem dX7_feed_13 : decode cX7_feed 13 = .ok (.iconst (-1), 1) := by decide +kernel
theorem dX7_feed_14 : decode cX7_feed 14 = .ok (.ireturn, 1) := by decide +kernel
theorem dX7_feed_15 : decode cX7_feed 15 = .ok (.aload_n 0, 1) := by decide +kernel
theorem dX7_feed_16 : decode cX7_feed 16 = .ok (.getfield 12, 3) := by decide +kernel
theorem dX7_feed_19 : decode cX7_feed 19 = .ok (.iload_n 1, 1) := by decide +kernel
theorem dX7_feed_20 : decode cX7_feed 20 = .ok (.invokevirtual 80, 3) := by decide +kernel
theorem dX7_feed_23 : decode cX7_feed 23 = .ok (.aload_n 0, 1) := by decide +kernel
theorem dX7_feed_24 : decode cX7_feed 24 = .ok (.getfield 12, 3) := by decide +kernel
theorem dX7_feed_27 : decode cX7_feed 27 = .ok (.iload_n 2, 1) := by decide +kernel
theorem dX7_feed_28 : decode cX7_feed 28 = .ok (.invokevirtual 80, 3) := by decide +kernel
theorem dX7_feed_31 : decode cX7_feed 31 = .ok (.aload_n 0, 1) := by decide +kernel
theorem dX7_feed_32 : decode cX7_feed 32 = .ok (.getfield 12, 3) := by decide +kernel
theorem dX7_feed_35 : decode cX7_feed 35 = .ok (.iload_n 3, 1) := by decide +kernel
theorem dX7_feed_36 : decode cX7_feed 36 = .ok (.invokevirtual 80, 3) := by decide +kernel
theorem dX7_feed_39 : decode cX7_feed 39 = .ok (.aload_n 0, 1) := by decide +kernel
theorem dX7_feed_40 : decode cX7_feed 40 = .ok (.getfield 12, 3) := by decide +kernel
theorem dX7_feed_43 : decode cX7_feed 43 = .ok (.iload 4, 2) := by decide +kernel
theorem dX7_feed_45 : decode cX7_feed 45 = .ok (.invokevirtual 80, 3) := by decide +kernel
theorem dX7_feed_48 : decode cX7_feed 48 = .ok (.aload_n 0, 1) := by decide +kernel
theorem dX7_feed_49 : decode cX7_feed 49 = .ok (.getfield 12, 3) := by decide +kernel
theorem dX7_feed_52 : decode cX7_feed 52 = .ok (.iload 5, 2) := by decide +kernel
theorem dX7_feed_54 : decode cX7_feed 54 = .ok (.invokevirtual 80, 3) := by decide +kernel
theorem dX7_feed_57 : decode cX7_feed 57 = .ok (.aload_n 0, 1) := by decide +kernel
theorem dX7_feed_58 : decode cX7_feed 58 = .ok (.getfield 12, 3) := by decide +kernel
theorem dX7_feed_61 : decode cX7_feed 61 = .ok (.getfield 76, 3) := by decide +kernel
theorem dX7_feed_64 : decode cX7_feed 64 = .ok (.ireturn, 1) := by decide +kernel
theorem dX7_end_0 : decode cX7_end 0 = .ok (.iload_n 1, 1) := by decide +kernel
theorem dX7_end_1 : decode cX7_end 1 = .ok (.ifCond .lt 14, 3) := by decide +kernel
theorem dX7_end_4 : decode cX7_end 4 = .ok (.iload_n 1, 1) := by decide +kernel
theorem dX7_end_5 : decode cX7_end 5 = .ok (.aload_n 0, 1) := by decide +kernel
theorem dX7_end_6 : decode cX7_end 6 = .ok (.getfield 12, 3) := by decide +kernel
theorem dX7_end_9 : decode cX7_end 9 = .ok (.getfield 76, 3) := by decide +kernel
theorem dX7_end_12 : decode cX7_end 12 = .ok (.if_icmp .le 5, 3) := by decide +kernel
theorem dX7_end_15 : decode cX7_end 15 = .ok (.iconst (-1), 1) := by decide +kernel
theorem dX7_end_16 : decode cX7_end 16 = .ok (.ireturn, 1) := by decide +kernel
theorem dX7_end_17 : decode cX7_end 17 = .ok (.aload_n 0, 1) := by decide +kernel
theorem dX7_end_18 : decode cX7_end 18 = .ok (.getfield 12, 3) := by decide +kernel
theorem dX7_end_21 : decode cX7_end 21 = .ok (.iload_n 1, 1) := by decide +kernel
theorem dX7_end_22 : decode cX7_end 22 = .ok (.putfield 76, 3) := by decide +kernel
theorem dX7_end_25 : decode cX7_end 25 = .ok (.iload_n 1, 1) := by decide +kernel
theorem dX7_end_26 : decode cX7_end 26 = .ok (.ireturn, 1) := by decide +kernel
theorem dX7_ring_0 : decode cX7_ring 0 = .ok (.aload_n 0, 1) := by decide +kernel
theorem dX7_ring_1 : decode cX7_ring 1 = .ok (.getfield 31, 3) := by decide +kernel
theorem dX7_ring_4 : decode cX7_ring 4 = .ok (.aload_n 0, 1) := by decide +kernel
theorem dX7_ring_5 : decode cX7_ring 5 = .ok (.getfield 23, 3) := by decide +kernel
theorem dX7_ring_8 : decode cX7_ring 8 = .ok (.invokevirtual 84, 3) := by decide +kernel
theorem dX7_ring_11 : decode cX7_ring 11 = .ok (.istore_n 1, 1) := by decide +kernel
theorem dX7_ring_12 : decode cX7_ring 12 = .ok (.aload_n 0, 1) := by decide +kernel
theorem dX7_ring_13 : decode cX7_ring 13 = .ok (.getfield 12, 3) := by decide +kernel
theorem dX7_ring_16 : decode cX7_ring 16 = .ok (.iconst 0, 1) := by decide +kernel
theorem dX7_ring_17 : decode cX7_ring 17 = .ok (.putfield 76, 3) := by decide +kernel
theorem dX7_ring_20 : decode cX7_ring 20 = .ok (.iload_n 1, 1) := by decide +kernel
theorem dX7_ring_21 : decode cX7_ring 21 = .ok (.ifCond .ne 5, 3) := by decide +kernel
theorem dX7_ring_24 : decode cX7_ring 24 = .ok (.iconst (-1), 1) := by decide +kernel
theorem dX7_ring_25 : decode cX7_ring 25 = .ok (.ireturn, 1) := by decide +kernel
theorem dX7_ring_26 : decode cX7_ring 26 = .ok (.aload_n 0, 1) := by decide +kernel
theorem dX7_ring_27 : decode cX7_ring 27 = .ok (.getfield 19, 3) := by decide +kernel
theorem dX7_ring_30 : decode cX7_ring 30 = .ok (.astore_n 2, 1) := by decide +kernel
theorem dX7_ring_31 : decode cX7_ring 31 = .ok (.aload_n 0, 1) := by decide +kernel
theorem dX7_ring_32 : decode cX7_ring 32 = .ok (.aload_n 0, 1) := by decide +kernel
theorem dX7_ring_33 : decode cX7_ring 33 = .ok (.getfield 23, 3) := by decide +kernel
theorem dX7_ring_36 : decode cX7_ring 36 = .ok (.putfield 19, 3) := by decide +kernel
theorem dX7_ring_39 : decode cX7_ring 39 = .ok (.aload_n 0, 1) := by decide +kernel
theorem dX7_ring_40 : decode cX7_ring 40 = .ok (.aload_n 2, 1) := by decide +kernel
theorem dX7_ring_41 : decode cX7_ring 41 = .ok (.putfield 23, 3) := by decide +kernel
theorem dX7_ring_44 : decode cX7_ring 44 = .ok (.aload_n 0, 1) := by decide +kernel
theorem dX7_ring_45 : decode cX7_ring 45 = .ok (.getfield 38, 3) := by decide +kernel
theorem dX7_ring_48 : decode cX7_ring 48 = .ok (.invokevirtual 88, 3) := by decide +kernel
theorem dX7_ring_51 : decode cX7_ring 51 = .ok (.aload_n 0, 1) := by decide +kernel
theorem dX7_ring_52 : decode cX7_ring 52 = .ok (.getfield 56, 3) := by decide +kernel
theorem dX7_ring_55 : decode cX7_ring 55 = .ok (.invokevirtual 91, 3) := by decide +kernel
theorem dX7_ring_58 : decode cX7_ring 58 = .ok (.iconst 0, 1) := by decide +kernel
theorem dX7_ring_59 : decode cX7_ring 59 = .ok (.istore_n 3, 1) := by decide +kernel
theorem dX7_ring_60 : decode cX7_ring 60 = .ok (.iload_n 3, 1) := by decide +kernel
theorem dX7_ring_61 : decode cX7_ring 61 = .ok (.aload_n 0, 1) := by decide +kernel
theorem dX7_ring_62 : decode cX7_ring 62 = .ok (.getfield 49, 3) := by decide +kernel
theorem dX7_ring_65 : decode cX7_ring 65 = .ok (.arraylength, 1) := by decide +kernel
theorem dX7_ring_66 : decode cX7_ring 66 = .ok (.if_icmp .ge 16, 3) := by decide +kernel
theorem dX7_ring_69 : decode cX7_ring 69 = .ok (.aload_n 0, 1) := by decide +kernel
theorem dX7_ring_70 : decode cX7_ring 70 = .ok (.getfield 49, 3) := by decide +kernel
theorem dX7_ring_73 : decode cX7_ring 73 = .ok (.iload_n 3, 1) := by decide +kernel
theorem dX7_ring_74 : decode cX7_ring 74 = .ok (.iconst 0, 1) := by decide +kernel
theorem dX7_ring_75 : decode cX7_ring 75 = .ok (.bastore, 1) := by decide +kernel
theorem dX7_ring_76 : decode cX7_ring 76 = .ok (.iinc 3 1, 3) := by decide +kernel
theorem dX7_ring_79 : decode cX7_ring 79 = .ok (.goto (-19), 3) := by decide +kernel
theorem dX7_ring_82 : decode cX7_ring 82 = .ok (.aload_n 0, 1) := by decide +kernel
theorem dX7_ring_83 : decode cX7_ring 83 = .ok (.getfield 19, 3) := by decide +kernel
theorem dX7_ring_86 : decode cX7_ring 86 = .ok (.getfield 94, 3) := by decide +kernel
theorem dX7_ring_89 : decode cX7_ring 89 = .ok (.ireturn, 1) := by decide +kernel
theorem dX7_fault_0 : decode cX7_fault 0 = .ok (.iload_n 1, 1) := by decide +kernel
theorem dX7_fault_1 : decode cX7_fault 1 = .ok (.ifCond .ne 11, 3) := by decide +kernel
theorem dX7_fault_4 : decode cX7_fault 4 = .ok (.aload_n 0, 1) := by decide +kernel
theorem dX7_fault_5 : decode cX7_fault 5 = .ok (.getfield 31, 3) := by decide +kernel
theorem dX7_fault_8 : decode cX7_fault 8 = .ok (.getfield 97, 3) := by decide +kernel
theorem dX7_fault_11 : decode cX7_fault 11 = .ok (.ireturn, 1) := by decide +kernel
theorem dX7_fault_12 : decode cX7_fault 12 = .ok (.iload_n 1, 1) := by decide +kernel
theorem dX7_fault_13 : decode cX7_fault 13 = .ok (.iconst 1, 1) := by decide +kernel
theorem dX7_fault_14 : decode cX7_fault 14 = .ok (.if_icmp .ne 13, 3) := by decide +kernel
theorem dX7_fault_17 : decode cX7_fault 17 = .ok (.aload_n 0, 1) := by decide +kernel
theorem dX7_fault_18 : decode cX7_fault 18 = .ok (.getfield 31, 3) := by decide +kernel
theorem dX7_fault_21 : decode cX7_fault 21 = .ok (.getfield 100, 3) := by decide +kernel
theorem dX7_fault_24 : decode cX7_fault 24 = .ok (.goto 4, 3) := by decide +kernel
theorem dX7_fault_27 : decode cX7_fault 27 = .ok (.iconst (-1), 1) := by decide +kernel
theorem dX7_fault_28 : decode cX7_fault 28 = .ok (.ireturn, 1) := by decide +kernel
theorem dX7_tryNow_0 : decode cX7_tryNow 0 = .ok (.aload_n 0, 1) := by decide +kernel
theorem dX7_tryNow_1 : decode cX7_tryNow 1 = .ok (.getfield 38, 3) := by decide +kernel
theorem dX7_tryNow_4 : decode cX7_tryNow 4 = .ok (.aload_n 0, 1) := by decide +kernel
theorem dX7_tryNow_5 : decode cX7_tryNow 5 = .ok (.getfield 19, 3) := by decide +kernel
theorem dX7_tryNow_8 : decode cX7_tryNow 8 = .ok (.aload_n 0, 1) := by decide +kernel
theorem dX7_tryNow_9 : decode cX7_tryNow 9 = .ok (.getfield 19, 3) := by decide +kernel
theorem dX7_tryNow_12 : decode cX7_tryNow 12 = .ok (.getfield 103, 3) := by decide +kernel
theorem dX7_tryNow_15 : decode cX7_tryNow 15 = .ok (.invokevirtual 107, 3) := by decide +kernel
theorem dX7_tryNow_18 : decode cX7_tryNow 18 = .ok (.ireturn, 1) := by decide +kernel
theorem dX7_run_0 : decode cX7_run 0 = .ok (.iload_n 1, 1) := by decide +kernel
theorem dX7_run_1 : decode cX7_run 1 = .ok (.ifCond .lt 24, 3) := by decide +kernel
theorem dX7_run_4 : decode cX7_run 4 = .ok (.iload_n 1, 1) := by decide +kernel
theorem dX7_run_5 : decode cX7_run 5 = .ok (.sipush 400, 3) := by decide +kernel
theorem dX7_run_8 : decode cX7_run 8 = .ok (.if_icmp .gt 17, 3) := by decide +kernel
theorem dX7_run_11 : decode cX7_run 11 = .ok (.iload_n 1, 1) := by decide +kernel
theorem dX7_run_12 : decode cX7_run 12 = .ok (.ldc 111, 2) := by decide +kernel
theorem dX7_run_14 : decode cX7_run 14 = .ok (.aload_n 0, 1) := by decide +kernel
theorem dX7_run_15 : decode cX7_run 15 = .ok (.getfield 38, 3) := by decide +kernel
theorem dX7_run_18 : decode cX7_run 18 = .ok (.getfield 112, 3) := by decide +kernel
theorem dX7_run_21 : decode cX7_run 21 = .ok (.isub, 1) := by decide +kernel
theorem dX7_run_22 : decode cX7_run 22 = .ok (.if_icmp .le 5, 3) := by decide +kernel
theorem dX7_run_25 : decode cX7_run 25 = .ok (.iconst (-1), 1) := by decide +kernel
theorem dX7_run_26 : decode cX7_run 26 = .ok (.ireturn, 1) := by decide +kernel
theorem dX7_run_27 : decode cX7_run 27 = .ok (.iconst 0, 1) := by decide +kernel
theorem dX7_run_28 : decode cX7_run 28 = .ok (.istore_n 2, 1) := by decide +kernel
theorem dX7_run_29 : decode cX7_run 29 = .ok (.iconst 0, 1) := by decide +kernel
theorem dX7_run_30 : decode cX7_run 30 = .ok (.istore_n 3, 1) := by decide +kernel
theorem dX7_run_31 : decode cX7_run 31 = .ok (.iload_n 3, 1) := by decide +kernel
theorem dX7_run_32 : decode cX7_run 32 = .ok (.iload_n 1, 1) := by decide +kernel
theorem dX7_run_33 : decode cX7_run 33 = .ok (.if_icmp .ge 26, 3) := by decide +kernel
theorem dX7_run_36 : decode cX7_run 36 = .ok (.iload_n 2, 1) := by decide +kernel
theorem dX7_run_37 : decode cX7_run 37 = .ok (.aload_n 0, 1) := by decide +kernel
theorem dX7_run_38 : decode cX7_run 38 = .ok (.getfield 38, 3) := by decide +kernel
theorem dX7_run_41 : decode cX7_run 41 = .ok (.aload_n 0, 1) := by decide +kernel
theorem dX7_run_42 : decode cX7_run 42 = .ok (.getfield 19, 3) := by decide +kernel
theorem dX7_run_45 : decode cX7_run 45 = .ok (.invokevirtual 115, 3) := by decide +kernel
theorem dX7_run_48 : decode cX7_run 48 = .ok (.invokestatic 119, 3) := by decide +kernel
theorem dX7_run_51 : decode cX7_run 51 = .ok (.iadd, 1) := by decide +kernel
theorem dX7_run_52 : decode cX7_run 52 = .ok (.istore_n 2, 1) := by decide +kernel
theorem dX7_run_53 : decode cX7_run 53 = .ok (.iinc 3 1, 3) := by decide +kernel
theorem dX7_run_56 : decode cX7_run 56 = .ok (.goto (-25), 3) := by decide +kernel
theorem dX7_run_59 : decode cX7_run 59 = .ok (.iload_n 2, 1) := by decide +kernel
theorem dX7_run_60 : decode cX7_run 60 = .ok (.ireturn, 1) := by decide +kernel
theorem dX7_seat_0 : decode cX7_seat 0 = .ok (.aload_n 0, 1) := by decide +kernel
theorem dX7_seat_1 : decode cX7_seat 1 = .ok (.getfield 19, 3) := by decide +kernel
theorem dX7_seat_4 : decode cX7_seat 4 = .ok (.iload_n 1, 1) := by decide +kernel
theorem dX7_seat_5 : decode cX7_seat 5 = .ok (.invokevirtual 125, 3) := by decide +kernel
theorem dX7_seat_8 : decode cX7_seat 8 = .ok (.ifCond .ne 5, 3) := by decide +kernel
theorem dX7_seat_11 : decode cX7_seat 11 = .ok (.iconst (-1), 1) := by decide +kernel
theorem dX7_seat_12 : decode cX7_seat 12 = .ok (.ireturn, 1) := by decide +kernel
theorem dX7_seat_13 : decode cX7_seat 13 = .ok (.aload_n 0, 1) := by decide +kernel
theorem dX7_seat_14 : decode cX7_seat 14 = .ok (.getfield 19, 3) := by decide +kernel
theorem dX7_seat_17 : decode cX7_seat 17 = .ok (.getfield 129, 3) := by decide +kernel
theorem dX7_seat_20 : decode cX7_seat 20 = .ok (.iload_n 1, 1) := by decide +kernel
theorem dX7_seat_21 : decode cX7_seat 21 = .ok (.invokestatic 132, 3) := by decide +kernel
theorem dX7_seat_24 : decode cX7_seat 24 = .ok (.istore_n 3, 1) := by decide +kernel
theorem dX7_seat_25 : decode cX7_seat 25 = .ok (.iload_n 2, 1) := by decide +kernel
theorem dX7_seat_26 : decode cX7_seat 26 = .ok (.tableswitch 95 0 3 #[30, 48, 57, 80], 30) := by decide +kernel
theorem dX7_seat_56 : decode cX7_seat 56 = .ok (.iload_n 3, 1) := by decide +kernel
theorem dX7_seat_57 : decode cX7_seat 57 = .ok (.ifCond .eq 8, 3) := by decide +kernel
theorem dX7_seat_60 : decode cX7_seat 60 = .ok (.bipush 40, 2) := by decide +kernel
theorem dX7_seat_62 : decode cX7_seat 62 = .ok (.goto 11, 3) := by decide +kernel
theorem dX7_seat_65 : decode cX7_seat 65 = .ok (.aload_n 0, 1) := by decide +kernel
theorem dX7_seat_66 : decode cX7_seat 66 = .ok (.getfield 38, 3) := by decide +kernel
theorem dX7_seat_69 : decode cX7_seat 69 = .ok (.iload_n 1, 1) := by decide +kernel
theorem dX7_seat_70 : decode cX7_seat 70 = .ok (.invokevirtual 136, 3) := by decide +kernel
theorem dX7_seat_73 : decode cX7_seat 73 = .ok (.ireturn, 1) := by decide +kernel
theorem dX7_seat_74 : decode cX7_seat 74 = .ok (.aload_n 0, 1) := by decide +kernel
theorem dX7_seat_75 : decode cX7_seat 75 = .ok (.getfield 38, 3) := by decide +kernel
theorem dX7_seat_78 : decode cX7_seat 78 = .ok (.iload_n 1, 1) := by decide +kernel
theorem dX7_seat_79 : decode cX7_seat 79 = .ok (.invokevirtual 140, 3) := by decide +kernel
theorem dX7_seat_82 : decode cX7_seat 82 = .ok (.ireturn, 1) := by decide +kernel
theorem dX7_seat_83 : decode cX7_seat 83 = .ok (.iload_n 3, 1) := by decide +kernel
theorem dX7_seat_84 : decode cX7_seat 84 = .ok (.ifCond .eq 7, 3) := by decide +kernel
theorem dX7_seat_87 : decode cX7_seat 87 = .ok (.iconst 2, 1) := by decide +kernel
theorem dX7_seat_88 : decode cX7_seat 88 = .ok (.goto 17, 3) := by decide +kernel
theorem dX7_seat_91 : decode cX7_seat 91 = .ok (.aload_n 0, 1) := by decide +kernel
theorem dX7_seat_92 : decode cX7_seat 92 = .ok (.getfield 19, 3) := by decide +kernel
theorem dX7_seat_95 : decode cX7_seat 95 = .ok (.getfield 143, 3) := by decide +kernel
theorem dX7_seat_98 : decode cX7_seat 98 = .ok (.iload_n 1, 1) := by decide +kernel
theorem dX7_seat_99 : decode cX7_seat 99 = .ok (.invokestatic 132, 3) := by decide +kernel
theorem dX7_seat_102 : decode cX7_seat 102 = .ok (.invokestatic 146, 3) := by decide +kernel
theorem dX7_seat_105 : decode cX7_seat 105 = .ok (.ireturn, 1) := by decide +kernel
theorem dX7_seat_106 : decode cX7_seat 106 = .ok (.aload_n 0, 1) := by decide +kernel
theorem dX7_seat_107 : decode cX7_seat 107 = .ok (.getfield 19, 3) := by decide +kernel
theorem dX7_seat_110 : decode cX7_seat 110 = .ok (.getfield 103, 3) := by decide +kernel
theorem dX7_seat_113 : decode cX7_seat 113 = .ok (.iload_n 1, 1) := by decide +kernel
theorem dX7_seat_114 : decode cX7_seat 114 = .ok (.invokestatic 132, 3) := by decide +kernel
theorem dX7_seat_117 : decode cX7_seat 117 = .ok (.invokestatic 146, 3) := by decide +kernel
theorem dX7_seat_120 : decode cX7_seat 120 = .ok (.ireturn, 1) := by decide +kernel
theorem dX7_seat_121 : decode cX7_seat 121 = .ok (.iconst (-1), 1) := by decide +kernel
theorem dX7_seat_122 : decode cX7_seat 122 = .ok (.ireturn, 1) := by decide +kernel
theorem dX7_would_0 : decode cX7_would 0 = .ok (.aload_n 0, 1) := by decide +kernel
theorem dX7_would_1 : decode cX7_would 1 = .ok (.getfield 38, 3) := by decide +kernel
theorem dX7_would_4 : decode cX7_would 4 = .ok (.aload_n 0, 1) := by decide +kernel
theorem dX7_would_5 : decode cX7_would 5 = .ok (.getfield 19, 3) := by decide +kernel
theorem dX7_would_8 : decode cX7_would 8 = .ok (.aload_n 0, 1) := by decide +kernel
theorem dX7_would_9 : decode cX7_would 9 = .ok (.getfield 19, 3) := by decide +kernel
theorem dX7_would_12 : decode cX7_would 12 = .ok (.getfield 143, 3) := by decide +kernel
theorem dX7_would_15 : decode cX7_would 15 = .ok (.invokevirtual 150, 3) := by decide +kernel
theorem dX7_would_18 : decode cX7_would 18 = .ok (.invokestatic 119, 3) := by decide +kernel
theorem dX7_would_21 : decode cX7_would 21 = .ok (.ireturn, 1) := by decide +kernel
theorem dX7_way_0 : decode cX7_way 0 = .ok (.aload_n 0, 1) := by decide +kernel
theorem dX7_way_1 : decode cX7_way 1 = .ok (.getfield 38, 3) := by decide +kernel
theorem dX7_way_4 : decode cX7_way 4 = .ok (.iload_n 1, 1) := by decide +kernel
theorem dX7_way_5 : decode cX7_way 5 = .ok (.invokevirtual 154, 3) := by decide +kernel
theorem dX7_way_8 : decode cX7_way 8 = .ok (.ireturn, 1) := by decide +kernel
theorem dX7_wide_0 : decode cX7_wide 0 = .ok (.aload_n 0, 1) := by decide +kernel
theorem dX7_wide_1 : decode cX7_wide 1 = .ok (.getfield 19, 3) := by decide +kernel
theorem dX7_wide_4 : decode cX7_wide 4 = .ok (.aload_n 0, 1) := by decide +kernel
theorem dX7_wide_5 : decode cX7_wide 5 = .ok (.getfield 38, 3) := by decide +kernel
theorem dX7_wide_8 : decode cX7_wide 8 = .ok (.getfield 157, 3) := by decide +kernel
theorem dX7_wide_11 : decode cX7_wide 11 = .ok (.invokevirtual 160, 3) := by decide +kernel
theorem dX7_wide_14 : decode cX7_wide 14 = .ok (.ireturn, 1) := by decide +kernel
theorem dX7_waves_0 : decode cX7_waves 0 = .ok (.aload_n 0, 1) := by decide +kernel
theorem dX7_waves_1 : decode cX7_waves 1 = .ok (.getfield 19, 3) := by decide +kernel
theorem dX7_waves_4 : decode cX7_waves 4 = .ok (.aload_n 0, 1) := by decide +kernel
theorem dX7_waves_5 : decode cX7_waves 5 = .ok (.getfield 38, 3) := by decide +kernel
theorem dX7_waves_8 : decode cX7_waves 8 = .ok (.getfield 157, 3) := by decide +kernel
theorem dX7_waves_11 : decode cX7_waves 11 = .ok (.invokevirtual 163, 3) := by decide +kernel
theorem dX7_waves_14 : decode cX7_waves 14 = .ok (.ireturn, 1) := by decide +kernel
theorem dX7_till_0 : decode cX7_till 0 = .ok (.aload_n 0, 1) := by decide +kernel
theorem dX7_till_1 : decode cX7_till 1 = .ok (.getfield 19, 3) := by decide +kernel
theorem dX7_till_4 : decode cX7_till 4 = .ok (.iload_n 1, 1) := by decide +kernel
theorem dX7_till_5 : decode cX7_till 5 = .ok (.invokevirtual 125, 3) := by decide +kernel
theorem dX7_till_8 : decode cX7_till 8 = .ok (.ifCond .eq 14, 3) := by decide +kernel
theorem dX7_till_11 : decode cX7_till 11 = .ok (.iload_n 2, 1) := by decide +kernel
theorem dX7_till_12 : decode cX7_till 12 = .ok (.iconst 1, 1) := by decide +kernel
theorem dX7_till_13 : decode cX7_till 13 = .ok (.if_icmp .lt 9, 3) := by decide +kernel
theorem dX7_till_16 : decode cX7_till 16 = .ok (.iload_n 2, 1) := by decide +kernel
theorem dX7_till_17 : decode cX7_till 17 = .ok (.bipush 9, 2) := by decide +kernel
theorem dX7_till_19 : decode cX7_till 19 = .ok (.if_icmp .le 5, 3) := by decide +kernel
theorem dX7_till_22 : decode cX7_till 22 = .ok (.iconst (-1), 1) := by decide +kernel
theorem dX7_till_23 : decode cX7_till 23 = .ok (.ireturn, 1) := by decide +kernel
theorem dX7_till_24 : decode cX7_till 24 = .ok (.aload_n 0, 1) := by decide +kernel
theorem dX7_till_25 : decode cX7_till 25 = .ok (.getfield 42, 3) := by decide +kernel
theorem dX7_till_28 : decode cX7_till 28 = .ok (.aload_n 0, 1) := by decide +kernel
theorem dX7_till_29 : decode cX7_till 29 = .ok (.getfield 38, 3) := by decide +kernel
theorem dX7_till_32 : decode cX7_till 32 = .ok (.invokevirtual 166, 3) := by decide +kernel
theorem dX7_till_35 : decode cX7_till 35 = .ok (.iconst 0, 1) := by decide +kernel
theorem dX7_till_36 : decode cX7_till 36 = .ok (.istore_n 3, 1) := by decide +kernel
theorem dX7_till_37 : decode cX7_till 37 = .ok (.iconst 1, 1) := by decide +kernel
theorem dX7_till_38 : decode cX7_till 38 = .ok (.istore 4, 2) := by decide +kernel
theorem dX7_till_40 : decode cX7_till 40 = .ok (.iload 4, 2) := by decide +kernel
theorem dX7_till_42 : decode cX7_till 42 = .ok (.sipush 400, 3) := by decide +kernel
theorem dX7_till_45 : decode cX7_till 45 = .ok (.if_icmp .gt 45, 3) := by decide +kernel
theorem dX7_till_48 : decode cX7_till 48 = .ok (.aload_n 0, 1) := by decide +kernel
theorem dX7_till_49 : decode cX7_till 49 = .ok (.getfield 42, 3) := by decide +kernel
theorem dX7_till_52 : decode cX7_till 52 = .ok (.aload_n 0, 1) := by decide +kernel
theorem dX7_till_53 : decode cX7_till 53 = .ok (.getfield 19, 3) := by decide +kernel
theorem dX7_till_56 : decode cX7_till 56 = .ok (.aload_n 0, 1) := by decide +kernel
theorem dX7_till_57 : decode cX7_till 57 = .ok (.getfield 19, 3) := by decide +kernel
theorem dX7_till_60 : decode cX7_till 60 = .ok (.getfield 143, 3) := by decide +kernel
theorem dX7_till_63 : decode cX7_till 63 = .ok (.invokevirtual 170, 3) := by decide +kernel
theorem dX7_till_66 : decode cX7_till 66 = .ok (.iload_n 1, 1) := by decide +kernel
theorem dX7_till_67 : decode cX7_till 67 = .ok (.invokestatic 132, 3) := by decide +kernel
theorem dX7_till_70 : decode cX7_till 70 = .ok (.ifCond .eq 6, 3) := by decide +kernel
theorem dX7_till_73 : decode cX7_till 73 = .ok (.iinc 3 1, 3) := by decide +kernel
theorem dX7_till_76 : decode cX7_till 76 = .ok (.iload_n 3, 1) := by decide +kernel
theorem dX7_till_77 : decode cX7_till 77 = .ok (.iload_n 2, 1) := by decide +kernel
theorem dX7_till_78 : decode cX7_till 78 = .ok (.if_icmp .ne 6, 3) := by decide +kernel
theorem dX7_till_81 : decode cX7_till 81 = .ok (.iload 4, 2) := by decide +kernel
theorem dX7_till_83 : decode cX7_till 83 = .ok (.ireturn, 1) := by decide +kernel
theorem dX7_till_84 : decode cX7_till 84 = .ok (.iinc 4 1, 3) := by decide +kernel
theorem dX7_till_87 : decode cX7_till 87 = .ok (.goto (-47), 3) := by decide +kernel
theorem dX7_till_90 : decode cX7_till 90 = .ok (.iconst (-1), 1) := by decide +kernel
theorem dX7_till_91 : decode cX7_till 91 = .ok (.ireturn, 1) := by decide +kernel
theorem dX7_dies_0 : decode cX7_dies 0 = .ok (.aload_n 0, 1) := by decide +kernel
theorem dX7_dies_1 : decode cX7_dies 1 = .ok (.getfield 42, 3) := by decide +kernel
theorem dX7_dies_4 : decode cX7_dies 4 = .ok (.aload_n 0, 1) := by decide +kernel
theorem dX7_dies_5 : decode cX7_dies 5 = .ok (.getfield 38, 3) := by decide +kernel
theorem dX7_dies_8 : decode cX7_dies 8 = .ok (.invokevirtual 166, 3) := by decide +kernel
theorem dX7_dies_11 : decode cX7_dies 11 = .ok (.aload_n 0, 1) := by decide +kernel
theorem dX7_dies_12 : decode cX7_dies 12 = .ok (.getfield 42, 3) := by decide +kernel
theorem dX7_dies_15 : decode cX7_dies 15 = .ok (.aload_n 0, 1) := by decide +kernel
theorem dX7_dies_16 : decode cX7_dies 16 = .ok (.getfield 19, 3) := by decide +kernel
theorem dX7_dies_19 : decode cX7_dies 19 = .ok (.aload_n 0, 1) := by decide +kernel
theorem dX7_dies_20 : decode cX7_dies 20 = .ok (.getfield 19, 3) := by decide +kernel
theorem dX7_dies_23 : decode cX7_dies 23 = .ok (.getfield 143, 3) := by decide +kernel
theorem dX7_dies_26 : decode cX7_dies 26 = .ok (.sipush 401, 3) := by decide +kernel
theorem dX7_dies_29 : decode cX7_dies 29 = .ok (.invokevirtual 173, 3) := by decide +kernel
theorem dX7_dies_32 : decode cX7_dies 32 = .ok (.istore_n 1, 1) := by decide +kernel
theorem dX7_dies_33 : decode cX7_dies 33 = .ok (.iload_n 1, 1) := by decide +kernel
theorem dX7_dies_34 : decode cX7_dies 34 = .ok (.sipush 400, 3) := by decide +kernel
theorem dX7_dies_37 : decode cX7_dies 37 = .ok (.if_icmp .le 7, 3) := by decide +kernel
theorem dX7_dies_40 : decode cX7_dies 40 = .ok (.iconst (-1), 1) := by decide +kernel
theorem dX7_dies_41 : decode cX7_dies 41 = .ok (.goto 4, 3) := by decide +kernel
theorem dX7_dies_44 : decode cX7_dies 44 = .ok (.iload_n 1, 1) := by decide +kernel
theorem dX7_dies_45 : decode cX7_dies 45 = .ok (.ireturn, 1) := by decide +kernel
theorem dX7_lives_0 : decode cX7_lives 0 = .ok (.aload_n 0, 1) := by decide +kernel
theorem dX7_lives_1 : decode cX7_lives 1 = .ok (.getfield 19, 3) := by decide +kernel
theorem dX7_lives_4 : decode cX7_lives 4 = .ok (.iload_n 1, 1) := by decide +kernel
theorem dX7_lives_5 : decode cX7_lives 5 = .ok (.invokevirtual 125, 3) := by decide +kernel
theorem dX7_lives_8 : decode cX7_lives 8 = .ok (.ifCond .eq 11, 3) := by decide +kernel
theorem dX7_lives_11 : decode cX7_lives 11 = .ok (.aload_n 0, 1) := by decide +kernel
theorem dX7_lives_12 : decode cX7_lives 12 = .ok (.iload_n 2, 1) := by decide +kernel
theorem dX7_lives_13 : decode cX7_lives 13 = .ok (.invokevirtual 177, 3) := by decide +kernel
theorem dX7_lives_16 : decode cX7_lives 16 = .ok (.ifCond .ne 5, 3) := by decide +kernel
theorem dX7_lives_19 : decode cX7_lives 19 = .ok (.iconst (-1), 1) := by decide +kernel
theorem dX7_lives_20 : decode cX7_lives 20 = .ok (.ireturn, 1) := by decide +kernel
theorem dX7_lives_21 : decode cX7_lives 21 = .ok (.aload_n 0, 1) := by decide +kernel
theorem dX7_lives_22 : decode cX7_lives 22 = .ok (.aload_n 0, 1) := by decide +kernel
theorem dX7_lives_23 : decode cX7_lives 23 = .ok (.getfield 19, 3) := by decide +kernel
theorem dX7_lives_26 : decode cX7_lives 26 = .ok (.iload_n 1, 1) := by decide +kernel
theorem dX7_lives_27 : decode cX7_lives 27 = .ok (.iload_n 2, 1) := by decide +kernel
theorem dX7_lives_28 : decode cX7_lives 28 = .ok (.invokevirtual 180, 3) := by decide +kernel
theorem dX7_lives_31 : decode cX7_lives 31 = .ok (.aload_n 0, 1) := by decide +kernel
theorem dX7_lives_32 : decode cX7_lives 32 = .ok (.getfield 19, 3) := by decide +kernel
theorem dX7_lives_35 : decode cX7_lives 35 = .ok (.getfield 143, 3) := by decide +kernel
theorem dX7_lives_38 : decode cX7_lives 38 = .ok (.invokevirtual 184, 3) := by decide +kernel
theorem dX7_lives_41 : decode cX7_lives 41 = .ok (.ireturn, 1) := by decide +kernel
theorem dX7_fewest_0 : decode cX7_fewest 0 = .ok (.aload_n 0, 1) := by decide +kernel
theorem dX7_fewest_1 : decode cX7_fewest 1 = .ok (.getfield 19, 3) := by decide +kernel
theorem dX7_fewest_4 : decode cX7_fewest 4 = .ok (.iload_n 1, 1) := by decide +kernel
theorem dX7_fewest_5 : decode cX7_fewest 5 = .ok (.invokevirtual 125, 3) := by decide +kernel
theorem dX7_fewest_8 : decode cX7_fewest 8 = .ok (.ifCond .ne 5, 3) := by decide +kernel
theorem dX7_fewest_11 : decode cX7_fewest 11 = .ok (.iconst (-1), 1) := by decide +kernel
theorem dX7_fewest_12 : decode cX7_fewest 12 = .ok (.ireturn, 1) := by decide +kernel
theorem dX7_fewest_13 : decode cX7_fewest 13 = .ok (.iconst 1, 1) := by decide +kernel
theorem dX7_fewest_14 : decode cX7_fewest 14 = .ok (.istore_n 2, 1) := by decide +kernel
theorem dX7_fewest_15 : decode cX7_fewest 15 = .ok (.iload_n 2, 1) := by decide +kernel
theorem dX7_fewest_16 : decode cX7_fewest 16 = .ok (.bipush 12, 2) := by decide +kernel
theorem dX7_fewest_18 : decode cX7_fewest 18 = .ok (.if_icmp .gt 45, 3) := by decide +kernel
theorem dX7_fewest_21 : decode cX7_fewest 21 = .ok (.aload_n 0, 1) := by decide +kernel
theorem dX7_fewest_22 : decode cX7_fewest 22 = .ok (.iload_n 2, 1) := by decide +kernel
theorem dX7_fewest_23 : decode cX7_fewest 23 = .ok (.invokevirtual 177, 3) := by decide +kernel
theorem dX7_fewest_26 : decode cX7_fewest 26 = .ok (.ifCond .eq 37, 3) := by decide +kernel
theorem dX7_fewest_29 : decode cX7_fewest 29 = .ok (.aload_n 0, 1) := by decide +kernel
theorem dX7_fewest_30 : decode cX7_fewest 30 = .ok (.aload_n 0, 1) := by decide +kernel
theorem dX7_fewest_31 : decode cX7_fewest 31 = .ok (.getfield 19, 3) := by decide +kernel
theorem dX7_fewest_34 : decode cX7_fewest 34 = .ok (.iload_n 1, 1) := by decide +kernel
theorem dX7_fewest_35 : decode cX7_fewest 35 = .ok (.iload_n 2, 1) := by decide +kernel
theorem dX7_fewest_36 : decode cX7_fewest 36 = .ok (.invokevirtual 180, 3) := by decide +kernel
theorem dX7_fewest_39 : decode cX7_fewest 39 = .ok (.aload_n 0, 1) := by decide +kernel
theorem dX7_fewest_40 : decode cX7_fewest 40 = .ok (.getfield 19, 3) := by decide +kernel
theorem dX7_fewest_43 : decode cX7_fewest 43 = .ok (.getfield 143, 3) := by decide +kernel
theorem dX7_fewest_46 : decode cX7_fewest 46 = .ok (.invokevirtual 184, 3) := by decide +kernel
theorem dX7_fewest_49 : decode cX7_fewest 49 = .ok (.sipush 200, 3) := by decide +kernel
theorem dX7_fewest_52 : decode cX7_fewest 52 = .ok (.if_icmp .ne 5, 3) := by decide +kernel
theorem dX7_fewest_55 : decode cX7_fewest 55 = .ok (.iload_n 2, 1) := by decide +kernel
theorem dX7_fewest_56 : decode cX7_fewest 56 = .ok (.ireturn, 1) := by decide +kernel
theorem dX7_fewest_57 : decode cX7_fewest 57 = .ok (.iinc 2 1, 3) := by decide +kernel
theorem dX7_fewest_60 : decode cX7_fewest 60 = .ok (.goto (-45), 3) := by decide +kernel
theorem dX7_fewest_63 : decode cX7_fewest 63 = .ok (.iconst (-1), 1) := by decide +kernel
theorem dX7_fewest_64 : decode cX7_fewest 64 = .ok (.ireturn, 1) := by decide +kernel
theorem dX7_best_0 : decode cX7_best 0 = .ok (.aload_n 0, 1) := by decide +kernel
theorem dX7_best_1 : decode cX7_best 1 = .ok (.iload_n 1, 1) := by decide +kernel
theorem dX7_best_2 : decode cX7_best 2 = .ok (.invokevirtual 177, 3) := by decide +kernel
theorem dX7_best_5 : decode cX7_best 5 = .ok (.ifCond .eq 12, 3) := by decide +kernel
theorem dX7_best_8 : decode cX7_best 8 = .ok (.iload_n 2, 1) := by decide +kernel
theorem dX7_best_9 : decode cX7_best 9 = .ok (.ifCond .lt 8, 3) := by decide +kernel
theorem dX7_best_12 : decode cX7_best 12 = .ok (.iload_n 2, 1) := by decide +kernel
theorem dX7_best_13 : decode cX7_best 13 = .ok (.iconst 1, 1) := by decide +kernel
theorem dX7_best_14 : decode cX7_best 14 = .ok (.if_icmp .le 5, 3) := by decide +kernel
theorem dX7_best_17 : decode cX7_best 17 = .ok (.iconst (-1), 1) := by decide +kernel
theorem dX7_best_18 : decode cX7_best 18 = .ok (.ireturn, 1) := by decide +kernel
theorem dX7_best_19 : decode cX7_best 19 = .ok (.iconst 0, 1) := by decide +kernel
theorem dX7_best_20 : decode cX7_best 20 = .ok (.istore_n 3, 1) := by decide +kernel
theorem dX7_best_21 : decode cX7_best 21 = .ok (.iconst (-1), 1) := by decide +kernel
theorem dX7_best_22 : decode cX7_best 22 = .ok (.istore 4, 2) := by decide +kernel
theorem dX7_best_24 : decode cX7_best 24 = .ok (.iconst 0, 1) := by decide +kernel
theorem dX7_best_25 : decode cX7_best 25 = .ok (.istore 5, 2) := by decide +kernel
theorem dX7_best_27 : decode cX7_best 27 = .ok (.iload 5, 2) := by decide +kernel
theorem dX7_best_29 : decode cX7_best 29 = .ok (.aload_n 0, 1) := by decide +kernel
theorem dX7_best_30 : decode cX7_best 30 = .ok (.getfield 19, 3) := by decide +kernel
theorem dX7_best_33 : decode cX7_best 33 = .ok (.getfield 94, 3) := by decide +kernel
theorem dX7_best_36 : decode cX7_best 36 = .ok (.if_icmp .ge 54, 3) := by decide +kernel
theorem dX7_best_39 : decode cX7_best 39 = .ok (.iload 4, 2) := by decide +kernel
theorem dX7_best_41 : decode cX7_best 41 = .ok (.sipush 200, 3) := by decide +kernel
theorem dX7_best_44 : decode cX7_best 44 = .ok (.if_icmp .ge 46, 3) := by decide +kernel
theorem dX7_best_47 : decode cX7_best 47 = .ok (.aload_n 0, 1) := by decide +kernel
theorem dX7_best_48 : decode cX7_best 48 = .ok (.aload_n 0, 1) := by decide +kernel
theorem dX7_best_49 : decode cX7_best 49 = .ok (.getfield 19, 3) := by decide +kernel
theorem dX7_best_52 : decode cX7_best 52 = .ok (.iload 5, 2) := by decide +kernel
theorem dX7_best_54 : decode cX7_best 54 = .ok (.iload_n 1, 1) := by decide +kernel
theorem dX7_best_55 : decode cX7_best 55 = .ok (.invokevirtual 180, 3) := by decide +kernel
theorem dX7_best_58 : decode cX7_best 58 = .ok (.aload_n 0, 1) := by decide +kernel
theorem dX7_best_59 : decode cX7_best 59 = .ok (.getfield 19, 3) := by decide +kernel
theorem dX7_best_62 : decode cX7_best 62 = .ok (.getfield 143, 3) := by decide +kernel
theorem dX7_best_65 : decode cX7_best 65 = .ok (.invokevirtual 184, 3) := by decide +kernel
theorem dX7_best_68 : decode cX7_best 68 = .ok (.istore 6, 2) := by decide +kernel
theorem dX7_best_70 : decode cX7_best 70 = .ok (.iload 6, 2) := by decide +kernel
theorem dX7_best_72 : decode cX7_best 72 = .ok (.iload 4, 2) := by decide +kernel
theorem dX7_best_74 : decode cX7_best 74 = .ok (.if_icmp .le 10, 3) := by decide +kernel
theorem dX7_best_77 : decode cX7_best 77 = .ok (.iload 6, 2) := by decide +kernel
theorem dX7_best_79 : decode cX7_best 79 = .ok (.istore 4, 2) := by decide +kernel
theorem dX7_best_81 : decode cX7_best 81 = .ok (.iload 5, 2) := by decide +kernel
theorem dX7_best_83 : decode cX7_best 83 = .ok (.istore_n 3, 1) := by decide +kernel
theorem dX7_best_84 : decode cX7_best 84 = .ok (.iinc 5 1, 3) := by decide +kernel
theorem dX7_best_87 : decode cX7_best 87 = .ok (.goto (-60), 3) := by decide +kernel
theorem dX7_best_90 : decode cX7_best 90 = .ok (.iload_n 2, 1) := by decide +kernel
theorem dX7_best_91 : decode cX7_best 91 = .ok (.ifCond .ne 7, 3) := by decide +kernel
theorem dX7_best_94 : decode cX7_best 94 = .ok (.iload_n 3, 1) := by decide +kernel
theorem dX7_best_95 : decode cX7_best 95 = .ok (.goto 5, 3) := by decide +kernel
theorem dX7_best_98 : decode cX7_best 98 = .ok (.iload 4, 2) := by decide +kernel
theorem dX7_best_100 : decode cX7_best 100 = .ok (.ireturn, 1) := by decide +kernel
theorem dX7_jumps_0 : decode cX7_jumps 0 = .ok (.aload_n 0, 1) := by decide +kernel
theorem dX7_jumps_1 : decode cX7_jumps 1 = .ok (.getfield 19, 3) := by decide +kernel
theorem dX7_jumps_4 : decode cX7_jumps 4 = .ok (.iload_n 1, 1) := by decide +kernel
theorem dX7_jumps_5 : decode cX7_jumps 5 = .ok (.invokevirtual 125, 3) := by decide +kernel
theorem dX7_jumps_8 : decode cX7_jumps 8 = .ok (.ifCond .eq 22, 3) := by decide +kernel
theorem dX7_jumps_11 : decode cX7_jumps 11 = .ok (.aload_n 0, 1) := by decide +kernel
theorem dX7_jumps_12 : decode cX7_jumps 12 = .ok (.iload_n 2, 1) := by decide +kernel
theorem dX7_jumps_13 : decode cX7_jumps 13 = .ok (.invokevirtual 177, 3) := by decide +kernel
theorem dX7_jumps_16 : decode cX7_jumps 16 = .ok (.ifCond .eq 14, 3) := by decide +kernel
theorem dX7_jumps_19 : decode cX7_jumps 19 = .ok (.aload_n 0, 1) := by decide +kernel
theorem dX7_jumps_20 : decode cX7_jumps 20 = .ok (.getfield 19, 3) := by decide +kernel
theorem dX7_jumps_23 : decode cX7_jumps 23 = .ok (.iload_n 3, 1) := by decide +kernel
theorem dX7_jumps_24 : decode cX7_jumps 24 = .ok (.invokevirtual 125, 3) := by decide +kernel
theorem dX7_jumps_27 : decode cX7_jumps 27 = .ok (.ifCond .ne 5, 3) := by decide +kernel
theorem dX7_jumps_30 : decode cX7_jumps 30 = .ok (.iconst (-1), 1) := by decide +kernel
theorem dX7_jumps_31 : decode cX7_jumps 31 = .ok (.ireturn, 1) := by decide +kernel
theorem dX7_jumps_32 : decode cX7_jumps 32 = .ok (.aload_n 0, 1) := by decide +kernel
theorem dX7_jumps_33 : decode cX7_jumps 33 = .ok (.getfield 19, 3) := by decide +kernel
theorem dX7_jumps_36 : decode cX7_jumps 36 = .ok (.iload_n 1, 1) := by decide +kernel
theorem dX7_jumps_37 : decode cX7_jumps 37 = .ok (.iload_n 2, 1) := by decide +kernel
theorem dX7_jumps_38 : decode cX7_jumps 38 = .ok (.invokevirtual 180, 3) := by decide +kernel
theorem dX7_jumps_41 : decode cX7_jumps 41 = .ok (.lstore 4, 2) := by decide +kernel
theorem dX7_jumps_43 : decode cX7_jumps 43 = .ok (.aload_n 0, 1) := by decide +kernel
theorem dX7_jumps_44 : decode cX7_jumps 44 = .ok (.lload 4, 2) := by decide +kernel
theorem dX7_jumps_46 : decode cX7_jumps 46 = .ok (.aload_n 0, 1) := by decide +kernel
theorem dX7_jumps_47 : decode cX7_jumps 47 = .ok (.getfield 19, 3) := by decide +kernel
theorem dX7_jumps_50 : decode cX7_jumps 50 = .ok (.getfield 143, 3) := by decide +kernel
theorem dX7_jumps_53 : decode cX7_jumps 53 = .ok (.invokevirtual 184, 3) := by decide +kernel
theorem dX7_jumps_56 : decode cX7_jumps 56 = .ok (.sipush 200, 3) := by decide +kernel
theorem dX7_jumps_59 : decode cX7_jumps 59 = .ok (.if_icmp .ge 5, 3) := by decide +kernel
theorem dX7_jumps_62 : decode cX7_jumps 62 = .ok (.iconst (-1), 1) := by decide +kernel
theorem dX7_jumps_63 : decode cX7_jumps 63 = .ok (.ireturn, 1) := by decide +kernel
theorem dX7_jumps_64 : decode cX7_jumps 64 = .ok (.bipush 9, 2) := by decide +kernel
theorem dX7_jumps_66 : decode cX7_jumps 66 = .ok (.istore 6, 2) := by decide +kernel
theorem dX7_jumps_68 : decode cX7_jumps 68 = .ok (.iload 6, 2) := by decide +kernel
theorem dX7_jumps_70 : decode cX7_jumps 70 = .ok (.ifCond .le 42, 3) := by decide +kernel
theorem dX7_jumps_73 : decode cX7_jumps 73 = .ok (.aload_n 0, 1) := by decide +kernel
theorem dX7_jumps_74 : decode cX7_jumps 74 = .ok (.lload 4, 2) := by decide +kernel
theorem dX7_jumps_76 : decode cX7_jumps 76 = .ok (.aload_n 0, 1) := by decide +kernel
theorem dX7_jumps_77 : decode cX7_jumps 77 = .ok (.getfield 19, 3) := by decide +kernel
theorem dX7_jumps_80 : decode cX7_jumps 80 = .ok (.getfield 143, 3) := by decide +kernel
theorem dX7_jumps_83 : decode cX7_jumps 83 = .ok (.aload_n 0, 1) := by decide +kernel
theorem dX7_jumps_84 : decode cX7_jumps 84 = .ok (.getfield 19, 3) := by decide +kernel
theorem dX7_jumps_87 : decode cX7_jumps 87 = .ok (.iload_n 3, 1) := by decide +kernel
theorem dX7_jumps_88 : decode cX7_jumps 88 = .ok (.iload 6, 2) := by decide +kernel
theorem dX7_jumps_90 : decode cX7_jumps 90 = .ok (.invokevirtual 180, 3) := by decide +kernel
theorem dX7_jumps_93 : decode cX7_jumps 93 = .ok (.lor, 1) := by decide +kernel
theorem dX7_jumps_94 : decode cX7_jumps 94 = .ok (.invokevirtual 184, 3) := by decide +kernel
theorem dX7_jumps_97 : decode cX7_jumps 97 = .ok (.sipush 200, 3) := by decide +kernel
theorem dX7_jumps_100 : decode cX7_jumps 100 = .ok (.if_icmp .ne 6, 3) := by decide +kernel
theorem dX7_jumps_103 : decode cX7_jumps 103 = .ok (.iload 6, 2) := by decide +kernel
theorem dX7_jumps_105 : decode cX7_jumps 105 = .ok (.ireturn, 1) := by decide +kernel
theorem dX7_jumps_106 : decode cX7_jumps 106 = .ok (.iinc 6 (-1), 3) := by decide +kernel
theorem dX7_jumps_109 : decode cX7_jumps 109 = .ok (.goto (-41), 3) := by decide +kernel
theorem dX7_jumps_112 : decode cX7_jumps 112 = .ok (.iconst 0, 1) := by decide +kernel
theorem dX7_jumps_113 : decode cX7_jumps 113 = .ok (.ireturn, 1) := by decide +kernel
theorem dX7_meet_0 : decode cX7_meet 0 = .ok (.aload_n 0, 1) := by decide +kernel
theorem dX7_meet_1 : decode cX7_meet 1 = .ok (.getfield 19, 3) := by decide +kernel
theorem dX7_meet_4 : decode cX7_meet 4 = .ok (.iload_n 1, 1) := by decide +kernel
theorem dX7_meet_5 : decode cX7_meet 5 = .ok (.invokevirtual 125, 3) := by decide +kernel
theorem dX7_meet_8 : decode cX7_meet 8 = .ok (.ifCond .eq 22, 3) := by decide +kernel
theorem dX7_meet_11 : decode cX7_meet 11 = .ok (.aload_n 0, 1) := by decide +kernel
theorem dX7_meet_12 : decode cX7_meet 12 = .ok (.getfield 19, 3) := by decide +kernel
theorem dX7_meet_15 : decode cX7_meet 15 = .ok (.iload_n 2, 1) := by decide +kernel
theorem dX7_meet_16 : decode cX7_meet 16 = .ok (.invokevirtual 125, 3) := by decide +kernel
theorem dX7_meet_19 : decode cX7_meet 19 = .ok (.ifCond .eq 11, 3) := by decide +kernel
theorem dX7_meet_22 : decode cX7_meet 22 = .ok (.aload_n 0, 1) := by decide +kernel
theorem dX7_meet_23 : decode cX7_meet 23 = .ok (.iload_n 3, 1) := by decide +kernel
theorem dX7_meet_24 : decode cX7_meet 24 = .ok (.invokevirtual 177, 3) := by decide +kernel
theorem dX7_meet_27 : decode cX7_meet 27 = .ok (.ifCond .ne 5, 3) := by decide +kernel
theorem dX7_meet_30 : decode cX7_meet 30 = .ok (.iconst (-1), 1) := by decide +kernel
theorem dX7_meet_31 : decode cX7_meet 31 = .ok (.ireturn, 1) := by decide +kernel
theorem dX7_meet_32 : decode cX7_meet 32 = .ok (.aload_n 0, 1) := by decide +kernel
theorem dX7_meet_33 : decode cX7_meet 33 = .ok (.getfield 42, 3) := by decide +kernel
theorem dX7_meet_36 : decode cX7_meet 36 = .ok (.invokevirtual 88, 3) := by decide +kernel
theorem dX7_meet_39 : decode cX7_meet 39 = .ok (.aload_n 0, 1) := by decide +kernel
theorem dX7_meet_40 : decode cX7_meet 40 = .ok (.getfield 42, 3) := by decide +kernel
theorem dX7_meet_43 : decode cX7_meet 43 = .ok (.aload_n 0, 1) := by decide +kernel
theorem dX7_meet_44 : decode cX7_meet 44 = .ok (.getfield 19, 3) := by decide +kernel
theorem dX7_meet_47 : decode cX7_meet 47 = .ok (.aload_n 0, 1) := by decide +kernel
theorem dX7_meet_48 : decode cX7_meet 48 = .ok (.getfield 19, 3) := by decide +kernel
theorem dX7_meet_51 : decode cX7_meet 51 = .ok (.iload_n 1, 1) := by decide +kernel
theorem dX7_meet_52 : decode cX7_meet 52 = .ok (.iload_n 3, 1) := by decide +kernel
theorem dX7_meet_53 : decode cX7_meet 53 = .ok (.invokevirtual 180, 3) := by decide +kernel
theorem dX7_meet_56 : decode cX7_meet 56 = .ok (.aload_n 0, 1) := by decide +kernel
theorem dX7_meet_57 : decode cX7_meet 57 = .ok (.getfield 19, 3) := by decide +kernel
theorem dX7_meet_60 : decode cX7_meet 60 = .ok (.iload_n 2, 1) := by decide +kernel
theorem dX7_meet_61 : decode cX7_meet 61 = .ok (.iload_n 3, 1) := by decide +kernel
theorem dX7_meet_62 : decode cX7_meet 62 = .ok (.invokevirtual 180, 3) := by decide +kernel
theorem dX7_meet_65 : decode cX7_meet 65 = .ok (.lor, 1) := by decide +kernel
theorem dX7_meet_66 : decode cX7_meet 66 = .ok (.invokevirtual 107, 3) := by decide +kernel
theorem dX7_meet_69 : decode cX7_meet 69 = .ok (.pop, 1) := by decide +kernel
theorem dX7_meet_70 : decode cX7_meet 70 = .ok (.iconst 0, 1) := by decide +kernel
theorem dX7_meet_71 : decode cX7_meet 71 = .ok (.istore 4, 2) := by decide +kernel
theorem dX7_meet_73 : decode cX7_meet 73 = .ok (.iload 4, 2) := by decide +kernel
theorem dX7_meet_75 : decode cX7_meet 75 = .ok (.bipush 60, 2) := by decide +kernel
theorem dX7_meet_77 : decode cX7_meet 77 = .ok (.if_icmp .ge 28, 3) := by decide +kernel
theorem dX7_meet_80 : decode cX7_meet 80 = .ok (.aload_n 0, 1) := by decide +kernel
theorem dX7_meet_81 : decode cX7_meet 81 = .ok (.getfield 42, 3) := by decide +kernel
theorem dX7_meet_84 : decode cX7_meet 84 = .ok (.aload_n 0, 1) := by decide +kernel
theorem dX7_meet_85 : decode cX7_meet 85 = .ok (.getfield 19, 3) := by decide +kernel
theorem dX7_meet_88 : decode cX7_meet 88 = .ok (.aload_n 0, 1) := by decide +kernel
theorem dX7_meet_89 : decode cX7_meet 89 = .ok (.getfield 19, 3) := by decide +kernel
theorem dX7_meet_92 : decode cX7_meet 92 = .ok (.getfield 143, 3) := by decide +kernel
theorem dX7_meet_95 : decode cX7_meet 95 = .ok (.invokevirtual 170, 3) := by decide +kernel
theorem dX7_meet_98 : decode cX7_meet 98 = .ok (.pop2, 1) := by decide +kernel
theorem dX7_meet_99 : decode cX7_meet 99 = .ok (.iinc 4 1, 3) := by decide +kernel
theorem dX7_meet_102 : decode cX7_meet 102 = .ok (.goto (-29), 3) := by decide +kernel
theorem dX7_meet_105 : decode cX7_meet 105 = .ok (.aload_n 0, 1) := by decide +kernel
theorem dX7_meet_106 : decode cX7_meet 106 = .ok (.getfield 19, 3) := by decide +kernel
theorem dX7_meet_109 : decode cX7_meet 109 = .ok (.aload_n 0, 1) := by decide +kernel
theorem dX7_meet_110 : decode cX7_meet 110 = .ok (.getfield 42, 3) := by decide +kernel
theorem dX7_meet_113 : decode cX7_meet 113 = .ok (.getfield 157, 3) := by decide +kernel
theorem dX7_meet_116 : decode cX7_meet 116 = .ok (.invokevirtual 163, 3) := by decide +kernel
theorem dX7_meet_119 : decode cX7_meet 119 = .ok (.ireturn, 1) := by decide +kernel
theorem dX7_odds_0 : decode cX7_odds 0 = .ok (.iload_n 1, 1) := by decide +kernel
theorem dX7_odds_1 : decode cX7_odds 1 = .ok (.ifCond .lt 18, 3) := by decide +kernel
theorem dX7_odds_4 : decode cX7_odds 4 = .ok (.iload_n 1, 1) := by decide +kernel
theorem dX7_odds_5 : decode cX7_odds 5 = .ok (.bipush 40, 2) := by decide +kernel
theorem dX7_odds_7 : decode cX7_odds 7 = .ok (.if_icmp .gt 12, 3) := by decide +kernel
theorem dX7_odds_10 : decode cX7_odds 10 = .ok (.iload_n 2, 1) := by decide +kernel
theorem dX7_odds_11 : decode cX7_odds 11 = .ok (.ifCond .lt 8, 3) := by decide +kernel
theorem dX7_odds_14 : decode cX7_odds 14 = .ok (.iload_n 2, 1) := by decide +kernel
theorem dX7_odds_15 : decode cX7_odds 15 = .ok (.iconst 1, 1) := by decide +kernel
theorem dX7_odds_16 : decode cX7_odds 16 = .ok (.if_icmp .le 7, 3) := by decide +kernel
theorem dX7_odds_19 : decode cX7_odds 19 = .ok (.ldc2_w 188, 3) := by decide +kernel
theorem dX7_odds_22 : decode cX7_odds 22 = .ok (.lreturn, 1) := by decide +kernel
theorem dX7_odds_23 : decode cX7_odds 23 = .ok (.aload_n 0, 1) := by decide +kernel
theorem dX7_odds_24 : decode cX7_odds 24 = .ok (.invokevirtual 190, 3) := by decide +kernel
theorem dX7_odds_27 : decode cX7_odds 27 = .ok (.istore_n 3, 1) := by decide +kernel
theorem dX7_odds_28 : decode cX7_odds 28 = .ok (.iload_n 3, 1) := by decide +kernel
theorem dX7_odds_29 : decode cX7_odds 29 = .ok (.bipush 15, 2) := by decide +kernel
theorem dX7_odds_31 : decode cX7_odds 31 = .ok (.if_icmp .le 7, 3) := by decide +kernel
theorem dX7_odds_34 : decode cX7_odds 34 = .ok (.ldc2_w 194, 3) := by decide +kernel
theorem dX7_odds_37 : decode cX7_odds 37 = .ok (.lreturn, 1) := by decide +kernel
theorem dX7_odds_38 : decode cX7_odds 38 = .ok (.aload_n 0, 1) := by decide +kernel
theorem dX7_odds_39 : decode cX7_odds 39 = .ok (.iload_n 1, 1) := by decide +kernel
theorem dX7_odds_40 : decode cX7_odds 40 = .ok (.iload_n 3, 1) := by decide +kernel
theorem dX7_odds_41 : decode cX7_odds 41 = .ok (.invokevirtual 196, 3) := by decide +kernel
theorem dX7_odds_44 : decode cX7_odds 44 = .ok (.lstore 4, 2) := by decide +kernel
theorem dX7_odds_46 : decode cX7_odds 46 = .ok (.lconst 1, 1) := by decide +kernel
theorem dX7_odds_47 : decode cX7_odds 47 = .ok (.lstore 6, 2) := by decide +kernel
theorem dX7_odds_49 : decode cX7_odds 49 = .ok (.iconst 0, 1) := by decide +kernel
theorem dX7_odds_50 : decode cX7_odds 50 = .ok (.istore 8, 2) := by decide +kernel
theorem dX7_odds_52 : decode cX7_odds 52 = .ok (.iload 8, 2) := by decide +kernel
theorem dX7_odds_54 : decode cX7_odds 54 = .ok (.iload_n 3, 1) := by decide +kernel
theorem dX7_odds_55 : decode cX7_odds 55 = .ok (.if_icmp .ge 17, 3) := by decide +kernel
theorem dX7_odds_58 : decode cX7_odds 58 = .ok (.lload 6, 2) := by decide +kernel
theorem dX7_odds_60 : decode cX7_odds 60 = .ok (.ldc2_w 199, 3) := by decide +kernel
theorem dX7_odds_63 : decode cX7_odds 63 = .ok (.lmul, 1) := by decide +kernel
theorem dX7_odds_64 : decode cX7_odds 64 = .ok (.lstore 6, 2) := by decide +kernel
theorem dX7_odds_66 : decode cX7_odds 66 = .ok (.iinc 8 1, 3) := by decide +kernel
theorem dX7_odds_69 : decode cX7_odds 69 = .ok (.goto (-17), 3) := by decide +kernel
theorem dX7_odds_72 : decode cX7_odds 72 = .ok (.lload 4, 2) := by decide +kernel
theorem dX7_odds_74 : decode cX7_odds 74 = .ok (.lload 6, 2) := by decide +kernel
theorem dX7_odds_76 : decode cX7_odds 76 = .ok (.invokestatic 201, 3) := by decide +kernel
theorem dX7_odds_79 : decode cX7_odds 79 = .ok (.lstore 8, 2) := by decide +kernel
theorem dX7_odds_81 : decode cX7_odds 81 = .ok (.lload 8, 2) := by decide +kernel
theorem dX7_odds_83 : decode cX7_odds 83 = .ok (.lconst 0, 1) := by decide +kernel
theorem dX7_odds_84 : decode cX7_odds 84 = .ok (.lcmp, 1) := by decide +kernel
theorem dX7_odds_85 : decode cX7_odds 85 = .ok (.ifCond .ne 7, 3) := by decide +kernel
theorem dX7_odds_88 : decode cX7_odds 88 = .ok (.ldc2_w 188, 3) := by decide +kernel
theorem dX7_odds_91 : decode cX7_odds 91 = .ok (.lreturn, 1) := by decide +kernel
theorem dX7_odds_92 : decode cX7_odds 92 = .ok (.iload_n 2, 1) := by decide +kernel
theorem dX7_odds_93 : decode cX7_odds 93 = .ok (.ifCond .ne 11, 3) := by decide +kernel
theorem dX7_odds_96 : decode cX7_odds 96 = .ok (.lload 4, 2) := by decide +kernel
theorem dX7_odds_98 : decode cX7_odds 98 = .ok (.lload 8, 2) := by decide +kernel
theorem dX7_odds_100 : decode cX7_odds 100 = .ok (.ldiv, 1) := by decide +kernel
theorem dX7_odds_101 : decode cX7_odds 101 = .ok (.goto 8, 3) := by decide +kernel
theorem dX7_odds_104 : decode cX7_odds 104 = .ok (.lload 6, 2) := by decide +kernel
theorem dX7_odds_106 : decode cX7_odds 106 = .ok (.lload 8, 2) := by decide +kernel
theorem dX7_odds_108 : decode cX7_odds 108 = .ok (.ldiv, 1) := by decide +kernel
theorem dX7_odds_109 : decode cX7_odds 109 = .ok (.lreturn, 1) := by decide +kernel
theorem dX7_film_0 : decode cX7_film 0 = .ok (.iload_n 1, 1) := by decide +kernel
theorem dX7_film_1 : decode cX7_film 1 = .ok (.ifCond .lt 27, 3) := by decide +kernel
theorem dX7_film_4 : decode cX7_film 4 = .ok (.iload_n 1, 1) := by decide +kernel
theorem dX7_film_5 : decode cX7_film 5 = .ok (.bipush 40, 2) := by decide +kernel
theorem dX7_film_7 : decode cX7_film 7 = .ok (.if_icmp .ge 21, 3) := by decide +kernel
theorem dX7_film_10 : decode cX7_film 10 = .ok (.lload_n 2, 1) := by decide +kernel
theorem dX7_film_11 : decode cX7_film 11 = .ok (.aload_n 0, 1) := by decide +kernel
theorem dX7_film_12 : decode cX7_film 12 = .ok (.getfield 19, 3) := by decide +kernel
theorem dX7_film_15 : decode cX7_film 15 = .ok (.invokevirtual 205, 3) := by decide +kernel
theorem dX7_film_18 : decode cX7_film 18 = .ok (.ldc2_w 188, 3) := by decide +kernel
theorem dX7_film_21 : decode cX7_film 21 = .ok (.lxor, 1) := by decide +kernel
theorem dX7_film_22 : decode cX7_film 22 = .ok (.land, 1) := by decide +kernel
theorem dX7_film_23 : decode cX7_film 23 = .ok (.lconst 0, 1) := by decide +kernel
theorem dX7_film_24 : decode cX7_film 24 = .ok (.lcmp, 1) := by decide +kernel
theorem dX7_film_25 : decode cX7_film 25 = .ok (.ifCond .eq 5, 3) := by decide +kernel
theorem dX7_film_28 : decode cX7_film 28 = .ok (.iconst (-1), 1) := by decide +kernel
theorem dX7_film_29 : decode cX7_film 29 = .ok (.ireturn, 1) := by decide +kernel
theorem dX7_film_30 : decode cX7_film 30 = .ok (.aload_n 0, 1) := by decide +kernel
theorem dX7_film_31 : decode cX7_film 31 = .ok (.getfield 56, 3) := by decide +kernel
theorem dX7_film_34 : decode cX7_film 34 = .ok (.iload_n 1, 1) := by decide +kernel
theorem dX7_film_35 : decode cX7_film 35 = .ok (.lload_n 2, 1) := by decide +kernel
theorem dX7_film_36 : decode cX7_film 36 = .ok (.invokevirtual 209, 3) := by decide +kernel
theorem dX7_film_39 : decode cX7_film 39 = .ok (.ireturn, 1) := by decide +kernel
theorem dX7_untell_0 : decode cX7_untell 0 = .ok (.aload_n 0, 1) := by decide +kernel
theorem dX7_untell_1 : decode cX7_untell 1 = .ok (.getfield 56, 3) := by decide +kernel
theorem dX7_untell_4 : decode cX7_untell 4 = .ok (.iload_n 1, 1) := by decide +kernel
theorem dX7_untell_5 : decode cX7_untell 5 = .ok (.invokevirtual 213, 3) := by decide +kernel
theorem dX7_untell_8 : decode cX7_untell 8 = .ok (.ireturn, 1) := by decide +kernel
theorem dX7_later_0 : decode cX7_later 0 = .ok (.iload_n 1, 1) := by decide +kernel
theorem dX7_later_1 : decode cX7_later 1 = .ok (.ifCond .lt 24, 3) := by decide +kernel
theorem dX7_later_4 : decode cX7_later 4 = .ok (.iload_n 1, 1) := by decide +kernel
theorem dX7_later_5 : decode cX7_later 5 = .ok (.sipush 1000, 3) := by decide +kernel
theorem dX7_later_8 : decode cX7_later 8 = .ok (.if_icmp .gt 17, 3) := by decide +kernel
theorem dX7_later_11 : decode cX7_later 11 = .ok (.iload_n 1, 1) := by decide +kernel
theorem dX7_later_12 : decode cX7_later 12 = .ok (.ldc 216, 2) := by decide +kernel
theorem dX7_later_14 : decode cX7_later 14 = .ok (.aload_n 0, 1) := by decide +kernel
theorem dX7_later_15 : decode cX7_later 15 = .ok (.getfield 56, 3) := by decide +kernel
theorem dX7_later_18 : decode cX7_later 18 = .ok (.getfield 217, 3) := by decide +kernel
theorem dX7_later_21 : decode cX7_later 21 = .ok (.isub, 1) := by decide +kernel
theorem dX7_later_22 : decode cX7_later 22 = .ok (.if_icmp .le 5, 3) := by decide +kernel
theorem dX7_later_25 : decode cX7_later 25 = .ok (.iconst (-1), 1) := by decide +kernel
theorem dX7_later_26 : decode cX7_later 26 = .ok (.ireturn, 1) := by decide +kernel
theorem dX7_later_27 : decode cX7_later 27 = .ok (.aload_n 0, 1) := by decide +kernel
theorem dX7_later_28 : decode cX7_later 28 = .ok (.getfield 56, 3) := by decide +kernel
theorem dX7_later_31 : decode cX7_later 31 = .ok (.dup, 1) := by decide +kernel
theorem dX7_later_32 : decode cX7_later 32 = .ok (.getfield 217, 3) := by decide +kernel
theorem dX7_later_35 : decode cX7_later 35 = .ok (.iload_n 1, 1) := by decide +kernel
theorem dX7_later_36 : decode cX7_later 36 = .ok (.iadd, 1) := by decide +kernel
theorem dX7_later_37 : decode cX7_later 37 = .ok (.putfield 217, 3) := by decide +kernel
theorem dX7_later_40 : decode cX7_later 40 = .ok (.aload_n 0, 1) := by decide +kernel
theorem dX7_later_41 : decode cX7_later 41 = .ok (.getfield 56, 3) := by decide +kernel
theorem dX7_later_44 : decode cX7_later 44 = .ok (.getfield 217, 3) := by decide +kernel
theorem dX7_later_47 : decode cX7_later 47 = .ok (.ireturn, 1) := by decide +kernel
theorem dX7_fits_0 : decode cX7_fits 0 = .ok (.aload_n 0, 1) := by decide +kernel
theorem dX7_fits_1 : decode cX7_fits 1 = .ok (.getfield 56, 3) := by decide +kernel
theorem dX7_fits_4 : decode cX7_fits 4 = .ok (.iload_n 1, 1) := by decide +kernel
theorem dX7_fits_5 : decode cX7_fits 5 = .ok (.invokevirtual 220, 3) := by decide +kernel
theorem dX7_fits_8 : decode cX7_fits 8 = .ok (.iconst 0, 1) := by decide +kernel
theorem dX7_fits_9 : decode cX7_fits 9 = .ok (.istore_n 2, 1) := by decide +kernel
theorem dX7_fits_10 : decode cX7_fits 10 = .ok (.iconst 0, 1) := by decide +kernel
theorem dX7_fits_11 : decode cX7_fits 11 = .ok (.istore_n 3, 1) := by decide +kernel
theorem dX7_fits_12 : decode cX7_fits 12 = .ok (.iload_n 3, 1) := by decide +kernel
theorem dX7_fits_13 : decode cX7_fits 13 = .ok (.sipush 324, 3) := by decide +kernel
theorem dX7_fits_16 : decode cX7_fits 16 = .ok (.if_icmp .ge 20, 3) := by decide +kernel
theorem dX7_fits_19 : decode cX7_fits 19 = .ok (.iload_n 2, 1) := by decide +kernel
theorem dX7_fits_20 : decode cX7_fits 20 = .ok (.aload_n 0, 1) := by decide +kernel
theorem dX7_fits_21 : decode cX7_fits 21 = .ok (.iload_n 3, 1) := by decide +kernel
theorem dX7_fits_22 : decode cX7_fits 22 = .ok (.invokevirtual 223, 3) := by decide +kernel
theorem dX7_fits_25 : decode cX7_fits 25 = .ok (.invokestatic 146, 3) := by decide +kernel
theorem dX7_fits_28 : decode cX7_fits 28 = .ok (.iadd, 1) := by decide +kernel
theorem dX7_fits_29 : decode cX7_fits 29 = .ok (.istore_n 2, 1) := by decide +kernel
theorem dX7_fits_30 : decode cX7_fits 30 = .ok (.iinc 3 1, 3) := by decide +kernel
theorem dX7_fits_33 : decode cX7_fits 33 = .ok (.goto (-21), 3) := by decide +kernel
theorem dX7_fits_36 : decode cX7_fits 36 = .ok (.iload_n 2, 1) := by decide +kernel
theorem dX7_fits_37 : decode cX7_fits 37 = .ok (.ireturn, 1) := by decide +kernel
theorem dX7_fit_0 : decode cX7_fit 0 = .ok (.iload_n 1, 1) := by decide +kernel
theorem dX7_fit_1 : decode cX7_fit 1 = .ok (.ifCond .lt 10, 3) := by decide +kernel
theorem dX7_fit_4 : decode cX7_fit 4 = .ok (.iload_n 1, 1) := by decide +kernel
theorem dX7_fit_5 : decode cX7_fit 5 = .ok (.sipush 324, 3) := by decide +kernel
theorem dX7_fit_8 : decode cX7_fit 8 = .ok (.if_icmp .lt 5, 3) := by decide +kernel
theorem dX7_fit_11 : decode cX7_fit 11 = .ok (.iconst (-1), 1) := by decide +kernel
theorem dX7_fit_12 : decode cX7_fit 12 = .ok (.ireturn, 1) := by decide +kernel
theorem dX7_fit_13 : decode cX7_fit 13 = .ok (.aload_n 0, 1) := by decide +kernel
theorem dX7_fit_14 : decode cX7_fit 14 = .ok (.getfield 56, 3) := by decide +kernel
theorem dX7_fit_17 : decode cX7_fit 17 = .ok (.iload_n 2, 1) := by decide +kernel
theorem dX7_fit_18 : decode cX7_fit 18 = .ok (.invokevirtual 220, 3) := by decide +kernel
theorem dX7_fit_21 : decode cX7_fit 21 = .ok (.iconst 0, 1) := by decide +kernel
theorem dX7_fit_22 : decode cX7_fit 22 = .ok (.istore_n 3, 1) := by decide +kernel
theorem dX7_fit_23 : decode cX7_fit 23 = .ok (.iconst 0, 1) := by decide +kernel
theorem dX7_fit_24 : decode cX7_fit 24 = .ok (.istore 4, 2) := by decide +kernel
theorem dX7_fit_26 : decode cX7_fit 26 = .ok (.iload 4, 2) := by decide +kernel
theorem dX7_fit_28 : decode cX7_fit 28 = .ok (.sipush 324, 3) := by decide +kernel
theorem dX7_fit_31 : decode cX7_fit 31 = .ok (.if_icmp .ge 29, 3) := by decide +kernel
theorem dX7_fit_34 : decode cX7_fit 34 = .ok (.aload_n 0, 1) := by decide +kernel
theorem dX7_fit_35 : decode cX7_fit 35 = .ok (.iload 4, 2) := by decide +kernel
theorem dX7_fit_37 : decode cX7_fit 37 = .ok (.invokevirtual 223, 3) := by decide +kernel
theorem dX7_fit_40 : decode cX7_fit 40 = .ok (.ifCond .eq 14, 3) := by decide +kernel
theorem dX7_fit_43 : decode cX7_fit 43 = .ok (.iload_n 3, 1) := by decide +kernel
theorem dX7_fit_44 : decode cX7_fit 44 = .ok (.iload_n 1, 1) := by decide +kernel
theorem dX7_fit_45 : decode cX7_fit 45 = .ok (.if_icmp .ne 6, 3) := by decide +kernel
theorem dX7_fit_48 : decode cX7_fit 48 = .ok (.iload 4, 2) := by decide +kernel
theorem dX7_fit_50 : decode cX7_fit 50 = .ok (.ireturn, 1) := by decide +kernel
theorem dX7_fit_51 : decode cX7_fit 51 = .ok (.iinc 3 1, 3) := by decide +kernel
theorem dX7_fit_54 : decode cX7_fit 54 = .ok (.iinc 4 1, 3) := by decide +kernel
theorem dX7_fit_57 : decode cX7_fit 57 = .ok (.goto (-31), 3) := by decide +kernel
theorem dX7_fit_60 : decode cX7_fit 60 = .ok (.iconst (-1), 1) := by decide +kernel
theorem dX7_fit_61 : decode cX7_fit 61 = .ok (.ireturn, 1) := by decide +kernel
theorem dX7_sure_0 : decode cX7_sure 0 = .ok (.aload_n 0, 1) := by decide +kernel
theorem dX7_sure_1 : decode cX7_sure 1 = .ok (.getfield 56, 3) := by decide +kernel
theorem dX7_sure_4 : decode cX7_sure 4 = .ok (.iload_n 3, 1) := by decide +kernel
theorem dX7_sure_5 : decode cX7_sure 5 = .ok (.invokevirtual 220, 3) := by decide +kernel
theorem dX7_sure_8 : decode cX7_sure 8 = .ok (.aload_n 0, 1) := by decide +kernel
theorem dX7_sure_9 : decode cX7_sure 9 = .ok (.getfield 19, 3) := by decide +kernel
theorem dX7_sure_12 : decode cX7_sure 12 = .ok (.iload_n 1, 1) := by decide +kernel
theorem dX7_sure_13 : decode cX7_sure 13 = .ok (.invokevirtual 125, 3) := by decide +kernel
theorem dX7_sure_16 : decode cX7_sure 16 = .ok (.ifCond .eq 31, 3) := by decide +kernel
theorem dX7_sure_19 : decode cX7_sure 19 = .ok (.aload_n 0, 1) := by decide +kernel
theorem dX7_sure_20 : decode cX7_sure 20 = .ok (.getfield 56, 3) := by decide +kernel
theorem dX7_sure_23 : decode cX7_sure 23 = .ok (.getfield 226, 3) := by decide +kernel
theorem dX7_sure_26 : decode cX7_sure 26 = .ok (.iconst (-1), 1) := by decide +kernel
theorem dX7_sure_27 : decode cX7_sure 27 = .ok (.if_icmp .eq 20, 3) := by decide +kernel
theorem dX7_sure_30 : decode cX7_sure 30 = .ok (.iload_n 2, 1) := by decide +kernel
theorem dX7_sure_31 : decode cX7_sure 31 = .ok (.aload_n 0, 1) := by decide +kernel
theorem dX7_sure_32 : decode cX7_sure 32 = .ok (.getfield 56, 3) := by decide +kernel
theorem dX7_sure_35 : decode cX7_sure 35 = .ok (.getfield 226, 3) := by decide +kernel
theorem dX7_sure_38 : decode cX7_sure 38 = .ok (.if_icmp .lt 9, 3) := by decide +kernel
theorem dX7_sure_41 : decode cX7_sure 41 = .ok (.iload_n 2, 1) := by decide +kernel
theorem dX7_sure_42 : decode cX7_sure 42 = .ok (.bipush 40, 2) := by decide +kernel
theorem dX7_sure_44 : decode cX7_sure 44 = .ok (.if_icmp .lt 5, 3) := by decide +kernel
theorem dX7_sure_47 : decode cX7_sure 47 = .ok (.iconst (-1), 1) := by decide +kernel
theorem dX7_sure_48 : decode cX7_sure 48 = .ok (.ireturn, 1) := by decide +kernel
theorem dX7_sure_49 : decode cX7_sure 49 = .ok (.iconst 0, 1) := by decide +kernel
theorem dX7_sure_50 : decode cX7_sure 50 = .ok (.istore 4, 2) := by decide +kernel
theorem dX7_sure_52 : decode cX7_sure 52 = .ok (.iconst 0, 1) := by decide +kernel
theorem dX7_sure_53 : decode cX7_sure 53 = .ok (.istore 5, 2) := by decide +kernel
theorem dX7_sure_55 : decode cX7_sure 55 = .ok (.iconst 0, 1) := by decide +kernel
theorem dX7_sure_56 : decode cX7_sure 56 = .ok (.istore 6, 2) := by decide +kernel
theorem dX7_sure_58 : decode cX7_sure 58 = .ok (.iload 6, 2) := by decide +kernel
theorem dX7_sure_60 : decode cX7_sure 60 = .ok (.sipush 324, 3) := by decide +kernel
theorem dX7_sure_63 : decode cX7_sure 63 = .ok (.if_icmp .ge 45, 3) := by decide +kernel
theorem dX7_sure_66 : decode cX7_sure 66 = .ok (.aload_n 0, 1) := by decide +kernel
theorem dX7_sure_67 : decode cX7_sure 67 = .ok (.iload 6, 2) := by decide +kernel
theorem dX7_sure_69 : decode cX7_sure 69 = .ok (.invokevirtual 223, 3) := by decide +kernel
theorem dX7_sure_72 : decode cX7_sure 72 = .ok (.ifCond .eq 30, 3) := by decide +kernel
theorem dX7_sure_75 : decode cX7_sure 75 = .ok (.iinc 4 1, 3) := by decide +kernel
theorem dX7_sure_78 : decode cX7_sure 78 = .ok (.iload 5, 2) := by decide +kernel
theorem dX7_sure_80 : decode cX7_sure 80 = .ok (.aload_n 0, 1) := by decide +kernel
theorem dX7_sure_81 : decode cX7_sure 81 = .ok (.getfield 56, 3) := by decide +kernel
theorem dX7_sure_84 : decode cX7_sure 84 = .ok (.aload_n 0, 1) := by decide +kernel
theorem dX7_sure_85 : decode cX7_sure 85 = .ok (.getfield 65, 3) := by decide +kernel
theorem dX7_sure_88 : decode cX7_sure 88 = .ok (.iload_n 2, 1) := by decide +kernel
theorem dX7_sure_89 : decode cX7_sure 89 = .ok (.invokevirtual 229, 3) := by decide +kernel
theorem dX7_sure_92 : decode cX7_sure 92 = .ok (.iload_n 1, 1) := by decide +kernel
theorem dX7_sure_93 : decode cX7_sure 93 = .ok (.invokestatic 132, 3) := by decide +kernel
theorem dX7_sure_96 : decode cX7_sure 96 = .ok (.invokestatic 146, 3) := by decide +kernel
theorem dX7_sure_99 : decode cX7_sure 99 = .ok (.iadd, 1) := by decide +kernel
theorem dX7_sure_100 : decode cX7_sure 100 = .ok (.istore 5, 2) := by decide +kernel
theorem dX7_sure_102 : decode cX7_sure 102 = .ok (.iinc 6 1, 3) := by decide +kernel
theorem dX7_sure_105 : decode cX7_sure 105 = .ok (.goto (-47), 3) := by decide +kernel
theorem dX7_sure_108 : decode cX7_sure 108 = .ok (.iload 4, 2) := by decide +kernel
theorem dX7_sure_110 : decode cX7_sure 110 = .ok (.ifCond .ne 5, 3) := by decide +kernel
theorem dX7_sure_113 : decode cX7_sure 113 = .ok (.iconst (-1), 1) := by decide +kernel
theorem dX7_sure_114 : decode cX7_sure 114 = .ok (.ireturn, 1) := by decide +kernel
theorem dX7_sure_115 : decode cX7_sure 115 = .ok (.iload 5, 2) := by decide +kernel
theorem dX7_sure_117 : decode cX7_sure 117 = .ok (.iload 4, 2) := by decide +kernel
theorem dX7_sure_119 : decode cX7_sure 119 = .ok (.if_icmp .ne 5, 3) := by decide +kernel
theorem dX7_sure_122 : decode cX7_sure 122 = .ok (.iconst 1, 1) := by decide +kernel
theorem dX7_sure_123 : decode cX7_sure 123 = .ok (.ireturn, 1) := by decide +kernel
theorem dX7_sure_124 : decode cX7_sure 124 = .ok (.iload 5, 2) := by decide +kernel
theorem dX7_sure_126 : decode cX7_sure 126 = .ok (.ifCond .ne 7, 3) := by decide +kernel
theorem dX7_sure_129 : decode cX7_sure 129 = .ok (.iconst 0, 1) := by decide +kernel
theorem dX7_sure_130 : decode cX7_sure 130 = .ok (.goto 4, 3) := by decide +kernel
theorem dX7_sure_133 : decode cX7_sure 133 = .ok (.iconst 2, 1) := by decide +kernel
theorem dX7_sure_134 : decode cX7_sure 134 = .ok (.ireturn, 1) := by decide +kernel
theorem dX7_same_0 : decode cX7_same 0 = .ok (.iload_n 1, 1) := by decide +kernel
theorem dX7_same_1 : decode cX7_same 1 = .ok (.ifCond .lt 21, 3) := by decide +kernel
theorem dX7_same_4 : decode cX7_same 4 = .ok (.iload_n 1, 1) := by decide +kernel
theorem dX7_same_5 : decode cX7_same 5 = .ok (.sipush 324, 3) := by decide +kernel
theorem dX7_same_8 : decode cX7_same 8 = .ok (.if_icmp .ge 14, 3) := by decide +kernel
theorem dX7_same_11 : decode cX7_same 11 = .ok (.iload_n 2, 1) := by decide +kernel
theorem dX7_same_12 : decode cX7_same 12 = .ok (.ifCond .lt 10, 3) := by decide +kernel
theorem dX7_same_15 : decode cX7_same 15 = .ok (.iload_n 2, 1) := by decide +kernel
theorem dX7_same_16 : decode cX7_same 16 = .ok (.sipush 324, 3) := by decide +kernel
theorem dX7_same_19 : decode cX7_same 19 = .ok (.if_icmp .lt 5, 3) := by decide +kernel
theorem dX7_same_22 : decode cX7_same 22 = .ok (.iconst (-1), 1) := by decide +kernel
theorem dX7_same_23 : decode cX7_same 23 = .ok (.ireturn, 1) := by decide +kernel
theorem dX7_same_24 : decode cX7_same 24 = .ok (.aload_n 0, 1) := by decide +kernel
theorem dX7_same_25 : decode cX7_same 25 = .ok (.getfield 65, 3) := by decide +kernel
theorem dX7_same_28 : decode cX7_same 28 = .ok (.iload_n 1, 1) := by decide +kernel
theorem dX7_same_29 : decode cX7_same 29 = .ok (.aload_n 0, 1) := by decide +kernel
theorem dX7_same_30 : decode cX7_same 30 = .ok (.getfield 19, 3) := by decide +kernel
theorem dX7_same_33 : decode cX7_same 33 = .ok (.invokevirtual 233, 3) := by decide +kernel
theorem dX7_same_36 : decode cX7_same 36 = .ok (.aload_n 0, 1) := by decide +kernel
theorem dX7_same_37 : decode cX7_same 37 = .ok (.getfield 69, 3) := by decide +kernel
theorem dX7_same_40 : decode cX7_same 40 = .ok (.iload_n 2, 1) := by decide +kernel
theorem dX7_same_41 : decode cX7_same 41 = .ok (.aload_n 0, 1) := by decide +kernel
theorem dX7_same_42 : decode cX7_same 42 = .ok (.getfield 19, 3) := by decide +kernel
theorem dX7_same_45 : decode cX7_same 45 = .ok (.invokevirtual 233, 3) := by decide +kernel
theorem dX7_same_48 : decode cX7_same 48 = .ok (.iconst 1, 1) := by decide +kernel
theorem dX7_same_49 : decode cX7_same 49 = .ok (.istore_n 3, 1) := by decide +kernel
theorem dX7_same_50 : decode cX7_same 50 = .ok (.iload_n 3, 1) := by decide +kernel
theorem dX7_same_51 : decode cX7_same 51 = .ok (.iconst 3, 1) := by decide +kernel
theorem dX7_same_52 : decode cX7_same 52 = .ok (.if_icmp .gt 61, 3) := by decide +kernel
theorem dX7_same_55 : decode cX7_same 55 = .ok (.iconst 0, 1) := by decide +kernel
theorem dX7_same_56 : decode cX7_same 56 = .ok (.istore 4, 2) := by decide +kernel
theorem dX7_same_58 : decode cX7_same 58 = .ok (.iload 4, 2) := by decide +kernel
theorem dX7_same_60 : decode cX7_same 60 = .ok (.aload_n 0, 1) := by decide +kernel
theorem dX7_same_61 : decode cX7_same 61 = .ok (.getfield 19, 3) := by decide +kernel
theorem dX7_same_64 : decode cX7_same 64 = .ok (.getfield 94, 3) := by decide +kernel
theorem dX7_same_67 : decode cX7_same 67 = .ok (.if_icmp .ge 40, 3) := by decide +kernel
theorem dX7_same_70 : decode cX7_same 70 = .ok (.aload_n 0, 1) := by decide +kernel
theorem dX7_same_71 : decode cX7_same 71 = .ok (.aload_n 0, 1) := by decide +kernel
theorem dX7_same_72 : decode cX7_same 72 = .ok (.getfield 19, 3) := by decide +kernel
theorem dX7_same_75 : decode cX7_same 75 = .ok (.iload 4, 2) := by decide +kernel
theorem dX7_same_77 : decode cX7_same 77 = .ok (.iload_n 3, 1) := by decide +kernel
theorem dX7_same_78 : decode cX7_same 78 = .ok (.invokevirtual 180, 3) := by decide +kernel
theorem dX7_same_81 : decode cX7_same 81 = .ok (.aload_n 0, 1) := by decide +kernel
theorem dX7_same_82 : decode cX7_same 82 = .ok (.getfield 19, 3) := by decide +kernel
theorem dX7_same_85 : decode cX7_same 85 = .ok (.getfield 129, 3) := by decide +kernel
theorem dX7_same_88 : decode cX7_same 88 = .ok (.ldc2_w 188, 3) := by decide +kernel
theorem dX7_same_91 : decode cX7_same 91 = .ok (.lxor, 1) := by decide +kernel
theorem dX7_same_92 : decode cX7_same 92 = .ok (.land, 1) := by decide +kernel
theorem dX7_same_93 : decode cX7_same 93 = .ok (.invokevirtual 237, 3) := by decide +kernel
theorem dX7_same_96 : decode cX7_same 96 = .ok (.ifCond .ne 5, 3) := by decide +kernel
theorem dX7_same_99 : decode cX7_same 99 = .ok (.iconst 0, 1) := by decide +kernel
theorem dX7_same_100 : decode cX7_same 100 = .ok (.ireturn, 1) := by decide +kernel
theorem dX7_same_101 : decode cX7_same 101 = .ok (.iinc 4 1, 3) := by decide +kernel
theorem dX7_same_104 : decode cX7_same 104 = .ok (.goto (-46), 3) := by decide +kernel
theorem dX7_same_107 : decode cX7_same 107 = .ok (.iinc 3 1, 3) := by decide +kernel
theorem dX7_same_110 : decode cX7_same 110 = .ok (.goto (-60), 3) := by decide +kernel
theorem dX7_same_113 : decode cX7_same 113 = .ok (.iconst 1, 1) := by decide +kernel
theorem dX7_same_114 : decode cX7_same 114 = .ok (.ireturn, 1) := by decide +kernel
theorem dX7_image_0 : decode cX7_image 0 = .ok (.aload_n 0, 1) := by decide +kernel
theorem dX7_image_1 : decode cX7_image 1 = .ok (.iload_n 1, 1) := by decide +kernel
theorem dX7_image_2 : decode cX7_image 2 = .ok (.invokevirtual 241, 3) := by decide +kernel
theorem dX7_image_5 : decode cX7_image 5 = .ok (.ifCond .ne 5, 3) := by decide +kernel
theorem dX7_image_8 : decode cX7_image 8 = .ok (.iconst (-1), 1) := by decide +kernel
theorem dX7_image_9 : decode cX7_image 9 = .ok (.ireturn, 1) := by decide +kernel
theorem dX7_image_10 : decode cX7_image 10 = .ok (.aload_n 0, 1) := by decide +kernel
theorem dX7_image_11 : decode cX7_image 11 = .ok (.getfield 45, 3) := by decide +kernel
theorem dX7_image_14 : decode cX7_image 14 = .ok (.iload_n 1, 1) := by decide +kernel
theorem dX7_image_15 : decode cX7_image 15 = .ok (.aaload, 1) := by decide +kernel
theorem dX7_image_16 : decode cX7_image 16 = .ok (.aload_n 0, 1) := by decide +kernel
theorem dX7_image_17 : decode cX7_image 17 = .ok (.getfield 38, 3) := by decide +kernel
theorem dX7_image_20 : decode cX7_image 20 = .ok (.invokevirtual 166, 3) := by decide +kernel
theorem dX7_image_23 : decode cX7_image 23 = .ok (.aload_n 0, 1) := by decide +kernel
theorem dX7_image_24 : decode cX7_image 24 = .ok (.getfield 49, 3) := by decide +kernel
theorem dX7_image_27 : decode cX7_image 27 = .ok (.iload_n 1, 1) := by decide +kernel
theorem dX7_image_28 : decode cX7_image 28 = .ok (.iconst 1, 1) := by decide +kernel
theorem dX7_image_29 : decode cX7_image 29 = .ok (.bastore, 1) := by decide +kernel
theorem dX7_image_30 : decode cX7_image 30 = .ok (.aload_n 0, 1) := by decide +kernel
theorem dX7_image_31 : decode cX7_image 31 = .ok (.getfield 38, 3) := by decide +kernel
theorem dX7_image_34 : decode cX7_image 34 = .ok (.getfield 112, 3) := by decide +kernel
theorem dX7_image_37 : decode cX7_image 37 = .ok (.ireturn, 1) := by decide +kernel
theorem dX7_back_0 : decode cX7_back 0 = .ok (.aload_n 0, 1) := by decide +kernel
theorem dX7_back_1 : decode cX7_back 1 = .ok (.iload_n 1, 1) := by decide +kernel
theorem dX7_back_2 : decode cX7_back 2 = .ok (.invokevirtual 241, 3) := by decide +kernel
theorem dX7_back_5 : decode cX7_back 5 = .ok (.ifCond .eq 12, 3) := by decide +kernel
theorem dX7_back_8 : decode cX7_back 8 = .ok (.aload_n 0, 1) := by decide +kernel
theorem dX7_back_9 : decode cX7_back 9 = .ok (.getfield 49, 3) := by decide +kernel
theorem dX7_back_12 : decode cX7_back 12 = .ok (.iload_n 1, 1) := by decide +kernel
theorem dX7_back_13 : decode cX7_back 13 = .ok (.baload, 1) := by decide +kernel
theorem dX7_back_14 : decode cX7_back 14 = .ok (.ifCond .ne 5, 3) := by decide +kernel
theorem dX7_back_17 : decode cX7_back 17 = .ok (.iconst (-1), 1) := by decide +kernel
theorem dX7_back_18 : decode cX7_back 18 = .ok (.ireturn, 1) := by decide +kernel
theorem dX7_back_19 : decode cX7_back 19 = .ok (.aload_n 0, 1) := by decide +kernel
theorem dX7_back_20 : decode cX7_back 20 = .ok (.getfield 38, 3) := by decide +kernel
theorem dX7_back_23 : decode cX7_back 23 = .ok (.aload_n 0, 1) := by decide +kernel
theorem dX7_back_24 : decode cX7_back 24 = .ok (.getfield 45, 3) := by decide +kernel
theorem dX7_back_27 : decode cX7_back 27 = .ok (.iload_n 1, 1) := by decide +kernel
theorem dX7_back_28 : decode cX7_back 28 = .ok (.aaload, 1) := by decide +kernel
theorem dX7_back_29 : decode cX7_back 29 = .ok (.invokevirtual 166, 3) := by decide +kernel
theorem dX7_back_32 : decode cX7_back 32 = .ok (.aload_n 0, 1) := by decide +kernel
theorem dX7_back_33 : decode cX7_back 33 = .ok (.getfield 38, 3) := by decide +kernel
theorem dX7_back_36 : decode cX7_back 36 = .ok (.getfield 112, 3) := by decide +kernel
theorem dX7_back_39 : decode cX7_back 39 = .ok (.ireturn, 1) := by decide +kernel
theorem dX7_seed_0 : decode cX7_seed 0 = .ok (.aload_n 0, 1) := by decide +kernel
theorem dX7_seed_1 : decode cX7_seed 1 = .ok (.getfield 38, 3) := by decide +kernel
theorem dX7_seed_4 : decode cX7_seed 4 = .ok (.getfield 244, 3) := by decide +kernel
theorem dX7_seed_7 : decode cX7_seed 7 = .ok (.istore_n 2, 1) := by decide +kernel
theorem dX7_seed_8 : decode cX7_seed 8 = .ok (.aload_n 0, 1) := by decide +kernel
theorem dX7_seed_9 : decode cX7_seed 9 = .ok (.getfield 38, 3) := by decide +kernel
theorem dX7_seed_12 : decode cX7_seed 12 = .ok (.iload_n 1, 1) := by decide +kernel
theorem dX7_seed_13 : decode cX7_seed 13 = .ok (.putfield 244, 3) := by decide +kernel
theorem dX7_seed_16 : decode cX7_seed 16 = .ok (.iload_n 2, 1) := by decide +kernel
theorem dX7_seed_17 : decode cX7_seed 17 = .ok (.ireturn, 1) := by decide +kernel
theorem dX7_about_0 : decode cX7_about 0 = .ok (.iload_n 1, 1) := by decide +kernel
theorem dX7_about_1 : decode cX7_about 1 = .ok (.tableswitch 129 0 8 #[51, 59, 67, 75, 86, 94, 102, 110, 118], 51) := by decide +kernel
theorem dX7_about_52 : decode cX7_about 52 = .ok (.aload_n 0, 1) := by decide +kernel
theorem dX7_about_53 : decode cX7_about 53 = .ok (.getfield 19, 3) := by decide +kernel
theorem dX7_about_56 : decode cX7_about 56 = .ok (.getfield 94, 3) := by decide +kernel
theorem dX7_about_59 : decode cX7_about 59 = .ok (.ireturn, 1) := by decide +kernel
theorem dX7_about_60 : decode cX7_about 60 = .ok (.aload_n 0, 1) := by decide +kernel
theorem dX7_about_61 : decode cX7_about 61 = .ok (.getfield 38, 3) := by decide +kernel
theorem dX7_about_64 : decode cX7_about 64 = .ok (.getfield 112, 3) := by decide +kernel
theorem dX7_about_67 : decode cX7_about 67 = .ok (.ireturn, 1) := by decide +kernel
theorem dX7_about_68 : decode cX7_about 68 = .ok (.aload_n 0, 1) := by decide +kernel
theorem dX7_about_69 : decode cX7_about 69 = .ok (.getfield 38, 3) := by decide +kernel
theorem dX7_about_72 : decode cX7_about 72 = .ok (.getfield 247, 3) := by decide +kernel
theorem dX7_about_75 : decode cX7_about 75 = .ok (.ireturn, 1) := by decide +kernel
theorem dX7_about_76 : decode cX7_about 76 = .ok (.aload_n 0, 1) := by decide +kernel
theorem dX7_about_77 : decode cX7_about 77 = .ok (.getfield 38, 3) := by decide +kernel
theorem dX7_about_80 : decode cX7_about 80 = .ok (.getfield 157, 3) := by decide +kernel
theorem dX7_about_83 : decode cX7_about 83 = .ok (.invokestatic 119, 3) := by decide +kernel
theorem dX7_about_86 : decode cX7_about 86 = .ok (.ireturn, 1) := by decide +kernel
theorem dX7_about_87 : decode cX7_about 87 = .ok (.aload_n 0, 1) := by decide +kernel
theorem dX7_about_88 : decode cX7_about 88 = .ok (.getfield 56, 3) := by decide +kernel
theorem dX7_about_91 : decode cX7_about 91 = .ok (.getfield 250, 3) := by decide +kernel
theorem dX7_about_94 : decode cX7_about 94 = .ok (.ireturn, 1) := by decide +kernel
theorem dX7_about_95 : decode cX7_about 95 = .ok (.aload_n 0, 1) := by decide +kernel
theorem dX7_about_96 : decode cX7_about 96 = .ok (.getfield 56, 3) := by decide +kernel
theorem dX7_about_99 : decode cX7_about 99 = .ok (.getfield 217, 3) := by decide +kernel
theorem dX7_about_102 : decode cX7_about 102 = .ok (.ireturn, 1) := by decide +kernel
theorem dX7_about_103 : decode cX7_about 103 = .ok (.aload_n 0, 1) := by decide +kernel
theorem dX7_about_104 : decode cX7_about 104 = .ok (.getfield 12, 3) := by decide +kernel
theorem dX7_about_107 : decode cX7_about 107 = .ok (.getfield 76, 3) := by decide +kernel
theorem dX7_about_110 : decode cX7_about 110 = .ok (.ireturn, 1) := by decide +kernel
theorem dX7_about_111 : decode cX7_about 111 = .ok (.aload_n 0, 1) := by decide +kernel
theorem dX7_about_112 : decode cX7_about 112 = .ok (.getfield 38, 3) := by decide +kernel
theorem dX7_about_115 : decode cX7_about 115 = .ok (.getfield 244, 3) := by decide +kernel
theorem dX7_about_118 : decode cX7_about 118 = .ok (.ireturn, 1) := by decide +kernel
theorem dX7_about_119 : decode cX7_about 119 = .ok (.aload_n 0, 1) := by decide +kernel
theorem dX7_about_120 : decode cX7_about 120 = .ok (.getfield 19, 3) := by decide +kernel
theorem dX7_about_123 : decode cX7_about 123 = .ok (.getfield 253, 3) := by decide +kernel
theorem dX7_about_126 : decode cX7_about 126 = .ok (.getfield 257, 3) := by decide +kernel
theorem dX7_about_129 : decode cX7_about 129 = .ok (.ireturn, 1) := by decide +kernel
theorem dX7_about_130 : decode cX7_about 130 = .ok (.iconst (-1), 1) := by decide +kernel
theorem dX7_about_131 : decode cX7_about 131 = .ok (.ireturn, 1) := by decide +kernel
theorem dX7_isBox_0 : decode cX7_isBox 0 = .ok (.iload_n 1, 1) := by decide +kernel
theorem dX7_isBox_1 : decode cX7_isBox 1 = .ok (.ifCond .lt 21, 3) := by decide +kernel
theorem dX7_isBox_4 : decode cX7_isBox 4 = .ok (.iload_n 1, 1) := by decide +kernel
theorem dX7_isBox_5 : decode cX7_isBox 5 = .ok (.iconst 3, 1) := by decide +kernel
theorem dX7_isBox_6 : decode cX7_isBox 6 = .ok (.if_icmp .ge 16, 3) := by decide +kernel
theorem dX7_isBox_9 : decode cX7_isBox 9 = .ok (.aload_n 0, 1) := by decide +kernel
theorem dX7_isBox_10 : decode cX7_isBox 10 = .ok (.getfield 45, 3) := by decide +kernel
theorem dX7_isBox_13 : decode cX7_isBox 13 = .ok (.iload_n 1, 1) := by decide +kernel
theorem dX7_isBox_14 : decode cX7_isBox 14 = .ok (.aaload, 1) := by decide +kernel
theorem dX7_isBox_15 : decode cX7_isBox 15 = .ok (.ifnull 7, 3) := by decide +kernel
theorem dX7_isBox_18 : decode cX7_isBox 18 = .ok (.iconst 1, 1) := by decide +kernel
theorem dX7_isBox_19 : decode cX7_isBox 19 = .ok (.goto 4, 3) := by decide +kernel
theorem dX7_isBox_22 : decode cX7_isBox 22 = .ok (.iconst 0, 1) := by decide +kernel
theorem dX7_isBox_23 : decode cX7_isBox 23 = .ok (.ireturn, 1) := by decide +kernel
theorem dX7_canTry_0 : decode cX7_canTry 0 = .ok (.iload_n 1, 1) := by decide +kernel
theorem dX7_canTry_1 : decode cX7_canTry 1 = .ok (.iconst 1, 1) := by decide +kernel
theorem dX7_canTry_2 : decode cX7_canTry 2 = .ok (.if_icmp .lt 24, 3) := by decide +kernel
theorem dX7_canTry_5 : decode cX7_canTry 5 = .ok (.iload_n 1, 1) := by decide +kernel
theorem dX7_canTry_6 : decode cX7_canTry 6 = .ok (.bipush 12, 2) := by decide +kernel
theorem dX7_canTry_8 : decode cX7_canTry 8 = .ok (.if_icmp .gt 18, 3) := by decide +kernel
theorem dX7_canTry_11 : decode cX7_canTry 11 = .ok (.iload_n 1, 1) := by decide +kernel
theorem dX7_canTry_12 : decode cX7_canTry 12 = .ok (.aload_n 0, 1) := by decide +kernel
theorem dX7_canTry_13 : decode cX7_canTry 13 = .ok (.getfield 19, 3) := by decide +kernel
theorem dX7_canTry_16 : decode cX7_canTry 16 = .ok (.getfield 94, 3) := by decide +kernel
theorem dX7_canTry_19 : decode cX7_canTry 19 = .ok (.if_icmp .gt 7, 3) := by decide +kernel
theorem dX7_canTry_22 : decode cX7_canTry 22 = .ok (.iconst 1, 1) := by decide +kernel
theorem dX7_canTry_23 : decode cX7_canTry 23 = .ok (.goto 4, 3) := by decide +kernel
theorem dX7_canTry_26 : decode cX7_canTry 26 = .ok (.iconst 0, 1) := by decide +kernel
theorem dX7_canTry_27 : decode cX7_canTry 27 = .ok (.ireturn, 1) := by decide +kernel
theorem dX7_lifeOf_0 : decode cX7_lifeOf 0 = .ok (.aload_n 0, 1) := by decide +kernel
theorem dX7_lifeOf_1 : decode cX7_lifeOf 1 = .ok (.getfield 42, 3) := by decide +kernel
theorem dX7_lifeOf_4 : decode cX7_lifeOf 4 = .ok (.invokevirtual 88, 3) := by decide +kernel
theorem dX7_lifeOf_7 : decode cX7_lifeOf 7 = .ok (.aload_n 0, 1) := by decide +kernel
theorem dX7_lifeOf_8 : decode cX7_lifeOf 8 = .ok (.getfield 42, 3) := by decide +kernel
theorem dX7_lifeOf_11 : decode cX7_lifeOf 11 = .ok (.aload_n 0, 1) := by decide +kernel
theorem dX7_lifeOf_12 : decode cX7_lifeOf 12 = .ok (.getfield 19, 3) := by decide +kernel
theorem dX7_lifeOf_15 : decode cX7_lifeOf 15 = .ok (.lload_n 1, 1) := by decide +kernel
theorem dX7_lifeOf_16 : decode cX7_lifeOf 16 = .ok (.invokevirtual 107, 3) := by decide +kernel
theorem dX7_lifeOf_19 : decode cX7_lifeOf 19 = .ok (.pop, 1) := by decide +kernel
theorem dX7_lifeOf_20 : decode cX7_lifeOf 20 = .ok (.aload_n 0, 1) := by decide +kernel
theorem dX7_lifeOf_21 : decode cX7_lifeOf 21 = .ok (.getfield 42, 3) := by decide +kernel
theorem dX7_lifeOf_24 : decode cX7_lifeOf 24 = .ok (.aload_n 0, 1) := by decide +kernel
theorem dX7_lifeOf_25 : decode cX7_lifeOf 25 = .ok (.getfield 19, 3) := by decide +kernel
theorem dX7_lifeOf_28 : decode cX7_lifeOf 28 = .ok (.lload_n 3, 1) := by decide +kernel
theorem dX7_lifeOf_29 : decode cX7_lifeOf 29 = .ok (.sipush 200, 3) := by decide +kernel
theorem dX7_lifeOf_32 : decode cX7_lifeOf 32 = .ok (.invokevirtual 173, 3) := by decide +kernel
theorem dX7_lifeOf_35 : decode cX7_lifeOf 35 = .ok (.ireturn, 1) := by decide +kernel
theorem dX7_chancesOfAtLeast_0 : decode cX7_chancesOfAtLeast 0 = .ok (.iconst 0, 1) := by decide +kernel
theorem dX7_chancesOfAtLeast_1 : decode cX7_chancesOfAtLeast 1 = .ok (.istore_n 3, 1) := by decide +kernel
theorem dX7_chancesOfAtLeast_2 : decode cX7_chancesOfAtLeast 2 = .ok (.iload_n 3, 1) := by decide +kernel
theorem dX7_chancesOfAtLeast_3 : decode cX7_chancesOfAtLeast 3 = .ok (.aload_n 0, 1) := by decide +kernel
theorem dX7_chancesOfAtLeast_4 : decode cX7_chancesOfAtLeast 4 = .ok (.getfield 72, 3) := by decide +kernel
theorem dX7_chancesOfAtLeast_7 : decode cX7_chancesOfAtLeast 7 = .ok (.arraylength, 1) := by decide +kernel
theorem dX7_chancesOfAtLeast_8 : decode cX7_chancesOfAtLeast 8 = .ok (.if_icmp .ge 24, 3) := by decide +kernel
theorem dX7_chancesOfAtLeast_11 : decode cX7_chancesOfAtLeast 11 = .ok (.aload_n 0, 1) := by decide +kernel
theorem dX7_chancesOfAtLeast_12 : decode cX7_chancesOfAtLeast 12 = .ok (.getfield 72, 3) := by decide +kernel
theorem dX7_chancesOfAtLeast_15 : decode cX7_chancesOfAtLeast 15 = .ok (.iload_n 3, 1) := by decide +kernel
theorem dX7_chancesOfAtLeast_16 : decode cX7_chancesOfAtLeast 16 = .ok (.iload_n 3, 1) := by decide +kernel
theorem dX7_chancesOfAtLeast_17 : decode cX7_chancesOfAtLeast 17 = .ok (.ifCond .ne 7, 3) := by decide +kernel
theorem dX7_chancesOfAtLeast_20 : decode cX7_chancesOfAtLeast 20 = .ok (.lconst 1, 1) := by decide +kernel
theorem dX7_chancesOfAtLeast_21 : decode cX7_chancesOfAtLeast 21 = .ok (.goto 4, 3) := by decide +kernel
theorem dX7_chancesOfAtLeast_24 : decode cX7_chancesOfAtLeast 24 = .ok (.lconst 0, 1) := by decide +kernel
theorem dX7_chancesOfAtLeast_25 : decode cX7_chancesOfAtLeast 25 = .ok (.lastore, 1) := by decide +kernel
theorem dX7_chancesOfAtLeast_26 : decode cX7_chancesOfAtLeast 26 = .ok (.iinc 3 1, 3) := by decide +kernel
theorem dX7_chancesOfAtLeast_29 : decode cX7_chancesOfAtLeast 29 = .ok (.goto (-27), 3) := by decide +kernel
theorem dX7_chancesOfAtLeast_32 : decode cX7_chancesOfAtLeast 32 = .ok (.iconst 0, 1) := by decide +kernel
theorem dX7_chancesOfAtLeast_33 : decode cX7_chancesOfAtLeast 33 = .ok (.istore_n 3, 1) := by decide +kernel
theorem dX7_chancesOfAtLeast_34 : decode cX7_chancesOfAtLeast 34 = .ok (.iload_n 3, 1) := by decide +kernel
theorem dX7_chancesOfAtLeast_35 : decode cX7_chancesOfAtLeast 35 = .ok (.iload_n 2, 1) := by decide +kernel
theorem dX7_chancesOfAtLeast_36 : decode cX7_chancesOfAtLeast 36 = .ok (.if_icmp .ge 87, 3) := by decide +kernel
theorem dX7_chancesOfAtLeast_39 : decode cX7_chancesOfAtLeast 39 = .ok (.aload_n 0, 1) := by decide +kernel
theorem dX7_chancesOfAtLeast_40 : decode cX7_chancesOfAtLeast 40 = .ok (.getfield 72, 3) := by decide +kernel
theorem dX7_chancesOfAtLeast_43 : decode cX7_chancesOfAtLeast 43 = .ok (.arraylength, 1) := by decide +kernel
theorem dX7_chancesOfAtLeast_44 : decode cX7_chancesOfAtLeast 44 = .ok (.iconst 1, 1) := by decide +kernel
theorem dX7_chancesOfAtLeast_45 : decode cX7_chancesOfAtLeast 45 = .ok (.isub, 1) := by decide +kernel
theorem dX7_chancesOfAtLeast_46 : decode cX7_chancesOfAtLeast 46 = .ok (.istore 4, 2) := by decide +kernel
theorem dX7_chancesOfAtLeast_48 : decode cX7_chancesOfAtLeast 48 = .ok (.iload 4, 2) := by decide +kernel
theorem dX7_chancesOfAtLeast_50 : decode cX7_chancesOfAtLeast 50 = .ok (.ifCond .lt 67, 3) := by decide +kernel
theorem dX7_chancesOfAtLeast_53 : decode cX7_chancesOfAtLeast 53 = .ok (.iload 4, 2) := by decide +kernel
theorem dX7_chancesOfAtLeast_55 : decode cX7_chancesOfAtLeast 55 = .ok (.ifCond .le 15, 3) := by decide +kernel
theorem dX7_chancesOfAtLeast_58 : decode cX7_chancesOfAtLeast 58 = .ok (.aload_n 0, 1) := by decide +kernel
theorem dX7_chancesOfAtLeast_59 : decode cX7_chancesOfAtLeast 59 = .ok (.getfield 72, 3) := by decide +kernel
theorem dX7_chancesOfAtLeast_62 : decode cX7_chancesOfAtLeast 62 = .ok (.iload 4, 2) := by decide +kernel
theorem dX7_chancesOfAtLeast_64 : decode cX7_chancesOfAtLeast 64 = .ok (.iconst 1, 1) := by decide +kernel
theorem dX7_chancesOfAtLeast_65 : decode cX7_chancesOfAtLeast 65 = .ok (.isub, 1) := by decide +kernel
theorem dX7_chancesOfAtLeast_66 : decode cX7_chancesOfAtLeast 66 = .ok (.laload, 1) := by decide +kernel
theorem dX7_chancesOfAtLeast_67 : decode cX7_chancesOfAtLeast 67 = .ok (.goto 4, 3) := by decide +kernel
theorem dX7_chancesOfAtLeast_70 : decode cX7_chancesOfAtLeast 70 = .ok (.lconst 0, 1) := by decide +kernel
theorem dX7_chancesOfAtLeast_71 : decode cX7_chancesOfAtLeast 71 = .ok (.lstore 5, 2) := by decide +kernel
theorem dX7_chancesOfAtLeast_73 : decode cX7_chancesOfAtLeast 73 = .ok (.aload_n 0, 1) := by decide +kernel
theorem dX7_chancesOfAtLeast_74 : decode cX7_chancesOfAtLeast 74 = .ok (.getfield 72, 3) := by decide +kernel
theorem dX7_chancesOfAtLeast_77 : decode cX7_chancesOfAtLeast 77 = .ok (.iload 4, 2) := by decide +kernel
theorem dX7_chancesOfAtLeast_79 : decode cX7_chancesOfAtLeast 79 = .ok (.aload_n 0, 1) := by decide +kernel
theorem dX7_chancesOfAtLeast_80 : decode cX7_chancesOfAtLeast 80 = .ok (.getfield 72, 3) := by decide +kernel
theorem dX7_chancesOfAtLeast_83 : decode cX7_chancesOfAtLeast 83 = .ok (.iload 4, 2) := by decide +kernel
theorem dX7_chancesOfAtLeast_85 : decode cX7_chancesOfAtLeast 85 = .ok (.laload, 1) := by decide +kernel
theorem dX7_chancesOfAtLeast_86 : decode cX7_chancesOfAtLeast 86 = .ok (.aload_n 0, 1) := by decide +kernel
theorem dX7_chancesOfAtLeast_87 : decode cX7_chancesOfAtLeast 87 = .ok (.getfield 19, 3) := by decide +kernel
theorem dX7_chancesOfAtLeast_90 : decode cX7_chancesOfAtLeast 90 = .ok (.getfield 262, 3) := by decide +kernel
theorem dX7_chancesOfAtLeast_93 : decode cX7_chancesOfAtLeast 93 = .ok (.i2l, 1) := by decide +kernel
theorem dX7_chancesOfAtLeast_94 : decode cX7_chancesOfAtLeast 94 = .ok (.lmul, 1) := by decide +kernel
theorem dX7_chancesOfAtLeast_95 : decode cX7_chancesOfAtLeast 95 = .ok (.lload 5, 2) := by decide +kernel
theorem dX7_chancesOfAtLeast_97 : decode cX7_chancesOfAtLeast 97 = .ok (.bipush 10, 2) := by decide +kernel
theorem dX7_chancesOfAtLeast_99 : decode cX7_chancesOfAtLeast 99 = .ok (.aload_n 0, 1) := by decide +kernel
theorem dX7_chancesOfAtLeast_100 : decode cX7_chancesOfAtLeast 100 = .ok (.getfield 19, 3) := by decide +kernel
theorem dX7_chancesOfAtLeast_103 : decode cX7_chancesOfAtLeast 103 = .ok (.getfield 262, 3) := by decide +kernel
theorem dX7_chancesOfAtLeast_106 : decode cX7_chancesOfAtLeast 106 = .ok (.isub, 1) := by decide +kernel
theorem dX7_chancesOfAtLeast_107 : decode cX7_chancesOfAtLeast 107 = .ok (.i2l, 1) := by decide +kernel
theorem dX7_chancesOfAtLeast_108 : decode cX7_chancesOfAtLeast 108 = .ok (.lmul, 1) := by decide +kernel
theorem dX7_chancesOfAtLeast_109 : decode cX7_chancesOfAtLeast 109 = .ok (.ladd, 1) := by decide +kernel
theorem dX7_chancesOfAtLeast_110 : decode cX7_chancesOfAtLeast 110 = .ok (.lastore, 1) := by decide +kernel
theorem dX7_chancesOfAtLeast_111 : decode cX7_chancesOfAtLeast 111 = .ok (.iinc 4 (-1), 3) := by decide +kernel
theorem dX7_chancesOfAtLeast_114 : decode cX7_chancesOfAtLeast 114 = .ok (.goto (-66), 3) := by decide +kernel
theorem dX7_chancesOfAtLeast_117 : decode cX7_chancesOfAtLeast 117 = .ok (.iinc 3 1, 3) := by decide +kernel
theorem dX7_chancesOfAtLeast_120 : decode cX7_chancesOfAtLeast 120 = .ok (.goto (-86), 3) := by decide +kernel
theorem dX7_chancesOfAtLeast_123 : decode cX7_chancesOfAtLeast 123 = .ok (.lconst 0, 1) := by decide +kernel
theorem dX7_chancesOfAtLeast_124 : decode cX7_chancesOfAtLeast 124 = .ok (.lstore_n 3, 1) := by decide +kernel
theorem dX7_chancesOfAtLeast_125 : decode cX7_chancesOfAtLeast 125 = .ok (.iconst 0, 1) := by decide +kernel
theorem dX7_chancesOfAtLeast_126 : decode cX7_chancesOfAtLeast 126 = .ok (.istore 5, 2) := by decide +kernel
theorem dX7_chancesOfAtLeast_128 : decode cX7_chancesOfAtLeast 128 = .ok (.iload 5, 2) := by decide +kernel
theorem dX7_chancesOfAtLeast_130 : decode cX7_chancesOfAtLeast 130 = .ok (.aload_n 0, 1) := by decide +kernel
theorem dX7_chancesOfAtLeast_131 : decode cX7_chancesOfAtLeast 131 = .ok (.getfield 72, 3) := by decide +kernel
theorem dX7_chancesOfAtLeast_134 : decode cX7_chancesOfAtLeast 134 = .ok (.arraylength, 1) := by decide +kernel
theorem dX7_chancesOfAtLeast_135 : decode cX7_chancesOfAtLeast 135 = .ok (.if_icmp .ge 29, 3) := by decide +kernel
theorem dX7_chancesOfAtLeast_138 : decode cX7_chancesOfAtLeast 138 = .ok (.lload_n 3, 1) := by decide +kernel
theorem dX7_chancesOfAtLeast_139 : decode cX7_chancesOfAtLeast 139 = .ok (.iload 5, 2) := by decide +kernel
theorem dX7_chancesOfAtLeast_141 : decode cX7_chancesOfAtLeast 141 = .ok (.iload_n 1, 1) := by decide +kernel
theorem dX7_chancesOfAtLeast_142 : decode cX7_chancesOfAtLeast 142 = .ok (.if_icmp .lt 13, 3) := by decide +kernel
theorem dX7_chancesOfAtLeast_145 : decode cX7_chancesOfAtLeast 145 = .ok (.aload_n 0, 1) := by decide +kernel
theorem dX7_chancesOfAtLeast_146 : decode cX7_chancesOfAtLeast 146 = .ok (.getfield 72, 3) := by decide +kernel
theorem dX7_chancesOfAtLeast_149 : decode cX7_chancesOfAtLeast 149 = .ok (.iload 5, 2) := by decide +kernel
theorem dX7_chancesOfAtLeast_151 : decode cX7_chancesOfAtLeast 151 = .ok (.laload, 1) := by decide +kernel
theorem dX7_chancesOfAtLeast_152 : decode cX7_chancesOfAtLeast 152 = .ok (.goto 4, 3) := by decide +kernel
theorem dX7_chancesOfAtLeast_155 : decode cX7_chancesOfAtLeast 155 = .ok (.lconst 0, 1) := by decide +kernel
theorem dX7_chancesOfAtLeast_156 : decode cX7_chancesOfAtLeast 156 = .ok (.ladd, 1) := by decide +kernel
theorem dX7_chancesOfAtLeast_157 : decode cX7_chancesOfAtLeast 157 = .ok (.lstore_n 3, 1) := by decide +kernel
theorem dX7_chancesOfAtLeast_158 : decode cX7_chancesOfAtLeast 158 = .ok (.iinc 5 1, 3) := by decide +kernel
theorem dX7_chancesOfAtLeast_161 : decode cX7_chancesOfAtLeast 161 = .ok (.goto (-33), 3) := by decide +kernel
theorem dX7_chancesOfAtLeast_164 : decode cX7_chancesOfAtLeast 164 = .ok (.lload_n 3, 1) := by decide +kernel
theorem dX7_chancesOfAtLeast_165 : decode cX7_chancesOfAtLeast 165 = .ok (.lreturn, 1) := by decide +kernel
theorem dX7_greatestDivisor_0 : decode cX7_greatestDivisor 0 = .ok (.lload_n 0, 1) := by decide +kernel
theorem dX7_greatestDivisor_1 : decode cX7_greatestDivisor 1 = .ok (.lstore 4, 2) := by decide +kernel
theorem dX7_greatestDivisor_3 : decode cX7_greatestDivisor 3 = .ok (.lload_n 2, 1) := by decide +kernel
theorem dX7_greatestDivisor_4 : decode cX7_greatestDivisor 4 = .ok (.lstore 6, 2) := by decide +kernel
theorem dX7_greatestDivisor_6 : decode cX7_greatestDivisor 6 = .ok (.iconst 0, 1) := by decide +kernel
theorem dX7_greatestDivisor_7 : decode cX7_greatestDivisor 7 = .ok (.istore 8, 2) := by decide +kernel
theorem dX7_greatestDivisor_9 : decode cX7_greatestDivisor 9 = .ok (.iload 8, 2) := by decide +kernel
theorem dX7_greatestDivisor_11 : decode cX7_greatestDivisor 11 = .ok (.sipush 128, 3) := by decide +kernel
theorem dX7_greatestDivisor_14 : decode cX7_greatestDivisor 14 = .ok (.if_icmp .ge 31, 3) := by decide +kernel
theorem dX7_greatestDivisor_17 : decode cX7_greatestDivisor 17 = .ok (.lload 6, 2) := by decide +kernel
theorem dX7_greatestDivisor_19 : decode cX7_greatestDivisor 19 = .ok (.lconst 0, 1) := by decide +kernel
theorem dX7_greatestDivisor_20 : decode cX7_greatestDivisor 20 = .ok (.lcmp, 1) := by decide +kernel
theorem dX7_greatestDivisor_21 : decode cX7_greatestDivisor 21 = .ok (.ifCond .eq 24, 3) := by decide +kernel
theorem dX7_greatestDivisor_24 : decode cX7_greatestDivisor 24 = .ok (.lload 4, 2) := by decide +kernel
theorem dX7_greatestDivisor_26 : decode cX7_greatestDivisor 26 = .ok (.lload 6, 2) := by decide +kernel
theorem dX7_greatestDivisor_28 : decode cX7_greatestDivisor 28 = .ok (.lrem, 1) := by decide +kernel
theorem dX7_greatestDivisor_29 : decode cX7_greatestDivisor 29 = .ok (.lstore 9, 2) := by decide +kernel
theorem dX7_greatestDivisor_31 : decode cX7_greatestDivisor 31 = .ok (.lload 6, 2) := by decide +kernel
theorem dX7_greatestDivisor_33 : decode cX7_greatestDivisor 33 = .ok (.lstore 4, 2) := by decide +kernel
theorem dX7_greatestDivisor_35 : decode cX7_greatestDivisor 35 = .ok (.lload 9, 2) := by decide +kernel
theorem dX7_greatestDivisor_37 : decode cX7_greatestDivisor 37 = .ok (.lstore 6, 2) := by decide +kernel
theorem dX7_greatestDivisor_39 : decode cX7_greatestDivisor 39 = .ok (.iinc 8 1, 3) := by decide +kernel
theorem dX7_greatestDivisor_42 : decode cX7_greatestDivisor 42 = .ok (.goto (-33), 3) := by decide +kernel
theorem dX7_greatestDivisor_45 : decode cX7_greatestDivisor 45 = .ok (.lload 4, 2) := by decide +kernel
theorem dX7_greatestDivisor_47 : decode cX7_greatestDivisor 47 = .ok (.lreturn, 1) := by decide +kernel
theorem dX7_letByFilms_0 : decode cX7_letByFilms 0 = .ok (.aload_n 0, 1) := by decide +kernel
theorem dX7_letByFilms_1 : decode cX7_letByFilms 1 = .ok (.getfield 65, 3) := by decide +kernel
theorem dX7_letByFilms_4 : decode cX7_letByFilms 4 = .ok (.iload_n 1, 1) := by decide +kernel
theorem dX7_letByFilms_5 : decode cX7_letByFilms 5 = .ok (.aload_n 0, 1) := by decide +kernel
theorem dX7_letByFilms_6 : decode cX7_letByFilms 6 = .ok (.getfield 19, 3) := by decide +kernel
theorem dX7_letByFilms_9 : decode cX7_letByFilms 9 = .ok (.invokevirtual 233, 3) := by decide +kernel
theorem dX7_letByFilms_12 : decode cX7_letByFilms 12 = .ok (.aload_n 0, 1) := by decide +kernel
theorem dX7_letByFilms_13 : decode cX7_letByFilms 13 = .ok (.getfield 56, 3) := by decide +kernel
theorem dX7_letByFilms_16 : decode cX7_letByFilms 16 = .ok (.aload_n 0, 1) := by decide +kernel
theorem dX7_letByFilms_17 : decode cX7_letByFilms 17 = .ok (.getfield 65, 3) := by decide +kernel
theorem dX7_letByFilms_20 : decode cX7_letByFilms 20 = .ok (.invokevirtual 265, 3) := by decide +kernel
theorem dX7_letByFilms_23 : decode cX7_letByFilms 23 = .ok (.ireturn, 1) := by decide +kernel
theorem dX7_goAlike_0 : decode cX7_goAlike 0 = .ok (.aload_n 0, 1) := by decide +kernel
theorem dX7_goAlike_1 : decode cX7_goAlike 1 = .ok (.getfield 65, 3) := by decide +kernel
theorem dX7_goAlike_4 : decode cX7_goAlike 4 = .ok (.lload_n 1, 1) := by decide +kernel
theorem dX7_goAlike_5 : decode cX7_goAlike 5 = .ok (.invokevirtual 269, 3) := by decide +kernel
theorem dX7_goAlike_8 : decode cX7_goAlike 8 = .ok (.aload_n 0, 1) := by decide +kernel
theorem dX7_goAlike_9 : decode cX7_goAlike 9 = .ok (.getfield 69, 3) := by decide +kernel
theorem dX7_goAlike_12 : decode cX7_goAlike 12 = .ok (.lload_n 1, 1) := by decide +kernel
theorem dX7_goAlike_13 : decode cX7_goAlike 13 = .ok (.invokevirtual 269, 3) := by decide +kernel
theorem dX7_goAlike_16 : decode cX7_goAlike 16 = .ok (.iconst 0, 1) := by decide +kernel
theorem dX7_goAlike_17 : decode cX7_goAlike 17 = .ok (.istore_n 3, 1) := by decide +kernel
theorem dX7_goAlike_18 : decode cX7_goAlike 18 = .ok (.iload_n 3, 1) := by decide +kernel
theorem dX7_goAlike_19 : decode cX7_goAlike 19 = .ok (.bipush 60, 2) := by decide +kernel
theorem dX7_goAlike_21 : decode cX7_goAlike 21 = .ok (.if_icmp .ge 43, 3) := by decide +kernel
theorem dX7_goAlike_24 : decode cX7_goAlike 24 = .ok (.aload_n 0, 1) := by decide +kernel
theorem dX7_goAlike_25 : decode cX7_goAlike 25 = .ok (.getfield 65, 3) := by decide +kernel
theorem dX7_goAlike_28 : decode cX7_goAlike 28 = .ok (.invokevirtual 273, 3) := by decide +kernel
theorem dX7_goAlike_31 : decode cX7_goAlike 31 = .ok (.aload_n 0, 1) := by decide +kernel
theorem dX7_goAlike_32 : decode cX7_goAlike 32 = .ok (.getfield 69, 3) := by decide +kernel
theorem dX7_goAlike_35 : decode cX7_goAlike 35 = .ok (.invokevirtual 273, 3) := by decide +kernel
theorem dX7_goAlike_38 : decode cX7_goAlike 38 = .ok (.aload_n 0, 1) := by decide +kernel
theorem dX7_goAlike_39 : decode cX7_goAlike 39 = .ok (.getfield 65, 3) := by decide +kernel
theorem dX7_goAlike_42 : decode cX7_goAlike 42 = .ok (.invokevirtual 276, 3) := by decide +kernel
theorem dX7_goAlike_45 : decode cX7_goAlike 45 = .ok (.aload_n 0, 1) := by decide +kernel
theorem dX7_goAlike_46 : decode cX7_goAlike 46 = .ok (.getfield 69, 3) := by decide +kernel
theorem dX7_goAlike_49 : decode cX7_goAlike 49 = .ok (.invokevirtual 276, 3) := by decide +kernel
theorem dX7_goAlike_52 : decode cX7_goAlike 52 = .ok (.lcmp, 1) := by decide +kernel
theorem dX7_goAlike_53 : decode cX7_goAlike 53 = .ok (.ifCond .eq 5, 3) := by decide +kernel
theorem dX7_goAlike_56 : decode cX7_goAlike 56 = .ok (.iconst 0, 1) := by decide +kernel
theorem dX7_goAlike_57 : decode cX7_goAlike 57 = .ok (.ireturn, 1) := by decide +kernel
theorem dX7_goAlike_58 : decode cX7_goAlike 58 = .ok (.iinc 3 1, 3) := by decide +kernel
theorem dX7_goAlike_61 : decode cX7_goAlike 61 = .ok (.goto (-43), 3) := by decide +kernel
theorem dX7_goAlike_64 : decode cX7_goAlike 64 = .ok (.iconst 1, 1) := by decide +kernel
theorem dX7_goAlike_65 : decode cX7_goAlike 65 = .ok (.ireturn, 1) := by decide +kernel
theorem dX7_holds_0 : decode cX7_holds 0 = .ok (.lload_n 0, 1) := by decide +kernel
theorem dX7_holds_1 : decode cX7_holds 1 = .ok (.iload_n 2, 1) := by decide +kernel
theorem dX7_holds_2 : decode cX7_holds 2 = .ok (.lushr, 1) := by decide +kernel
theorem dX7_holds_3 : decode cX7_holds 3 = .ok (.lconst 1, 1) := by decide +kernel
theorem dX7_holds_4 : decode cX7_holds 4 = .ok (.land, 1) := by decide +kernel
theorem dX7_holds_5 : decode cX7_holds 5 = .ok (.lconst 0, 1) := by decide +kernel
theorem dX7_holds_6 : decode cX7_holds 6 = .ok (.lcmp, 1) := by decide +kernel
theorem dX7_holds_7 : decode cX7_holds 7 = .ok (.ifCond .eq 7, 3) := by decide +kernel
theorem dX7_holds_10 : decode cX7_holds 10 = .ok (.iconst 1, 1) := by decide +kernel
theorem dX7_holds_11 : decode cX7_holds 11 = .ok (.goto 4, 3) := by decide +kernel
theorem dX7_holds_14 : decode cX7_holds 14 = .ok (.iconst 0, 1) := by decide +kernel
theorem dX7_holds_15 : decode cX7_holds 15 = .ok (.ireturn, 1) := by decide +kernel
theorem dX7_oneIf_0 : decode cX7_oneIf 0 = .ok (.iload_n 0, 1) := by decide +kernel
theorem dX7_oneIf_1 : decode cX7_oneIf 1 = .ok (.ifCond .eq 7, 3) := by decide +kernel
theorem dX7_oneIf_4 : decode cX7_oneIf 4 = .ok (.iconst 1, 1) := by decide +kernel
theorem dX7_oneIf_5 : decode cX7_oneIf 5 = .ok (.goto 4, 3) := by decide +kernel
theorem dX7_oneIf_8 : decode cX7_oneIf 8 = .ok (.iconst 0, 1) := by decide +kernel
theorem dX7_oneIf_9 : decode cX7_oneIf 9 = .ok (.ireturn, 1) := by decide +kernel
end
section
theorem dJ0_length_8abf5_0 : decode cJ0_length_8abf5 0 = .ok (.aload_n 0, 1) := by decide +kernel
theorem dJ0_length_8abf5_1 : decode cJ0_length_8abf5 1 = .ok (.getfield 9, 3) := by decide +kernel
theorem dJ0_length_8abf5_4 : decode cJ0_length_8abf5 4 = .ok (.arraylength, 1) := by decide +kernel
theorem dJ0_length_8abf5_5 : decode cJ0_length_8abf5 5 = .ok (.aload_n 0, 1) := by decide +kernel
theorem dJ0_length_8abf5_6 : decode cJ0_length_8abf5 6 = .ok (.invokevirtual 335, 3) := by decide +kernel
theorem dJ0_length_8abf5_9 : decode cJ0_length_8abf5 9 = .ok (.ishr, 1) := by decide +kernel
theorem dJ0_length_8abf5_10 : decode cJ0_length_8abf5 10 = .ok (.ireturn, 1) := by decide +kernel
theorem dJ0_charAt_5068e_0 : decode cJ0_charAt_5068e 0 = .ok (.aload_n 0, 1) := by decide +kernel
theorem dJ0_charAt_5068e_1 : decode cJ0_charAt_5068e 1 = .ok (.invokevirtual 492, 3) := by decide +kernel
theorem dJ0_charAt_5068e_4 : decode cJ0_charAt_5068e 4 = .ok (.ifCond .eq 12, 3) := by decide +kernel
theorem dJ0_charAt_5068e_7 : decode cJ0_charAt_5068e 7 = .ok (.aload_n 0, 1) := by decide +kernel
theorem dJ0_charAt_5068e_8 : decode cJ0_charAt_5068e 8 = .ok (.getfield 9, 3) := by decide +kernel
theorem dJ0_charAt_5068e_11 : decode cJ0_charAt_5068e 11 = .ok (.iload_n 1, 1) := by decide +kernel
theorem dJ0_charAt_5068e_12 : decode cJ0_charAt_5068e 12 = .ok (.invokestatic 495, 3) := by decide +kernel
theorem dJ0_charAt_5068e_15 : decode cJ0_charAt_5068e 15 = .ok (.ireturn, 1) := by decide +kernel
theorem dJ0_charAt_5068e_16 : decode cJ0_charAt_5068e 16 = .ok (.aload_n 0, 1) := by decide +kernel
theorem dJ0_charAt_5068e_17 : decode cJ0_charAt_5068e 17 = .ok (.getfield 9, 3) := by decide +kernel
theorem dJ0_charAt_5068e_20 : decode cJ0_charAt_5068e 20 = .ok (.iload_n 1, 1) := by decide +kernel
theorem dJ0_charAt_5068e_21 : decode cJ0_charAt_5068e 21 = .ok (.invokestatic 498, 3) := by decide +kernel
theorem dJ0_charAt_5068e_24 : decode cJ0_charAt_5068e 24 = .ok (.ireturn, 1) := by decide +kernel
theorem dJ0_coder_7d493_0 : decode cJ0_coder_7d493 0 = .ok (.getstatic 38, 3) := by decide +kernel
theorem dJ0_coder_7d493_3 : decode cJ0_coder_7d493 3 = .ok (.ifCond .eq 10, 3) := by decide +kernel
theorem dJ0_coder_7d493_6 : decode cJ0_coder_7d493 6 = .ok (.aload_n 0, 1) := by decide +kernel
theorem dJ0_coder_7d493_7 : decode cJ0_coder_7d493 7 = .ok (.getfield 15, 3) := by decide +kernel
theorem dJ0_coder_7d493_10 : decode cJ0_coder_7d493 10 = .ok (.goto 4, 3) := by decide +kernel
theorem dJ0_coder_7d493_13 : decode cJ0_coder_7d493 13 = .ok (.iconst 1, 1) := by decide +kernel
theorem dJ0_coder_7d493_14 : decode cJ0_coder_7d493 14 = .ok (.ireturn, 1) := by decide +kernel
theorem dJ0_isLatin1_aae02_0 : decode cJ0_isLatin1_aae02 0 = .ok (.getstatic 38, 3) := by decide +kernel
theorem dJ0_isLatin1_aae02_3 : decode cJ0_isLatin1_aae02 3 = .ok (.ifCond .eq 14, 3) := by decide +kernel
theorem dJ0_isLatin1_aae02_6 : decode cJ0_isLatin1_aae02 6 = .ok (.aload_n 0, 1) := by decide +kernel
theorem dJ0_isLatin1_aae02_7 : decode cJ0_isLatin1_aae02 7 = .ok (.getfield 15, 3) := by decide +kernel
theorem dJ0_isLatin1_aae02_10 : decode cJ0_isLatin1_aae02 10 = .ok (.ifCond .ne 7, 3) := by decide +kernel
theorem dJ0_isLatin1_aae02_13 : decode cJ0_isLatin1_aae02 13 = .ok (.iconst 1, 1) := by decide +kernel
theorem dJ0_isLatin1_aae02_14 : decode cJ0_isLatin1_aae02 14 = .ok (.goto 4, 3) := by decide +kernel
theorem dJ0_isLatin1_aae02_17 : decode cJ0_isLatin1_aae02 17 = .ok (.iconst 0, 1) := by decide +kernel
theorem dJ0_isLatin1_aae02_18 : decode cJ0_isLatin1_aae02 18 = .ok (.ireturn, 1) := by decide +kernel
theorem dJ0_checkIndex_df160_0 : decode cJ0_checkIndex_df160 0 = .ok (.iload_n 0, 1) := by decide +kernel
theorem dJ0_checkIndex_df160_1 : decode cJ0_checkIndex_df160 1 = .ok (.iload_n 1, 1) := by decide +kernel
theorem dJ0_checkIndex_df160_2 : decode cJ0_checkIndex_df160 2 = .ok (.getstatic 1053, 3) := by decide +kernel
theorem dJ0_checkIndex_df160_5 : decode cJ0_checkIndex_df160 5 = .ok (.invokestatic 1059, 3) := by decide +kernel
theorem dJ0_checkIndex_df160_8 : decode cJ0_checkIndex_df160 8 = .ok (.pop, 1) := by decide +kernel
theorem dJ0_checkIndex_df160_9 : decode cJ0_checkIndex_df160 9 = .ok (.return_, 1) := by decide +kernel
theorem dJ1_charAt_3b067_0 : decode cJ1_charAt_3b067 0 = .ok (.iload_n 1, 1) := by decide +kernel
theorem dJ1_charAt_3b067_1 : decode cJ1_charAt_3b067 1 = .ok (.aload_n 0, 1) := by decide +kernel
theorem dJ1_charAt_3b067_2 : decode cJ1_charAt_3b067 2 = .ok (.arraylength, 1) := by decide +kernel
theorem dJ1_charAt_3b067_3 : decode cJ1_charAt_3b067 3 = .ok (.invokestatic 9, 3) := by decide +kernel
theorem dJ1_charAt_3b067_6 : decode cJ1_charAt_3b067 6 = .ok (.aload_n 0, 1) := by decide +kernel
theorem dJ1_charAt_3b067_7 : decode cJ1_charAt_3b067 7 = .ok (.iload_n 1, 1) := by decide +kernel
theorem dJ1_charAt_3b067_8 : decode cJ1_charAt_3b067 8 = .ok (.baload, 1) := by decide +kernel
theorem dJ1_charAt_3b067_9 : decode cJ1_charAt_3b067 9 = .ok (.sipush 255, 3) := by decide +kernel
theorem dJ1_charAt_3b067_12 : decode cJ1_charAt_3b067 12 = .ok (.iand, 1) := by decide +kernel
theorem dJ1_charAt_3b067_13 : decode cJ1_charAt_3b067 13 = .ok (.i2c, 1) := by decide +kernel
theorem dJ1_charAt_3b067_14 : decode cJ1_charAt_3b067 14 = .ok (.ireturn, 1) := by decide +kernel
theorem dJ2_getChar_3b067_0 : decode cJ2_getChar_3b067 0 = .ok (.getstatic 44, 3) := by decide +kernel
theorem dJ2_getChar_3b067_3 : decode cJ2_getChar_3b067 3 = .ok (.ifCond .ne 25, 3) := by decide +kernel
theorem dJ2_getChar_3b067_6 : decode cJ2_getChar_3b067 6 = .ok (.iload_n 1, 1) := by decide +kernel
theorem dJ2_getChar_3b067_7 : decode cJ2_getChar_3b067 7 = .ok (.ifCond .lt 11, 3) := by decide +kernel
theorem dJ2_getChar_3b067_10 : decode cJ2_getChar_3b067 10 = .ok (.iload_n 1, 1) := by decide +kernel
theorem dJ2_getChar_3b067_11 : decode cJ2_getChar_3b067 11 = .ok (.aload_n 0, 1) := by decide +kernel
theorem dJ2_getChar_3b067_12 : decode cJ2_getChar_3b067 12 = .ok (.invokestatic 48, 3) := by decide +kernel
theorem dJ2_getChar_3b067_15 : decode cJ2_getChar_3b067 15 = .ok (.if_icmp .lt 13, 3) := by decide +kernel
theorem dJ2_getChar_3b067_18 : decode cJ2_getChar_3b067 18 = .ok (.new 52, 3) := by decide +kernel
theorem dJ2_getChar_3b067_21 : decode cJ2_getChar_3b067 21 = .ok (.dup, 1) := by decide +kernel
theorem dJ2_getChar_3b067_22 : decode cJ2_getChar_3b067 22 = .ok (.ldc 54, 2) := by decide +kernel
theorem dJ2_getChar_3b067_24 : decode cJ2_getChar_3b067 24 = .ok (.invokespecial 56, 3) := by decide +kernel
theorem dJ2_getChar_3b067_27 : decode cJ2_getChar_3b067 27 = .ok (.athrow, 1) := by decide +kernel
theorem dJ2_getChar_3b067_28 : decode cJ2_getChar_3b067 28 = .ok (.iload_n 1, 1) := by decide +kernel
theorem dJ2_getChar_3b067_29 : decode cJ2_getChar_3b067 29 = .ok (.iconst 1, 1) := by decide +kernel
theorem dJ2_getChar_3b067_30 : decode cJ2_getChar_3b067 30 = .ok (.ishl, 1) := by decide +kernel
theorem dJ2_getChar_3b067_31 : decode cJ2_getChar_3b067 31 = .ok (.istore_n 1, 1) := by decide +kernel
theorem dJ2_getChar_3b067_32 : decode cJ2_getChar_3b067 32 = .ok (.aload_n 0, 1) := by decide +kernel
theorem dJ2_getChar_3b067_33 : decode cJ2_getChar_3b067 33 = .ok (.iload_n 1, 1) := by decide +kernel
theorem dJ2_getChar_3b067_34 : decode cJ2_getChar_3b067 34 = .ok (.iinc 1 1, 3) := by decide +kernel
theorem dJ2_getChar_3b067_37 : decode cJ2_getChar_3b067 37 = .ok (.baload, 1) := by decide +kernel
theorem dJ2_getChar_3b067_38 : decode cJ2_getChar_3b067 38 = .ok (.sipush 255, 3) := by decide +kernel
theorem dJ2_getChar_3b067_41 : decode cJ2_getChar_3b067 41 = .ok (.iand, 1) := by decide +kernel
theorem dJ2_getChar_3b067_42 : decode cJ2_getChar_3b067 42 = .ok (.getstatic 59, 3) := by decide +kernel
theorem dJ2_getChar_3b067_45 : decode cJ2_getChar_3b067 45 = .ok (.ishl, 1) := by decide +kernel
theorem dJ2_getChar_3b067_46 : decode cJ2_getChar_3b067 46 = .ok (.aload_n 0, 1) := by decide +kernel
theorem dJ2_getChar_3b067_47 : decode cJ2_getChar_3b067 47 = .ok (.iload_n 1, 1) := by decide +kernel
theorem dJ2_getChar_3b067_48 : decode cJ2_getChar_3b067 48 = .ok (.baload, 1) := by decide +kernel
theorem dJ2_getChar_3b067_49 : decode cJ2_getChar_3b067 49 = .ok (.sipush 255, 3) := by decide +kernel
theorem dJ2_getChar_3b067_52 : decode cJ2_getChar_3b067 52 = .ok (.iand, 1) := by decide +kernel
theorem dJ2_getChar_3b067_53 : decode cJ2_getChar_3b067 53 = .ok (.getstatic 63, 3) := by decide +kernel
theorem dJ2_getChar_3b067_56 : decode cJ2_getChar_3b067 56 = .ok (.ishl, 1) := by decide +kernel
theorem dJ2_getChar_3b067_57 : decode cJ2_getChar_3b067 57 = .ok (.ior, 1) := by decide +kernel
theorem dJ2_getChar_3b067_58 : decode cJ2_getChar_3b067 58 = .ok (.i2c, 1) := by decide +kernel
theorem dJ2_getChar_3b067_59 : decode cJ2_getChar_3b067 59 = .ok (.ireturn, 1) := by decide +kernel
theorem dJ2_length_9d52b_0 : decode cJ2_length_9d52b 0 = .ok (.aload_n 0, 1) := by decide +kernel
theorem dJ2_length_9d52b_1 : decode cJ2_length_9d52b 1 = .ok (.arraylength, 1) := by decide +kernel
theorem dJ2_length_9d52b_2 : decode cJ2_length_9d52b 2 = .ok (.iconst 1, 1) := by decide +kernel
theorem dJ2_length_9d52b_3 : decode cJ2_length_9d52b 3 = .ok (.ishr, 1) := by decide +kernel
theorem dJ2_length_9d52b_4 : decode cJ2_length_9d52b 4 = .ok (.ireturn, 1) := by decide +kernel
theorem dJ2_charAt_3b067_0 : decode cJ2_charAt_3b067 0 = .ok (.iload_n 1, 1) := by decide +kernel
theorem dJ2_charAt_3b067_1 : decode cJ2_charAt_3b067 1 = .ok (.aload_n 0, 1) := by decide +kernel
theorem dJ2_charAt_3b067_2 : decode cJ2_charAt_3b067 2 = .ok (.invokestatic 67, 3) := by decide +kernel
theorem dJ2_charAt_3b067_5 : decode cJ2_charAt_3b067 5 = .ok (.aload_n 0, 1) := by decide +kernel
theorem dJ2_charAt_3b067_6 : decode cJ2_charAt_3b067 6 = .ok (.iload_n 1, 1) := by decide +kernel
theorem dJ2_charAt_3b067_7 : decode cJ2_charAt_3b067 7 = .ok (.invokestatic 71, 3) := by decide +kernel
theorem dJ2_charAt_3b067_10 : decode cJ2_charAt_3b067 10 = .ok (.ireturn, 1) := by decide +kernel
theorem dJ2_checkIndex_2214a_0 : decode cJ2_checkIndex_2214a 0 = .ok (.iload_n 0, 1) := by decide +kernel
theorem dJ2_checkIndex_2214a_1 : decode cJ2_checkIndex_2214a 1 = .ok (.aload_n 1, 1) := by decide +kernel
theorem dJ2_checkIndex_2214a_2 : decode cJ2_checkIndex_2214a 2 = .ok (.invokestatic 48, 3) := by decide +kernel
theorem dJ2_checkIndex_2214a_5 : decode cJ2_checkIndex_2214a 5 = .ok (.invokestatic 414, 3) := by decide +kernel
theorem dJ2_checkIndex_2214a_8 : decode cJ2_checkIndex_2214a 8 = .ok (.return_, 1) := by decide +kernel
theorem dJ3_checkIndex_8e157_0 : decode cJ3_checkIndex_8e157 0 = .ok (.iload_n 0, 1) := by decide +kernel
theorem dJ3_checkIndex_8e157_1 : decode cJ3_checkIndex_8e157 1 = .ok (.ifCond .lt 8, 3) := by decide +kernel
theorem dJ3_checkIndex_8e157_4 : decode cJ3_checkIndex_8e157 4 = .ok (.iload_n 0, 1) := by decide +kernel
theorem dJ3_checkIndex_8e157_5 : decode cJ3_checkIndex_8e157 5 = .ok (.iload_n 1, 1) := by decide +kernel
theorem dJ3_checkIndex_8e157_6 : decode cJ3_checkIndex_8e157 6 = .ok (.if_icmp .lt 10, 3) := by decide +kernel
theorem dJ3_checkIndex_8e157_9 : decode cJ3_checkIndex_8e157 9 = .ok (.aload_n 2, 1) := by decide +kernel
theorem dJ3_checkIndex_8e157_10 : decode cJ3_checkIndex_8e157 10 = .ok (.iload_n 0, 1) := by decide +kernel
theorem dJ3_checkIndex_8e157_11 : decode cJ3_checkIndex_8e157 11 = .ok (.iload_n 1, 1) := by decide +kernel
theorem dJ3_checkIndex_8e157_12 : decode cJ3_checkIndex_8e157 12 = .ok (.invokestatic 95, 3) := by decide +kernel
theorem dJ3_checkIndex_8e157_15 : decode cJ3_checkIndex_8e157 15 = .ok (.athrow, 1) := by decide +kernel
theorem dJ3_checkIndex_8e157_16 : decode cJ3_checkIndex_8e157 16 = .ok (.iload_n 0, 1) := by decide +kernel
theorem dJ3_checkIndex_8e157_17 : decode cJ3_checkIndex_8e157 17 = .ok (.ireturn, 1) := by decide +kernel
theorem dJ9_min_7cf53_0 : decode cJ9_min_7cf53 0 = .ok (.iload_n 0, 1) := by decide +kernel
theorem dJ9_min_7cf53_1 : decode cJ9_min_7cf53 1 = .ok (.iload_n 1, 1) := by decide +kernel
theorem dJ9_min_7cf53_2 : decode cJ9_min_7cf53 2 = .ok (.if_icmp .gt 7, 3) := by decide +kernel
theorem dJ9_min_7cf53_5 : decode cJ9_min_7cf53 5 = .ok (.iload_n 0, 1) := by decide +kernel
theorem dJ9_min_7cf53_6 : decode cJ9_min_7cf53 6 = .ok (.goto 4, 3) := by decide +kernel
theorem dJ9_min_7cf53_9 : decode cJ9_min_7cf53 9 = .ok (.iload_n 1, 1) := by decide +kernel
theorem dJ9_min_7cf53_10 : decode cJ9_min_7cf53 10 = .ok (.ireturn, 1) := by decide +kernel
theorem dJ13_bitCount_95d88_0 : decode cJ13_bitCount_95d88 0 = .ok (.lload_n 0, 1) := by decide +kernel
theorem dJ13_bitCount_95d88_1 : decode cJ13_bitCount_95d88 1 = .ok (.lload_n 0, 1) := by decide +kernel
theorem dJ13_bitCount_95d88_2 : decode cJ13_bitCount_95d88 2 = .ok (.iconst 1, 1) := by decide +kernel
theorem dJ13_bitCount_95d88_3 : decode cJ13_bitCount_95d88 3 = .ok (.lushr, 1) := by decide +kernel
theorem dJ13_bitCount_95d88_4 : decode cJ13_bitCount_95d88 4 = .ok (.ldc2_w 314, 3) := by decide +kernel
theorem dJ13_bitCount_95d88_7 : decode cJ13_bitCount_95d88 7 = .ok (.land, 1) := by decide +kernel
theorem dJ13_bitCount_95d88_8 : decode cJ13_bitCount_95d88 8 = .ok (.lsub, 1) := by decide +kernel
theorem dJ13_bitCount_95d88_9 : decode cJ13_bitCount_95d88 9 = .ok (.lstore_n 0, 1) := by decide +kernel
theorem dJ13_bitCount_95d88_10 : decode cJ13_bitCount_95d88 10 = .ok (.lload_n 0, 1) := by decide +kernel
theorem dJ13_bitCount_95d88_11 : decode cJ13_bitCount_95d88 11 = .ok (.ldc2_w 316, 3) := by decide +kernel
theorem dJ13_bitCount_95d88_14 : decode cJ13_bitCount_95d88 14 = .ok (.land, 1) := by decide +kernel
theorem dJ13_bitCount_95d88_15 : decode cJ13_bitCount_95d88 15 = .ok (.lload_n 0, 1) := by decide +kernel
theorem dJ13_bitCount_95d88_16 : decode cJ13_bitCount_95d88 16 = .ok (.iconst 2, 1) := by decide +kernel
theorem dJ13_bitCount_95d88_17 : decode cJ13_bitCount_95d88 17 = .ok (.lushr, 1) := by decide +kernel
theorem dJ13_bitCount_95d88_18 : decode cJ13_bitCount_95d88 18 = .ok (.ldc2_w 316, 3) := by decide +kernel
theorem dJ13_bitCount_95d88_21 : decode cJ13_bitCount_95d88 21 = .ok (.land, 1) := by decide +kernel
theorem dJ13_bitCount_95d88_22 : decode cJ13_bitCount_95d88 22 = .ok (.ladd, 1) := by decide +kernel
theorem dJ13_bitCount_95d88_23 : decode cJ13_bitCount_95d88 23 = .ok (.lstore_n 0, 1) := by decide +kernel
theorem dJ13_bitCount_95d88_24 : decode cJ13_bitCount_95d88 24 = .ok (.lload_n 0, 1) := by decide +kernel
theorem dJ13_bitCount_95d88_25 : decode cJ13_bitCount_95d88 25 = .ok (.lload_n 0, 1) := by decide +kernel
theorem dJ13_bitCount_95d88_26 : decode cJ13_bitCount_95d88 26 = .ok (.iconst 4, 1) := by decide +kernel
theorem dJ13_bitCount_95d88_27 : decode cJ13_bitCount_95d88 27 = .ok (.lushr, 1) := by decide +kernel
theorem dJ13_bitCount_95d88_28 : decode cJ13_bitCount_95d88 28 = .ok (.ladd, 1) := by decide +kernel
theorem dJ13_bitCount_95d88_29 : decode cJ13_bitCount_95d88 29 = .ok (.ldc2_w 318, 3) := by decide +kernel
theorem dJ13_bitCount_95d88_32 : decode cJ13_bitCount_95d88 32 = .ok (.land, 1) := by decide +kernel
theorem dJ13_bitCount_95d88_33 : decode cJ13_bitCount_95d88 33 = .ok (.lstore_n 0, 1) := by decide +kernel
theorem dJ13_bitCount_95d88_34 : decode cJ13_bitCount_95d88 34 = .ok (.lload_n 0, 1) := by decide +kernel
theorem dJ13_bitCount_95d88_35 : decode cJ13_bitCount_95d88 35 = .ok (.lload_n 0, 1) := by decide +kernel
theorem dJ13_bitCount_95d88_36 : decode cJ13_bitCount_95d88 36 = .ok (.bipush 8, 2) := by decide +kernel
theorem dJ13_bitCount_95d88_38 : decode cJ13_bitCount_95d88 38 = .ok (.lushr, 1) := by decide +kernel
theorem dJ13_bitCount_95d88_39 : decode cJ13_bitCount_95d88 39 = .ok (.ladd, 1) := by decide +kernel
theorem dJ13_bitCount_95d88_40 : decode cJ13_bitCount_95d88 40 = .ok (.lstore_n 0, 1) := by decide +kernel
theorem dJ13_bitCount_95d88_41 : decode cJ13_bitCount_95d88 41 = .ok (.lload_n 0, 1) := by decide +kernel
theorem dJ13_bitCount_95d88_42 : decode cJ13_bitCount_95d88 42 = .ok (.lload_n 0, 1) := by decide +kernel
theorem dJ13_bitCount_95d88_43 : decode cJ13_bitCount_95d88 43 = .ok (.bipush 16, 2) := by decide +kernel
theorem dJ13_bitCount_95d88_45 : decode cJ13_bitCount_95d88 45 = .ok (.lushr, 1) := by decide +kernel
theorem dJ13_bitCount_95d88_46 : decode cJ13_bitCount_95d88 46 = .ok (.ladd, 1) := by decide +kernel
theorem dJ13_bitCount_95d88_47 : decode cJ13_bitCount_95d88 47 = .ok (.lstore_n 0, 1) := by decide +kernel
theorem dJ13_bitCount_95d88_48 : decode cJ13_bitCount_95d88 48 = .ok (.lload_n 0, 1) := by decide +kernel
theorem dJ13_bitCount_95d88_49 : decode cJ13_bitCount_95d88 49 = .ok (.lload_n 0, 1) := by decide +kernel
theorem dJ13_bitCount_95d88_50 : decode cJ13_bitCount_95d88 50 = .ok (.bipush 32, 2) := by decide +kernel
theorem dJ13_bitCount_95d88_52 : decode cJ13_bitCount_95d88 52 = .ok (.lushr, 1) := by decide +kernel
theorem dJ13_bitCount_95d88_53 : decode cJ13_bitCount_95d88 53 = .ok (.ladd, 1) := by decide +kernel
theorem dJ13_bitCount_95d88_54 : decode cJ13_bitCount_95d88 54 = .ok (.lstore_n 0, 1) := by decide +kernel
theorem dJ13_bitCount_95d88_55 : decode cJ13_bitCount_95d88 55 = .ok (.lload_n 0, 1) := by decide +kernel
theorem dJ13_bitCount_95d88_56 : decode cJ13_bitCount_95d88 56 = .ok (.l2i, 1) := by decide +kernel
theorem dJ13_bitCount_95d88_57 : decode cJ13_bitCount_95d88 57 = .ok (.bipush 127, 2) := by decide +kernel
theorem dJ13_bitCount_95d88_59 : decode cJ13_bitCount_95d88 59 = .ok (.iand, 1) := by decide +kernel
theorem dJ13_bitCount_95d88_60 : decode cJ13_bitCount_95d88 60 = .ok (.ireturn, 1) := by decide +kernel
theorem dL_law_0 : decode cL_law 0 = .ok (.new 7, 3) := by decide +kernel
theorem dL_law_3 : decode cL_law 3 = .ok (.dup, 1) := by decide +kernel
theorem dL_law_4 : decode cL_law 4 = .ok (.invokespecial 9, 3) := by decide +kernel
theorem dL_law_7 : decode cL_law 7 = .ok (.astore_n 1, 1) := by decide +kernel
theorem dL_law_8 : decode cL_law 8 = .ok (.new 10, 3) := by decide +kernel
theorem dL_law_11 : decode cL_law 11 = .ok (.dup, 1) := by decide +kernel
theorem dL_law_12 : decode cL_law 12 = .ok (.invokespecial 12, 3) := by decide +kernel
theorem dL_law_15 : decode cL_law 15 = .ok (.astore_n 2, 1) := by decide +kernel
theorem dL_law_16 : decode cL_law 16 = .ok (.iconst 0, 1) := by decide +kernel
theorem dL_law_17 : decode cL_law 17 = .ok (.istore_n 3, 1) := by decide +kernel
theorem dL_law_18 : decode cL_law 18 = .ok (.iload_n 3, 1) := by decide +kernel
theorem dL_law_19 : decode cL_law 19 = .ok (.aload_n 0, 1) := by decide +kernel
theorem dL_law_20 : decode cL_law 20 = .ok (.arraylength, 1) := by decide +kernel
theorem dL_law_21 : decode cL_law 21 = .ok (.bipush 6, 2) := by decide +kernel
theorem dL_law_23 : decode cL_law 23 = .ok (.isub, 1) := by decide +kernel
theorem dL_law_24 : decode cL_law 24 = .ok (.if_icmp .gt 991, 3) := by decide +kernel
theorem dL_law_27 : decode cL_law 27 = .ok (.aload_n 0, 1) := by decide +kernel
theorem dL_law_28 : decode cL_law 28 = .ok (.iload_n 3, 1) := by decide +kernel
theorem dL_law_29 : decode cL_law 29 = .ok (.iaload, 1) := by decide +kernel
theorem dL_law_30 : decode cL_law 30 = .ok (.bipush 31, 2) := by decide +kernel
theorem dL_law_32 : decode cL_law 32 = .ok (.iand, 1) := by decide +kernel
theorem dL_law_33 : decode cL_law 33 = .ok (.tableswitch 976 0 29 #[135, 198, 221, 234, 257, 270, 293, 326, 339, 362, 375, 388, 421, 434, 467, 490, 523, 566, 609, 643, 706, 729, 752, 775, 808, 851, 884, 907, 930, 953], 135) := by decide +kernel
theorem dL_law_168 : decode cL_law 168 = .ok (.aload_n 1, 1) := by decide +kernel
theorem dL_law_169 : decode cL_law 169 = .ok (.aload_n 0, 1) := by decide +kernel
theorem dL_law_170 : decode cL_law 170 = .ok (.iload_n 3, 1) := by decide +kernel
theorem dL_law_171 : decode cL_law 171 = .ok (.iconst 1, 1) := by decide +kernel
theorem dL_law_172 : decode cL_law 172 = .ok (.iadd, 1) := by decide +kernel
theorem dL_law_173 : decode cL_law 173 = .ok (.iaload, 1) := by decide +kernel
theorem dL_law_174 : decode cL_law 174 = .ok (.aload_n 0, 1) := by decide +kernel
theorem dL_law_175 : decode cL_law 175 = .ok (.iload_n 3, 1) := by decide +kernel
theorem dL_law_176 : decode cL_law 176 = .ok (.iconst 2, 1) := by decide +kernel
theorem dL_law_177 : decode cL_law 177 = .ok (.iadd, 1) := by decide +kernel
theorem dL_law_178 : decode cL_law 178 = .ok (.iaload, 1) := by decide +kernel
theorem dL_law_179 : decode cL_law 179 = .ok (.aload_n 0, 1) := by decide +kernel
theorem dL_law_180 : decode cL_law 180 = .ok (.iload_n 3, 1) := by decide +kernel
theorem dL_law_181 : decode cL_law 181 = .ok (.iconst 3, 1) := by decide +kernel
theorem dL_law_182 : decode cL_law 182 = .ok (.iadd, 1) := by decide +kernel
theorem dL_law_183 : decode cL_law 183 = .ok (.iaload, 1) := by decide +kernel
theorem dL_law_184 : decode cL_law 184 = .ok (.aload_n 0, 1) := by decide +kernel
theorem dL_law_185 : decode cL_law 185 = .ok (.iload_n 3, 1) := by decide +kernel
theorem dL_law_186 : decode cL_law 186 = .ok (.iconst 4, 1) := by decide +kernel
theorem dL_law_187 : decode cL_law 187 = .ok (.iadd, 1) := by decide +kernel
theorem dL_law_188 : decode cL_law 188 = .ok (.iaload, 1) := by decide +kernel
theorem dL_law_189 : decode cL_law 189 = .ok (.aload_n 0, 1) := by decide +kernel
theorem dL_law_190 : decode cL_law 190 = .ok (.iload_n 3, 1) := by decide +kernel
theorem dL_law_191 : decode cL_law 191 = .ok (.iconst 5, 1) := by decide +kernel
theorem dL_law_192 : decode cL_law 192 = .ok (.iadd, 1) := by decide +kernel
theorem dL_law_193 : decode cL_law 193 = .ok (.iaload, 1) := by decide +kernel
theorem dL_law_194 : decode cL_law 194 = .ok (.invokevirtual 13, 3) := by decide +kernel
theorem dL_law_197 : decode cL_law 197 = .ok (.aload_n 2, 1) := by decide +kernel
theorem dL_law_198 : decode cL_law 198 = .ok (.aload_n 0, 1) := by decide +kernel
theorem dL_law_199 : decode cL_law 199 = .ok (.iload_n 3, 1) := by decide +kernel
theorem dL_law_200 : decode cL_law 200 = .ok (.iconst 1, 1) := by decide +kernel
theorem dL_law_201 : decode cL_law 201 = .ok (.iadd, 1) := by decide +kernel
theorem dL_law_202 : decode cL_law 202 = .ok (.iaload, 1) := by decide +kernel
theorem dL_law_203 : decode cL_law 203 = .ok (.aload_n 0, 1) := by decide +kernel
theorem dL_law_204 : decode cL_law 204 = .ok (.iload_n 3, 1) := by decide +kernel
theorem dL_law_205 : decode cL_law 205 = .ok (.iconst 2, 1) := by decide +kernel
theorem dL_law_206 : decode cL_law 206 = .ok (.iadd, 1) := by decide +kernel
theorem dL_law_207 : decode cL_law 207 = .ok (.iaload, 1) := by decide +kernel
theorem dL_law_208 : decode cL_law 208 = .ok (.aload_n 0, 1) := by decide +kernel
theorem dL_law_209 : decode cL_law 209 = .ok (.iload_n 3, 1) := by decide +kernel
theorem dL_law_210 : decode cL_law 210 = .ok (.iconst 3, 1) := by decide +kernel
theorem dL_law_211 : decode cL_law 211 = .ok (.iadd, 1) := by decide +kernel
theorem dL_law_212 : decode cL_law 212 = .ok (.iaload, 1) := by decide +kernel
theorem dL_law_213 : decode cL_law 213 = .ok (.aload_n 0, 1) := by decide +kernel
theorem dL_law_214 : decode cL_law 214 = .ok (.iload_n 3, 1) := by decide +kernel
theorem dL_law_215 : decode cL_law 215 = .ok (.iconst 4, 1) := by decide +kernel
theorem dL_law_216 : decode cL_law 216 = .ok (.iadd, 1) := by decide +kernel
theorem dL_law_217 : decode cL_law 217 = .ok (.iaload, 1) := by decide +kernel
theorem dL_law_218 : decode cL_law 218 = .ok (.aload_n 0, 1) := by decide +kernel
theorem dL_law_219 : decode cL_law 219 = .ok (.iload_n 3, 1) := by decide +kernel
theorem dL_law_220 : decode cL_law 220 = .ok (.iconst 5, 1) := by decide +kernel
theorem dL_law_221 : decode cL_law 221 = .ok (.iadd, 1) := by decide +kernel
theorem dL_law_222 : decode cL_law 222 = .ok (.iaload, 1) := by decide +kernel
theorem dL_law_223 : decode cL_law 223 = .ok (.invokevirtual 17, 3) := by decide +kernel
theorem dL_law_226 : decode cL_law 226 = .ok (.if_icmp .eq 783, 3) := by decide +kernel
theorem dL_law_229 : decode cL_law 229 = .ok (.iconst 0, 1) := by decide +kernel
theorem dL_law_230 : decode cL_law 230 = .ok (.ireturn, 1) := by decide +kernel
theorem dL_law_231 : decode cL_law 231 = .ok (.aload_n 1, 1) := by decide +kernel
theorem dL_law_232 : decode cL_law 232 = .ok (.aload_n 0, 1) := by decide +kernel
theorem dL_law_233 : decode cL_law 233 = .ok (.iload_n 3, 1) := by decide +kernel
theorem dL_law_234 : decode cL_law 234 = .ok (.iconst 1, 1) := by decide +kernel
theorem dL_law_235 : decode cL_law 235 = .ok (.iadd, 1) := by decide +kernel
theorem dL_law_236 : decode cL_law 236 = .ok (.iaload, 1) := by decide +kernel
theorem dL_law_237 : decode cL_law 237 = .ok (.invokevirtual 18, 3) := by decide +kernel
theorem dL_law_240 : decode cL_law 240 = .ok (.aload_n 2, 1) := by decide +kernel
theorem dL_law_241 : decode cL_law 241 = .ok (.aload_n 0, 1) := by decide +kernel
theorem dL_law_242 : decode cL_law 242 = .ok (.iload_n 3, 1) := by decide +kernel
theorem dL_law_243 : decode cL_law 243 = .ok (.iconst 1, 1) := by decide +kernel
theorem dL_law_244 : decode cL_law 244 = .ok (.iadd, 1) := by decide +kernel
theorem dL_law_245 : decode cL_law 245 = .ok (.iaload, 1) := by decide +kernel
theorem dL_law_246 : decode cL_law 246 = .ok (.invokevirtual 22, 3) := by decide +kernel
theorem dL_law_249 : decode cL_law 249 = .ok (.if_icmp .eq 760, 3) := by decide +kernel
theorem dL_law_252 : decode cL_law 252 = .ok (.iconst 0, 1) := by decide +kernel
theorem dL_law_253 : decode cL_law 253 = .ok (.ireturn, 1) := by decide +kernel
theorem dL_law_254 : decode cL_law 254 = .ok (.aload_n 1, 1) := by decide +kernel
theorem dL_law_255 : decode cL_law 255 = .ok (.invokevirtual 23, 3) := by decide +kernel
theorem dL_law_258 : decode cL_law 258 = .ok (.aload_n 2, 1) := by decide +kernel
theorem dL_law_259 : decode cL_law 259 = .ok (.invokevirtual 27, 3) := by decide +kernel
theorem dL_law_262 : decode cL_law 262 = .ok (.if_icmp .eq 747, 3) := by decide +kernel
theorem dL_law_265 : decode cL_law 265 = .ok (.iconst 0, 1) := by decide +kernel
theorem dL_law_266 : decode cL_law 266 = .ok (.ireturn, 1) := by decide +kernel
theorem dL_law_267 : decode cL_law 267 = .ok (.aload_n 1, 1) := by decide +kernel
theorem dL_law_268 : decode cL_law 268 = .ok (.aload_n 0, 1) := by decide +kernel
theorem dL_law_269 : decode cL_law 269 = .ok (.iload_n 3, 1) := by decide +kernel
theorem dL_law_270 : decode cL_law 270 = .ok (.iconst 1, 1) := by decide +kernel
theorem dL_law_271 : decode cL_law 271 = .ok (.iadd, 1) := by decide +kernel
theorem dL_law_272 : decode cL_law 272 = .ok (.iaload, 1) := by decide +kernel
theorem dL_law_273 : decode cL_law 273 = .ok (.invokevirtual 28, 3) := by decide +kernel
theorem dL_law_276 : decode cL_law 276 = .ok (.aload_n 2, 1) := by decide +kernel
theorem dL_law_277 : decode cL_law 277 = .ok (.aload_n 0, 1) := by decide +kernel
theorem dL_law_278 : decode cL_law 278 = .ok (.iload_n 3, 1) := by decide +kernel
theorem dL_law_279 : decode cL_law 279 = .ok (.iconst 1, 1) := by decide +kernel
theorem dL_law_280 : decode cL_law 280 = .ok (.iadd, 1) := by decide +kernel
theorem dL_law_281 : decode cL_law 281 = .ok (.iaload, 1) := by decide +kernel
theorem dL_law_282 : decode cL_law 282 = .ok (.invokevirtual 31, 3) := by decide +kernel
theorem dL_law_285 : decode cL_law 285 = .ok (.if_icmp .eq 724, 3) := by decide +kernel
theorem dL_law_288 : decode cL_law 288 = .ok (.iconst 0, 1) := by decide +kernel
theorem dL_law_289 : decode cL_law 289 = .ok (.ireturn, 1) := by decide +kernel
theorem dL_law_290 : decode cL_law 290 = .ok (.aload_n 1, 1) := by decide +kernel
theorem dL_law_291 : decode cL_law 291 = .ok (.invokevirtual 32, 3) := by decide +kernel
theorem dL_law_294 : decode cL_law 294 = .ok (.aload_n 2, 1) := by decide +kernel
theorem dL_law_295 : decode cL_law 295 = .ok (.invokevirtual 35, 3) := by decide +kernel
theorem dL_law_298 : decode cL_law 298 = .ok (.if_icmp .eq 711, 3) := by decide +kernel
theorem dL_law_301 : decode cL_law 301 = .ok (.iconst 0, 1) := by decide +kernel
theorem dL_law_302 : decode cL_law 302 = .ok (.ireturn, 1) := by decide +kernel
theorem dL_law_303 : decode cL_law 303 = .ok (.aload_n 1, 1) := by decide +kernel
theorem dL_law_304 : decode cL_law 304 = .ok (.aload_n 0, 1) := by decide +kernel
theorem dL_law_305 : decode cL_law 305 = .ok (.iload_n 3, 1) := by decide +kernel
theorem dL_law_306 : decode cL_law 306 = .ok (.iconst 1, 1) := by decide +kernel
theorem dL_law_307 : decode cL_law 307 = .ok (.iadd, 1) := by decide +kernel
theorem dL_law_308 : decode cL_law 308 = .ok (.iaload, 1) := by decide +kernel
theorem dL_law_309 : decode cL_law 309 = .ok (.invokevirtual 36, 3) := by decide +kernel
theorem dL_law_312 : decode cL_law 312 = .ok (.aload_n 2, 1) := by decide +kernel
theorem dL_law_313 : decode cL_law 313 = .ok (.aload_n 0, 1) := by decide +kernel
theorem dL_law_314 : decode cL_law 314 = .ok (.iload_n 3, 1) := by decide +kernel
theorem dL_law_315 : decode cL_law 315 = .ok (.iconst 1, 1) := by decide +kernel
theorem dL_law_316 : decode cL_law 316 = .ok (.iadd, 1) := by decide +kernel
theorem dL_law_317 : decode cL_law 317 = .ok (.iaload, 1) := by decide +kernel
theorem dL_law_318 : decode cL_law 318 = .ok (.invokevirtual 39, 3) := by decide +kernel
theorem dL_law_321 : decode cL_law 321 = .ok (.if_icmp .eq 688, 3) := by decide +kernel
theorem dL_law_324 : decode cL_law 324 = .ok (.iconst 0, 1) := by decide +kernel
theorem dL_law_325 : decode cL_law 325 = .ok (.ireturn, 1) := by decide +kernel
theorem dL_law_326 : decode cL_law 326 = .ok (.aload_n 1, 1) := by decide +kernel
theorem dL_law_327 : decode cL_law 327 = .ok (.aload_n 0, 1) := by decide +kernel
theorem dL_law_328 : decode cL_law 328 = .ok (.iload_n 3, 1) := by decide +kernel
theorem dL_law_329 : decode cL_law 329 = .ok (.iconst 1, 1) := by decide +kernel
theorem dL_law_330 : decode cL_law 330 = .ok (.iadd, 1) := by decide +kernel
theorem dL_law_331 : decode cL_law 331 = .ok (.iaload, 1) := by decide +kernel
theorem dL_law_332 : decode cL_law 332 = .ok (.aload_n 0, 1) := by decide +kernel
theorem dL_law_333 : decode cL_law 333 = .ok (.iload_n 3, 1) := by decide +kernel
theorem dL_law_334 : decode cL_law 334 = .ok (.iconst 2, 1) := by decide +kernel
theorem dL_law_335 : decode cL_law 335 = .ok (.iadd, 1) := by decide +kernel
theorem dL_law_336 : decode cL_law 336 = .ok (.iaload, 1) := by decide +kernel
theorem dL_law_337 : decode cL_law 337 = .ok (.invokevirtual 40, 3) := by decide +kernel
theorem dL_law_340 : decode cL_law 340 = .ok (.aload_n 2, 1) := by decide +kernel
theorem dL_law_341 : decode cL_law 341 = .ok (.aload_n 0, 1) := by decide +kernel
theorem dL_law_342 : decode cL_law 342 = .ok (.iload_n 3, 1) := by decide +kernel
theorem dL_law_343 : decode cL_law 343 = .ok (.iconst 1, 1) := by decide +kernel
theorem dL_law_344 : decode cL_law 344 = .ok (.iadd, 1) := by decide +kernel
theorem dL_law_345 : decode cL_law 345 = .ok (.iaload, 1) := by decide +kernel
theorem dL_law_346 : decode cL_law 346 = .ok (.aload_n 0, 1) := by decide +kernel
theorem dL_law_347 : decode cL_law 347 = .ok (.iload_n 3, 1) := by decide +kernel
theorem dL_law_348 : decode cL_law 348 = .ok (.iconst 2, 1) := by decide +kernel
theorem dL_law_349 : decode cL_law 349 = .ok (.iadd, 1) := by decide +kernel
theorem dL_law_350 : decode cL_law 350 = .ok (.iaload, 1) := by decide +kernel
theorem dL_law_351 : decode cL_law 351 = .ok (.invokevirtual 44, 3) := by decide +kernel
theorem dL_law_354 : decode cL_law 354 = .ok (.if_icmp .eq 655, 3) := by decide +kernel
theorem dL_law_357 : decode cL_law 357 = .ok (.iconst 0, 1) := by decide +kernel
theorem dL_law_358 : decode cL_law 358 = .ok (.ireturn, 1) := by decide +kernel
theorem dL_law_359 : decode cL_law 359 = .ok (.aload_n 1, 1) := by decide +kernel
theorem dL_law_360 : decode cL_law 360 = .ok (.invokevirtual 45, 3) := by decide +kernel
theorem dL_law_363 : decode cL_law 363 = .ok (.aload_n 2, 1) := by decide +kernel
theorem dL_law_364 : decode cL_law 364 = .ok (.invokevirtual 48, 3) := by decide +kernel
theorem dL_law_367 : decode cL_law 367 = .ok (.if_icmp .eq 642, 3) := by decide +kernel
theorem dL_law_370 : decode cL_law 370 = .ok (.iconst 0, 1) := by decide +kernel
theorem dL_law_371 : decode cL_law 371 = .ok (.ireturn, 1) := by decide +kernel
theorem dL_law_372 : decode cL_law 372 = .ok (.aload_n 1, 1) := by decide +kernel
theorem dL_law_373 : decode cL_law 373 = .ok (.aload_n 0, 1) := by decide +kernel
theorem dL_law_374 : decode cL_law 374 = .ok (.iload_n 3, 1) := by decide +kernel
theorem dL_law_375 : decode cL_law 375 = .ok (.iconst 1, 1) := by decide +kernel
theorem dL_law_376 : decode cL_law 376 = .ok (.iadd, 1) := by decide +kernel
theorem dL_law_377 : decode cL_law 377 = .ok (.iaload, 1) := by decide +kernel
theorem dL_law_378 : decode cL_law 378 = .ok (.invokevirtual 49, 3) := by decide +kernel
theorem dL_law_381 : decode cL_law 381 = .ok (.aload_n 2, 1) := by decide +kernel
theorem dL_law_382 : decode cL_law 382 = .ok (.aload_n 0, 1) := by decide +kernel
theorem dL_law_383 : decode cL_law 383 = .ok (.iload_n 3, 1) := by decide +kernel
theorem dL_law_384 : decode cL_law 384 = .ok (.iconst 1, 1) := by decide +kernel
theorem dL_law_385 : decode cL_law 385 = .ok (.iadd, 1) := by decide +kernel
theorem dL_law_386 : decode cL_law 386 = .ok (.iaload, 1) := by decide +kernel
theorem dL_law_387 : decode cL_law 387 = .ok (.invokevirtual 52, 3) := by decide +kernel
theorem dL_law_390 : decode cL_law 390 = .ok (.if_icmp .eq 619, 3) := by decide +kernel
theorem dL_law_393 : decode cL_law 393 = .ok (.iconst 0, 1) := by decide +kernel
theorem dL_law_394 : decode cL_law 394 = .ok (.ireturn, 1) := by decide +kernel
theorem dL_law_395 : decode cL_law 395 = .ok (.aload_n 1, 1) := by decide +kernel
theorem dL_law_396 : decode cL_law 396 = .ok (.invokevirtual 53, 3) := by decide +kernel
theorem dL_law_399 : decode cL_law 399 = .ok (.aload_n 2, 1) := by decide +kernel
theorem dL_law_400 : decode cL_law 400 = .ok (.invokevirtual 56, 3) := by decide +kernel
theorem dL_law_403 : decode cL_law 403 = .ok (.if_icmp .eq 606, 3) := by decide +kernel
theorem dL_law_406 : decode cL_law 406 = .ok (.iconst 0, 1) := by decide +kernel
theorem dL_law_407 : decode cL_law 407 = .ok (.ireturn, 1) := by decide +kernel
theorem dL_law_408 : decode cL_law 408 = .ok (.aload_n 1, 1) := by decide +kernel
theorem dL_law_409 : decode cL_law 409 = .ok (.invokevirtual 57, 3) := by decide +kernel
theorem dL_law_412 : decode cL_law 412 = .ok (.aload_n 2, 1) := by decide +kernel
theorem dL_law_413 : decode cL_law 413 = .ok (.invokevirtual 60, 3) := by decide +kernel
theorem dL_law_416 : decode cL_law 416 = .ok (.if_icmp .eq 593, 3) := by decide +kernel
theorem dL_law_419 : decode cL_law 419 = .ok (.iconst 0, 1) := by decide +kernel
theorem dL_law_420 : decode cL_law 420 = .ok (.ireturn, 1) := by decide +kernel
theorem dL_law_421 : decode cL_law 421 = .ok (.aload_n 1, 1) := by decide +kernel
theorem dL_law_422 : decode cL_law 422 = .ok (.aload_n 0, 1) := by decide +kernel
theorem dL_law_423 : decode cL_law 423 = .ok (.iload_n 3, 1) := by decide +kernel
theorem dL_law_424 : decode cL_law 424 = .ok (.iconst 1, 1) := by decide +kernel
theorem dL_law_425 : decode cL_law 425 = .ok (.iadd, 1) := by decide +kernel
theorem dL_law_426 : decode cL_law 426 = .ok (.iaload, 1) := by decide +kernel
theorem dL_law_427 : decode cL_law 427 = .ok (.aload_n 0, 1) := by decide +kernel
theorem dL_law_428 : decode cL_law 428 = .ok (.iload_n 3, 1) := by decide +kernel
theorem dL_law_429 : decode cL_law 429 = .ok (.iconst 2, 1) := by decide +kernel
theorem dL_law_430 : decode cL_law 430 = .ok (.iadd, 1) := by decide +kernel
theorem dL_law_431 : decode cL_law 431 = .ok (.iaload, 1) := by decide +kernel
theorem dL_law_432 : decode cL_law 432 = .ok (.invokevirtual 61, 3) := by decide +kernel
theorem dL_law_435 : decode cL_law 435 = .ok (.aload_n 2, 1) := by decide +kernel
theorem dL_law_436 : decode cL_law 436 = .ok (.aload_n 0, 1) := by decide +kernel
theorem dL_law_437 : decode cL_law 437 = .ok (.iload_n 3, 1) := by decide +kernel
theorem dL_law_438 : decode cL_law 438 = .ok (.iconst 1, 1) := by decide +kernel
theorem dL_law_439 : decode cL_law 439 = .ok (.iadd, 1) := by decide +kernel
theorem dL_law_440 : decode cL_law 440 = .ok (.iaload, 1) := by decide +kernel
theorem dL_law_441 : decode cL_law 441 = .ok (.aload_n 0, 1) := by decide +kernel
theorem dL_law_442 : decode cL_law 442 = .ok (.iload_n 3, 1) := by decide +kernel
theorem dL_law_443 : decode cL_law 443 = .ok (.iconst 2, 1) := by decide +kernel
theorem dL_law_444 : decode cL_law 444 = .ok (.iadd, 1) := by decide +kernel
theorem dL_law_445 : decode cL_law 445 = .ok (.iaload, 1) := by decide +kernel
theorem dL_law_446 : decode cL_law 446 = .ok (.invokevirtual 64, 3) := by decide +kernel
theorem dL_law_449 : decode cL_law 449 = .ok (.if_icmp .eq 560, 3) := by decide +kernel
theorem dL_law_452 : decode cL_law 452 = .ok (.iconst 0, 1) := by decide +kernel
theorem dL_law_453 : decode cL_law 453 = .ok (.ireturn, 1) := by decide +kernel
theorem dL_law_454 : decode cL_law 454 = .ok (.aload_n 1, 1) := by decide +kernel
theorem dL_law_455 : decode cL_law 455 = .ok (.invokevirtual 65, 3) := by decide +kernel
theorem dL_law_458 : decode cL_law 458 = .ok (.aload_n 2, 1) := by decide +kernel
theorem dL_law_459 : decode cL_law 459 = .ok (.invokevirtual 68, 3) := by decide +kernel
theorem dL_law_462 : decode cL_law 462 = .ok (.if_icmp .eq 547, 3) := by decide +kernel
theorem dL_law_465 : decode cL_law 465 = .ok (.iconst 0, 1) := by decide +kernel
theorem dL_law_466 : decode cL_law 466 = .ok (.ireturn, 1) := by decide +kernel
theorem dL_law_467 : decode cL_law 467 = .ok (.aload_n 1, 1) := by decide +kernel
theorem dL_law_468 : decode cL_law 468 = .ok (.aload_n 0, 1) := by decide +kernel
theorem dL_law_469 : decode cL_law 469 = .ok (.iload_n 3, 1) := by decide +kernel
theorem dL_law_470 : decode cL_law 470 = .ok (.iconst 1, 1) := by decide +kernel
theorem dL_law_471 : decode cL_law 471 = .ok (.iadd, 1) := by decide +kernel
theorem dL_law_472 : decode cL_law 472 = .ok (.iaload, 1) := by decide +kernel
theorem dL_law_473 : decode cL_law 473 = .ok (.aload_n 0, 1) := by decide +kernel
theorem dL_law_474 : decode cL_law 474 = .ok (.iload_n 3, 1) := by decide +kernel
theorem dL_law_475 : decode cL_law 475 = .ok (.iconst 2, 1) := by decide +kernel
theorem dL_law_476 : decode cL_law 476 = .ok (.iadd, 1) := by decide +kernel
theorem dL_law_477 : decode cL_law 477 = .ok (.iaload, 1) := by decide +kernel
theorem dL_law_478 : decode cL_law 478 = .ok (.invokevirtual 69, 3) := by decide +kernel
theorem dL_law_481 : decode cL_law 481 = .ok (.aload_n 2, 1) := by decide +kernel
theorem dL_law_482 : decode cL_law 482 = .ok (.aload_n 0, 1) := by decide +kernel
theorem dL_law_483 : decode cL_law 483 = .ok (.iload_n 3, 1) := by decide +kernel
theorem dL_law_484 : decode cL_law 484 = .ok (.iconst 1, 1) := by decide +kernel
theorem dL_law_485 : decode cL_law 485 = .ok (.iadd, 1) := by decide +kernel
theorem dL_law_486 : decode cL_law 486 = .ok (.iaload, 1) := by decide +kernel
theorem dL_law_487 : decode cL_law 487 = .ok (.aload_n 0, 1) := by decide +kernel
theorem dL_law_488 : decode cL_law 488 = .ok (.iload_n 3, 1) := by decide +kernel
theorem dL_law_489 : decode cL_law 489 = .ok (.iconst 2, 1) := by decide +kernel
theorem dL_law_490 : decode cL_law 490 = .ok (.iadd, 1) := by decide +kernel
theorem dL_law_491 : decode cL_law 491 = .ok (.iaload, 1) := by decide +kernel
theorem dL_law_492 : decode cL_law 492 = .ok (.invokevirtual 72, 3) := by decide +kernel
theorem dL_law_495 : decode cL_law 495 = .ok (.if_icmp .eq 514, 3) := by decide +kernel
theorem dL_law_498 : decode cL_law 498 = .ok (.iconst 0, 1) := by decide +kernel
theorem dL_law_499 : decode cL_law 499 = .ok (.ireturn, 1) := by decide +kernel
theorem dL_law_500 : decode cL_law 500 = .ok (.aload_n 1, 1) := by decide +kernel
theorem dL_law_501 : decode cL_law 501 = .ok (.aload_n 0, 1) := by decide +kernel
theorem dL_law_502 : decode cL_law 502 = .ok (.iload_n 3, 1) := by decide +kernel
theorem dL_law_503 : decode cL_law 503 = .ok (.iconst 1, 1) := by decide +kernel
theorem dL_law_504 : decode cL_law 504 = .ok (.iadd, 1) := by decide +kernel
theorem dL_law_505 : decode cL_law 505 = .ok (.iaload, 1) := by decide +kernel
theorem dL_law_506 : decode cL_law 506 = .ok (.invokevirtual 73, 3) := by decide +kernel
theorem dL_law_509 : decode cL_law 509 = .ok (.aload_n 2, 1) := by decide +kernel
theorem dL_law_510 : decode cL_law 510 = .ok (.aload_n 0, 1) := by decide +kernel
theorem dL_law_511 : decode cL_law 511 = .ok (.iload_n 3, 1) := by decide +kernel
theorem dL_law_512 : decode cL_law 512 = .ok (.iconst 1, 1) := by decide +kernel
theorem dL_law_513 : decode cL_law 513 = .ok (.iadd, 1) := by decide +kernel
theorem dL_law_514 : decode cL_law 514 = .ok (.iaload, 1) := by decide +kernel
theorem dL_law_515 : decode cL_law 515 = .ok (.invokevirtual 76, 3) := by decide +kernel
theorem dL_law_518 : decode cL_law 518 = .ok (.if_icmp .eq 491, 3) := by decide +kernel
theorem dL_law_521 : decode cL_law 521 = .ok (.iconst 0, 1) := by decide +kernel
theorem dL_law_522 : decode cL_law 522 = .ok (.ireturn, 1) := by decide +kernel
theorem dL_law_523 : decode cL_law 523 = .ok (.aload_n 1, 1) := by decide +kernel
theorem dL_law_524 : decode cL_law 524 = .ok (.aload_n 0, 1) := by decide +kernel
theorem dL_law_525 : decode cL_law 525 = .ok (.iload_n 3, 1) := by decide +kernel
theorem dL_law_526 : decode cL_law 526 = .ok (.iconst 1, 1) := by decide +kernel
theorem dL_law_527 : decode cL_law 527 = .ok (.iadd, 1) := by decide +kernel
theorem dL_law_528 : decode cL_law 528 = .ok (.iaload, 1) := by decide +kernel
theorem dL_law_529 : decode cL_law 529 = .ok (.aload_n 0, 1) := by decide +kernel
theorem dL_law_530 : decode cL_law 530 = .ok (.iload_n 3, 1) := by decide +kernel
theorem dL_law_531 : decode cL_law 531 = .ok (.iconst 2, 1) := by decide +kernel
theorem dL_law_532 : decode cL_law 532 = .ok (.iadd, 1) := by decide +kernel
theorem dL_law_533 : decode cL_law 533 = .ok (.iaload, 1) := by decide +kernel
theorem dL_law_534 : decode cL_law 534 = .ok (.invokevirtual 77, 3) := by decide +kernel
theorem dL_law_537 : decode cL_law 537 = .ok (.aload_n 2, 1) := by decide +kernel
theorem dL_law_538 : decode cL_law 538 = .ok (.aload_n 0, 1) := by decide +kernel
theorem dL_law_539 : decode cL_law 539 = .ok (.iload_n 3, 1) := by decide +kernel
theorem dL_law_540 : decode cL_law 540 = .ok (.iconst 1, 1) := by decide +kernel
theorem dL_law_541 : decode cL_law 541 = .ok (.iadd, 1) := by decide +kernel
theorem dL_law_542 : decode cL_law 542 = .ok (.iaload, 1) := by decide +kernel
theorem dL_law_543 : decode cL_law 543 = .ok (.aload_n 0, 1) := by decide +kernel
theorem dL_law_544 : decode cL_law 544 = .ok (.iload_n 3, 1) := by decide +kernel
theorem dL_law_545 : decode cL_law 545 = .ok (.iconst 2, 1) := by decide +kernel
theorem dL_law_546 : decode cL_law 546 = .ok (.iadd, 1) := by decide +kernel
theorem dL_law_547 : decode cL_law 547 = .ok (.iaload, 1) := by decide +kernel
theorem dL_law_548 : decode cL_law 548 = .ok (.invokevirtual 80, 3) := by decide +kernel
theorem dL_law_551 : decode cL_law 551 = .ok (.if_icmp .eq 458, 3) := by decide +kernel
theorem dL_law_554 : decode cL_law 554 = .ok (.iconst 0, 1) := by decide +kernel
theorem dL_law_555 : decode cL_law 555 = .ok (.ireturn, 1) := by decide +kernel
theorem dL_law_556 : decode cL_law 556 = .ok (.aload_n 1, 1) := by decide +kernel
theorem dL_law_557 : decode cL_law 557 = .ok (.aload_n 0, 1) := by decide +kernel
theorem dL_law_558 : decode cL_law 558 = .ok (.iload_n 3, 1) := by decide +kernel
theorem dL_law_559 : decode cL_law 559 = .ok (.iconst 1, 1) := by decide +kernel
theorem dL_law_560 : decode cL_law 560 = .ok (.iadd, 1) := by decide +kernel
theorem dL_law_561 : decode cL_law 561 = .ok (.iaload, 1) := by decide +kernel
theorem dL_law_562 : decode cL_law 562 = .ok (.aload_n 0, 1) := by decide +kernel
theorem dL_law_563 : decode cL_law 563 = .ok (.iload_n 3, 1) := by decide +kernel
theorem dL_law_564 : decode cL_law 564 = .ok (.iconst 2, 1) := by decide +kernel
theorem dL_law_565 : decode cL_law 565 = .ok (.iadd, 1) := by decide +kernel
theorem dL_law_566 : decode cL_law 566 = .ok (.iaload, 1) := by decide +kernel
theorem dL_law_567 : decode cL_law 567 = .ok (.aload_n 0, 1) := by decide +kernel
theorem dL_law_568 : decode cL_law 568 = .ok (.iload_n 3, 1) := by decide +kernel
theorem dL_law_569 : decode cL_law 569 = .ok (.iconst 3, 1) := by decide +kernel
theorem dL_law_570 : decode cL_law 570 = .ok (.iadd, 1) := by decide +kernel
theorem dL_law_571 : decode cL_law 571 = .ok (.iaload, 1) := by decide +kernel
theorem dL_law_572 : decode cL_law 572 = .ok (.invokevirtual 81, 3) := by decide +kernel
theorem dL_law_575 : decode cL_law 575 = .ok (.aload_n 2, 1) := by decide +kernel
theorem dL_law_576 : decode cL_law 576 = .ok (.aload_n 0, 1) := by decide +kernel
theorem dL_law_577 : decode cL_law 577 = .ok (.iload_n 3, 1) := by decide +kernel
theorem dL_law_578 : decode cL_law 578 = .ok (.iconst 1, 1) := by decide +kernel
theorem dL_law_579 : decode cL_law 579 = .ok (.iadd, 1) := by decide +kernel
theorem dL_law_580 : decode cL_law 580 = .ok (.iaload, 1) := by decide +kernel
theorem dL_law_581 : decode cL_law 581 = .ok (.aload_n 0, 1) := by decide +kernel
theorem dL_law_582 : decode cL_law 582 = .ok (.iload_n 3, 1) := by decide +kernel
theorem dL_law_583 : decode cL_law 583 = .ok (.iconst 2, 1) := by decide +kernel
theorem dL_law_584 : decode cL_law 584 = .ok (.iadd, 1) := by decide +kernel
theorem dL_law_585 : decode cL_law 585 = .ok (.iaload, 1) := by decide +kernel
theorem dL_law_586 : decode cL_law 586 = .ok (.aload_n 0, 1) := by decide +kernel
theorem dL_law_587 : decode cL_law 587 = .ok (.iload_n 3, 1) := by decide +kernel
theorem dL_law_588 : decode cL_law 588 = .ok (.iconst 3, 1) := by decide +kernel
theorem dL_law_589 : decode cL_law 589 = .ok (.iadd, 1) := by decide +kernel
theorem dL_law_590 : decode cL_law 590 = .ok (.iaload, 1) := by decide +kernel
theorem dL_law_591 : decode cL_law 591 = .ok (.invokevirtual 85, 3) := by decide +kernel
theorem dL_law_594 : decode cL_law 594 = .ok (.if_icmp .eq 415, 3) := by decide +kernel
theorem dL_law_597 : decode cL_law 597 = .ok (.iconst 0, 1) := by decide +kernel
theorem dL_law_598 : decode cL_law 598 = .ok (.ireturn, 1) := by decide +kernel
theorem dL_law_599 : decode cL_law 599 = .ok (.aload_n 1, 1) := by decide +kernel
theorem dL_law_600 : decode cL_law 600 = .ok (.aload_n 0, 1) := by decide +kernel
theorem dL_law_601 : decode cL_law 601 = .ok (.iload_n 3, 1) := by decide +kernel
theorem dL_law_602 : decode cL_law 602 = .ok (.iconst 1, 1) := by decide +kernel
theorem dL_law_603 : decode cL_law 603 = .ok (.iadd, 1) := by decide +kernel
theorem dL_law_604 : decode cL_law 604 = .ok (.iaload, 1) := by decide +kernel
theorem dL_law_605 : decode cL_law 605 = .ok (.aload_n 0, 1) := by decide +kernel
theorem dL_law_606 : decode cL_law 606 = .ok (.iload_n 3, 1) := by decide +kernel
theorem dL_law_607 : decode cL_law 607 = .ok (.iconst 2, 1) := by decide +kernel
theorem dL_law_608 : decode cL_law 608 = .ok (.iadd, 1) := by decide +kernel
theorem dL_law_609 : decode cL_law 609 = .ok (.iaload, 1) := by decide +kernel
theorem dL_law_610 : decode cL_law 610 = .ok (.aload_n 0, 1) := by decide +kernel
theorem dL_law_611 : decode cL_law 611 = .ok (.iload_n 3, 1) := by decide +kernel
theorem dL_law_612 : decode cL_law 612 = .ok (.iconst 3, 1) := by decide +kernel
theorem dL_law_613 : decode cL_law 613 = .ok (.iadd, 1) := by decide +kernel
theorem dL_law_614 : decode cL_law 614 = .ok (.iaload, 1) := by decide +kernel
theorem dL_law_615 : decode cL_law 615 = .ok (.invokevirtual 86, 3) := by decide +kernel
theorem dL_law_618 : decode cL_law 618 = .ok (.aload_n 2, 1) := by decide +kernel
theorem dL_law_619 : decode cL_law 619 = .ok (.aload_n 0, 1) := by decide +kernel
theorem dL_law_620 : decode cL_law 620 = .ok (.iload_n 3, 1) := by decide +kernel
theorem dL_law_621 : decode cL_law 621 = .ok (.iconst 1, 1) := by decide +kernel
theorem dL_law_622 : decode cL_law 622 = .ok (.iadd, 1) := by decide +kernel
theorem dL_law_623 : decode cL_law 623 = .ok (.iaload, 1) := by decide +kernel
theorem dL_law_624 : decode cL_law 624 = .ok (.aload_n 0, 1) := by decide +kernel
theorem dL_law_625 : decode cL_law 625 = .ok (.iload_n 3, 1) := by decide +kernel
theorem dL_law_626 : decode cL_law 626 = .ok (.iconst 2, 1) := by decide +kernel
theorem dL_law_627 : decode cL_law 627 = .ok (.iadd, 1) := by decide +kernel
theorem dL_law_628 : decode cL_law 628 = .ok (.iaload, 1) := by decide +kernel
theorem dL_law_629 : decode cL_law 629 = .ok (.aload_n 0, 1) := by decide +kernel
theorem dL_law_630 : decode cL_law 630 = .ok (.iload_n 3, 1) := by decide +kernel
theorem dL_law_631 : decode cL_law 631 = .ok (.iconst 3, 1) := by decide +kernel
theorem dL_law_632 : decode cL_law 632 = .ok (.iadd, 1) := by decide +kernel
theorem dL_law_633 : decode cL_law 633 = .ok (.iaload, 1) := by decide +kernel
theorem dL_law_634 : decode cL_law 634 = .ok (.invokevirtual 89, 3) := by decide +kernel
theorem dL_law_637 : decode cL_law 637 = .ok (.if_icmp .eq 372, 3) := by decide +kernel
theorem dL_law_640 : decode cL_law 640 = .ok (.iconst 0, 1) := by decide +kernel
theorem dL_law_641 : decode cL_law 641 = .ok (.ireturn, 1) := by decide +kernel
theorem dL_law_642 : decode cL_law 642 = .ok (.aload_n 1, 1) := by decide +kernel
theorem dL_law_643 : decode cL_law 643 = .ok (.aload_n 0, 1) := by decide +kernel
theorem dL_law_644 : decode cL_law 644 = .ok (.iload_n 3, 1) := by decide +kernel
theorem dL_law_645 : decode cL_law 645 = .ok (.iconst 1, 1) := by decide +kernel
theorem dL_law_646 : decode cL_law 646 = .ok (.iadd, 1) := by decide +kernel
theorem dL_law_647 : decode cL_law 647 = .ok (.iaload, 1) := by decide +kernel
theorem dL_law_648 : decode cL_law 648 = .ok (.aload_n 0, 1) := by decide +kernel
theorem dL_law_649 : decode cL_law 649 = .ok (.iload_n 3, 1) := by decide +kernel
theorem dL_law_650 : decode cL_law 650 = .ok (.iconst 2, 1) := by decide +kernel
theorem dL_law_651 : decode cL_law 651 = .ok (.iadd, 1) := by decide +kernel
theorem dL_law_652 : decode cL_law 652 = .ok (.iaload, 1) := by decide +kernel
theorem dL_law_653 : decode cL_law 653 = .ok (.invokevirtual 90, 3) := by decide +kernel
theorem dL_law_656 : decode cL_law 656 = .ok (.aload_n 2, 1) := by decide +kernel
theorem dL_law_657 : decode cL_law 657 = .ok (.aload_n 0, 1) := by decide +kernel
theorem dL_law_658 : decode cL_law 658 = .ok (.iload_n 3, 1) := by decide +kernel
theorem dL_law_659 : decode cL_law 659 = .ok (.iconst 1, 1) := by decide +kernel
theorem dL_law_660 : decode cL_law 660 = .ok (.iadd, 1) := by decide +kernel
theorem dL_law_661 : decode cL_law 661 = .ok (.iaload, 1) := by decide +kernel
theorem dL_law_662 : decode cL_law 662 = .ok (.aload_n 0, 1) := by decide +kernel
theorem dL_law_663 : decode cL_law 663 = .ok (.iload_n 3, 1) := by decide +kernel
theorem dL_law_664 : decode cL_law 664 = .ok (.iconst 2, 1) := by decide +kernel
theorem dL_law_665 : decode cL_law 665 = .ok (.iadd, 1) := by decide +kernel
theorem dL_law_666 : decode cL_law 666 = .ok (.iaload, 1) := by decide +kernel
theorem dL_law_667 : decode cL_law 667 = .ok (.invokevirtual 94, 3) := by decide +kernel
theorem dL_law_670 : decode cL_law 670 = .ok (.lcmp, 1) := by decide +kernel
theorem dL_law_671 : decode cL_law 671 = .ok (.ifCond .eq 338, 3) := by decide +kernel
theorem dL_law_674 : decode cL_law 674 = .ok (.iconst 0, 1) := by decide +kernel
theorem dL_law_675 : decode cL_law 675 = .ok (.ireturn, 1) := by decide +kernel
theorem dL_law_676 : decode cL_law 676 = .ok (.aload_n 1, 1) := by decide +kernel
theorem dL_law_677 : decode cL_law 677 = .ok (.aload_n 0, 1) := by decide +kernel
theorem dL_law_678 : decode cL_law 678 = .ok (.iload_n 3, 1) := by decide +kernel
theorem dL_law_679 : decode cL_law 679 = .ok (.iconst 1, 1) := by decide +kernel
theorem dL_law_680 : decode cL_law 680 = .ok (.iadd, 1) := by decide +kernel
theorem dL_law_681 : decode cL_law 681 = .ok (.iaload, 1) := by decide +kernel
theorem dL_law_682 : decode cL_law 682 = .ok (.aload_n 0, 1) := by decide +kernel
theorem dL_law_683 : decode cL_law 683 = .ok (.iload_n 3, 1) := by decide +kernel
theorem dL_law_684 : decode cL_law 684 = .ok (.iconst 2, 1) := by decide +kernel
theorem dL_law_685 : decode cL_law 685 = .ok (.iadd, 1) := by decide +kernel
theorem dL_law_686 : decode cL_law 686 = .ok (.iaload, 1) := by decide +kernel
theorem dL_law_687 : decode cL_law 687 = .ok (.i2l, 1) := by decide +kernel
theorem dL_law_688 : decode cL_law 688 = .ok (.bipush 32, 2) := by decide +kernel
theorem dL_law_690 : decode cL_law 690 = .ok (.lshl, 1) := by decide +kernel
theorem dL_law_691 : decode cL_law 691 = .ok (.aload_n 0, 1) := by decide +kernel
theorem dL_law_692 : decode cL_law 692 = .ok (.iload_n 3, 1) := by decide +kernel
theorem dL_law_693 : decode cL_law 693 = .ok (.iconst 3, 1) := by decide +kernel
theorem dL_law_694 : decode cL_law 694 = .ok (.iadd, 1) := by decide +kernel
theorem dL_law_695 : decode cL_law 695 = .ok (.iaload, 1) := by decide +kernel
theorem dL_law_696 : decode cL_law 696 = .ok (.i2l, 1) := by decide +kernel
theorem dL_law_697 : decode cL_law 697 = .ok (.ldc2_w 95, 3) := by decide +kernel
theorem dL_law_700 : decode cL_law 700 = .ok (.land, 1) := by decide +kernel
theorem dL_law_701 : decode cL_law 701 = .ok (.lor, 1) := by decide +kernel
theorem dL_law_702 : decode cL_law 702 = .ok (.invokevirtual 97, 3) := by decide +kernel
theorem dL_law_705 : decode cL_law 705 = .ok (.aload_n 2, 1) := by decide +kernel
theorem dL_law_706 : decode cL_law 706 = .ok (.aload_n 0, 1) := by decide +kernel
theorem dL_law_707 : decode cL_law 707 = .ok (.iload_n 3, 1) := by decide +kernel
theorem dL_law_708 : decode cL_law 708 = .ok (.iconst 1, 1) := by decide +kernel
theorem dL_law_709 : decode cL_law 709 = .ok (.iadd, 1) := by decide +kernel
theorem dL_law_710 : decode cL_law 710 = .ok (.iaload, 1) := by decide +kernel
theorem dL_law_711 : decode cL_law 711 = .ok (.aload_n 0, 1) := by decide +kernel
theorem dL_law_712 : decode cL_law 712 = .ok (.iload_n 3, 1) := by decide +kernel
theorem dL_law_713 : decode cL_law 713 = .ok (.iconst 2, 1) := by decide +kernel
theorem dL_law_714 : decode cL_law 714 = .ok (.iadd, 1) := by decide +kernel
theorem dL_law_715 : decode cL_law 715 = .ok (.iaload, 1) := by decide +kernel
theorem dL_law_716 : decode cL_law 716 = .ok (.i2l, 1) := by decide +kernel
theorem dL_law_717 : decode cL_law 717 = .ok (.bipush 32, 2) := by decide +kernel
theorem dL_law_719 : decode cL_law 719 = .ok (.lshl, 1) := by decide +kernel
theorem dL_law_720 : decode cL_law 720 = .ok (.aload_n 0, 1) := by decide +kernel
theorem dL_law_721 : decode cL_law 721 = .ok (.iload_n 3, 1) := by decide +kernel
theorem dL_law_722 : decode cL_law 722 = .ok (.iconst 3, 1) := by decide +kernel
theorem dL_law_723 : decode cL_law 723 = .ok (.iadd, 1) := by decide +kernel
theorem dL_law_724 : decode cL_law 724 = .ok (.iaload, 1) := by decide +kernel
theorem dL_law_725 : decode cL_law 725 = .ok (.i2l, 1) := by decide +kernel
theorem dL_law_726 : decode cL_law 726 = .ok (.ldc2_w 95, 3) := by decide +kernel
theorem dL_law_729 : decode cL_law 729 = .ok (.land, 1) := by decide +kernel
theorem dL_law_730 : decode cL_law 730 = .ok (.lor, 1) := by decide +kernel
theorem dL_law_731 : decode cL_law 731 = .ok (.invokevirtual 101, 3) := by decide +kernel
theorem dL_law_734 : decode cL_law 734 = .ok (.if_icmp .eq 275, 3) := by decide +kernel
theorem dL_law_737 : decode cL_law 737 = .ok (.iconst 0, 1) := by decide +kernel
theorem dL_law_738 : decode cL_law 738 = .ok (.ireturn, 1) := by decide +kernel
theorem dL_law_739 : decode cL_law 739 = .ok (.aload_n 1, 1) := by decide +kernel
theorem dL_law_740 : decode cL_law 740 = .ok (.aload_n 0, 1) := by decide +kernel
theorem dL_law_741 : decode cL_law 741 = .ok (.iload_n 3, 1) := by decide +kernel
theorem dL_law_742 : decode cL_law 742 = .ok (.iconst 1, 1) := by decide +kernel
theorem dL_law_743 : decode cL_law 743 = .ok (.iadd, 1) := by decide +kernel
theorem dL_law_744 : decode cL_law 744 = .ok (.iaload, 1) := by decide +kernel
theorem dL_law_745 : decode cL_law 745 = .ok (.invokevirtual 102, 3) := by decide +kernel
theorem dL_law_748 : decode cL_law 748 = .ok (.aload_n 2, 1) := by decide +kernel
theorem dL_law_749 : decode cL_law 749 = .ok (.aload_n 0, 1) := by decide +kernel
theorem dL_law_750 : decode cL_law 750 = .ok (.iload_n 3, 1) := by decide +kernel
theorem dL_law_751 : decode cL_law 751 = .ok (.iconst 1, 1) := by decide +kernel
theorem dL_law_752 : decode cL_law 752 = .ok (.iadd, 1) := by decide +kernel
theorem dL_law_753 : decode cL_law 753 = .ok (.iaload, 1) := by decide +kernel
theorem dL_law_754 : decode cL_law 754 = .ok (.invokevirtual 106, 3) := by decide +kernel
theorem dL_law_757 : decode cL_law 757 = .ok (.if_icmp .eq 252, 3) := by decide +kernel
theorem dL_law_760 : decode cL_law 760 = .ok (.iconst 0, 1) := by decide +kernel
theorem dL_law_761 : decode cL_law 761 = .ok (.ireturn, 1) := by decide +kernel
theorem dL_law_762 : decode cL_law 762 = .ok (.aload_n 1, 1) := by decide +kernel
theorem dL_law_763 : decode cL_law 763 = .ok (.aload_n 0, 1) := by decide +kernel
theorem dL_law_764 : decode cL_law 764 = .ok (.iload_n 3, 1) := by decide +kernel
theorem dL_law_765 : decode cL_law 765 = .ok (.iconst 1, 1) := by decide +kernel
theorem dL_law_766 : decode cL_law 766 = .ok (.iadd, 1) := by decide +kernel
theorem dL_law_767 : decode cL_law 767 = .ok (.iaload, 1) := by decide +kernel
theorem dL_law_768 : decode cL_law 768 = .ok (.invokevirtual 107, 3) := by decide +kernel
theorem dL_law_771 : decode cL_law 771 = .ok (.aload_n 2, 1) := by decide +kernel
theorem dL_law_772 : decode cL_law 772 = .ok (.aload_n 0, 1) := by decide +kernel
theorem dL_law_773 : decode cL_law 773 = .ok (.iload_n 3, 1) := by decide +kernel
theorem dL_law_774 : decode cL_law 774 = .ok (.iconst 1, 1) := by decide +kernel
theorem dL_law_775 : decode cL_law 775 = .ok (.iadd, 1) := by decide +kernel
theorem dL_law_776 : decode cL_law 776 = .ok (.iaload, 1) := by decide +kernel
theorem dL_law_777 : decode cL_law 777 = .ok (.invokevirtual 110, 3) := by decide +kernel
theorem dL_law_780 : decode cL_law 780 = .ok (.if_icmp .eq 229, 3) := by decide +kernel
theorem dL_law_783 : decode cL_law 783 = .ok (.iconst 0, 1) := by decide +kernel
theorem dL_law_784 : decode cL_law 784 = .ok (.ireturn, 1) := by decide +kernel
theorem dL_law_785 : decode cL_law 785 = .ok (.aload_n 1, 1) := by decide +kernel
theorem dL_law_786 : decode cL_law 786 = .ok (.aload_n 0, 1) := by decide +kernel
theorem dL_law_787 : decode cL_law 787 = .ok (.iload_n 3, 1) := by decide +kernel
theorem dL_law_788 : decode cL_law 788 = .ok (.iconst 1, 1) := by decide +kernel
theorem dL_law_789 : decode cL_law 789 = .ok (.iadd, 1) := by decide +kernel
theorem dL_law_790 : decode cL_law 790 = .ok (.iaload, 1) := by decide +kernel
theorem dL_law_791 : decode cL_law 791 = .ok (.invokevirtual 111, 3) := by decide +kernel
theorem dL_law_794 : decode cL_law 794 = .ok (.aload_n 2, 1) := by decide +kernel
theorem dL_law_795 : decode cL_law 795 = .ok (.aload_n 0, 1) := by decide +kernel
theorem dL_law_796 : decode cL_law 796 = .ok (.iload_n 3, 1) := by decide +kernel
theorem dL_law_797 : decode cL_law 797 = .ok (.iconst 1, 1) := by decide +kernel
theorem dL_law_798 : decode cL_law 798 = .ok (.iadd, 1) := by decide +kernel
theorem dL_law_799 : decode cL_law 799 = .ok (.iaload, 1) := by decide +kernel
theorem dL_law_800 : decode cL_law 800 = .ok (.invokevirtual 114, 3) := by decide +kernel
theorem dL_law_803 : decode cL_law 803 = .ok (.if_icmp .eq 206, 3) := by decide +kernel
theorem dL_law_806 : decode cL_law 806 = .ok (.iconst 0, 1) := by decide +kernel
theorem dL_law_807 : decode cL_law 807 = .ok (.ireturn, 1) := by decide +kernel
theorem dL_law_808 : decode cL_law 808 = .ok (.aload_n 1, 1) := by decide +kernel
theorem dL_law_809 : decode cL_law 809 = .ok (.aload_n 0, 1) := by decide +kernel
theorem dL_law_810 : decode cL_law 810 = .ok (.iload_n 3, 1) := by decide +kernel
theorem dL_law_811 : decode cL_law 811 = .ok (.iconst 1, 1) := by decide +kernel
theorem dL_law_812 : decode cL_law 812 = .ok (.iadd, 1) := by decide +kernel
theorem dL_law_813 : decode cL_law 813 = .ok (.iaload, 1) := by decide +kernel
theorem dL_law_814 : decode cL_law 814 = .ok (.aload_n 0, 1) := by decide +kernel
theorem dL_law_815 : decode cL_law 815 = .ok (.iload_n 3, 1) := by decide +kernel
theorem dL_law_816 : decode cL_law 816 = .ok (.iconst 2, 1) := by decide +kernel
theorem dL_law_817 : decode cL_law 817 = .ok (.iadd, 1) := by decide +kernel
theorem dL_law_818 : decode cL_law 818 = .ok (.iaload, 1) := by decide +kernel
theorem dL_law_819 : decode cL_law 819 = .ok (.invokevirtual 115, 3) := by decide +kernel
theorem dL_law_822 : decode cL_law 822 = .ok (.aload_n 2, 1) := by decide +kernel
theorem dL_law_823 : decode cL_law 823 = .ok (.aload_n 0, 1) := by decide +kernel
theorem dL_law_824 : decode cL_law 824 = .ok (.iload_n 3, 1) := by decide +kernel
theorem dL_law_825 : decode cL_law 825 = .ok (.iconst 1, 1) := by decide +kernel
theorem dL_law_826 : decode cL_law 826 = .ok (.iadd, 1) := by decide +kernel
theorem dL_law_827 : decode cL_law 827 = .ok (.iaload, 1) := by decide +kernel
theorem dL_law_828 : decode cL_law 828 = .ok (.aload_n 0, 1) := by decide +kernel
theorem dL_law_829 : decode cL_law 829 = .ok (.iload_n 3, 1) := by decide +kernel
theorem dL_law_830 : decode cL_law 830 = .ok (.iconst 2, 1) := by decide +kernel
theorem dL_law_831 : decode cL_law 831 = .ok (.iadd, 1) := by decide +kernel
theorem dL_law_832 : decode cL_law 832 = .ok (.iaload, 1) := by decide +kernel
theorem dL_law_833 : decode cL_law 833 = .ok (.invokevirtual 118, 3) := by decide +kernel
theorem dL_law_836 : decode cL_law 836 = .ok (.if_icmp .eq 173, 3) := by decide +kernel
theorem dL_law_839 : decode cL_law 839 = .ok (.iconst 0, 1) := by decide +kernel
theorem dL_law_840 : decode cL_law 840 = .ok (.ireturn, 1) := by decide +kernel
theorem dL_law_841 : decode cL_law 841 = .ok (.aload_n 1, 1) := by decide +kernel
theorem dL_law_842 : decode cL_law 842 = .ok (.aload_n 0, 1) := by decide +kernel
theorem dL_law_843 : decode cL_law 843 = .ok (.iload_n 3, 1) := by decide +kernel
theorem dL_law_844 : decode cL_law 844 = .ok (.iconst 1, 1) := by decide +kernel
theorem dL_law_845 : decode cL_law 845 = .ok (.iadd, 1) := by decide +kernel
theorem dL_law_846 : decode cL_law 846 = .ok (.iaload, 1) := by decide +kernel
theorem dL_law_847 : decode cL_law 847 = .ok (.aload_n 0, 1) := by decide +kernel
theorem dL_law_848 : decode cL_law 848 = .ok (.iload_n 3, 1) := by decide +kernel
theorem dL_law_849 : decode cL_law 849 = .ok (.iconst 2, 1) := by decide +kernel
theorem dL_law_850 : decode cL_law 850 = .ok (.iadd, 1) := by decide +kernel
theorem dL_law_851 : decode cL_law 851 = .ok (.iaload, 1) := by decide +kernel
theorem dL_law_852 : decode cL_law 852 = .ok (.aload_n 0, 1) := by decide +kernel
theorem dL_law_853 : decode cL_law 853 = .ok (.iload_n 3, 1) := by decide +kernel
theorem dL_law_854 : decode cL_law 854 = .ok (.iconst 3, 1) := by decide +kernel
theorem dL_law_855 : decode cL_law 855 = .ok (.iadd, 1) := by decide +kernel
theorem dL_law_856 : decode cL_law 856 = .ok (.iaload, 1) := by decide +kernel
theorem dL_law_857 : decode cL_law 857 = .ok (.invokevirtual 119, 3) := by decide +kernel
theorem dL_law_860 : decode cL_law 860 = .ok (.aload_n 2, 1) := by decide +kernel
theorem dL_law_861 : decode cL_law 861 = .ok (.aload_n 0, 1) := by decide +kernel
theorem dL_law_862 : decode cL_law 862 = .ok (.iload_n 3, 1) := by decide +kernel
theorem dL_law_863 : decode cL_law 863 = .ok (.iconst 1, 1) := by decide +kernel
theorem dL_law_864 : decode cL_law 864 = .ok (.iadd, 1) := by decide +kernel
theorem dL_law_865 : decode cL_law 865 = .ok (.iaload, 1) := by decide +kernel
theorem dL_law_866 : decode cL_law 866 = .ok (.aload_n 0, 1) := by decide +kernel
theorem dL_law_867 : decode cL_law 867 = .ok (.iload_n 3, 1) := by decide +kernel
theorem dL_law_868 : decode cL_law 868 = .ok (.iconst 2, 1) := by decide +kernel
theorem dL_law_869 : decode cL_law 869 = .ok (.iadd, 1) := by decide +kernel
theorem dL_law_870 : decode cL_law 870 = .ok (.iaload, 1) := by decide +kernel
theorem dL_law_871 : decode cL_law 871 = .ok (.aload_n 0, 1) := by decide +kernel
theorem dL_law_872 : decode cL_law 872 = .ok (.iload_n 3, 1) := by decide +kernel
theorem dL_law_873 : decode cL_law 873 = .ok (.iconst 3, 1) := by decide +kernel
theorem dL_law_874 : decode cL_law 874 = .ok (.iadd, 1) := by decide +kernel
theorem dL_law_875 : decode cL_law 875 = .ok (.iaload, 1) := by decide +kernel
theorem dL_law_876 : decode cL_law 876 = .ok (.invokevirtual 122, 3) := by decide +kernel
theorem dL_law_879 : decode cL_law 879 = .ok (.if_icmp .eq 130, 3) := by decide +kernel
theorem dL_law_882 : decode cL_law 882 = .ok (.iconst 0, 1) := by decide +kernel
theorem dL_law_883 : decode cL_law 883 = .ok (.ireturn, 1) := by decide +kernel
theorem dL_law_884 : decode cL_law 884 = .ok (.aload_n 1, 1) := by decide +kernel
theorem dL_law_885 : decode cL_law 885 = .ok (.aload_n 0, 1) := by decide +kernel
theorem dL_law_886 : decode cL_law 886 = .ok (.iload_n 3, 1) := by decide +kernel
theorem dL_law_887 : decode cL_law 887 = .ok (.iconst 1, 1) := by decide +kernel
theorem dL_law_888 : decode cL_law 888 = .ok (.iadd, 1) := by decide +kernel
theorem dL_law_889 : decode cL_law 889 = .ok (.iaload, 1) := by decide +kernel
theorem dL_law_890 : decode cL_law 890 = .ok (.aload_n 0, 1) := by decide +kernel
theorem dL_law_891 : decode cL_law 891 = .ok (.iload_n 3, 1) := by decide +kernel
theorem dL_law_892 : decode cL_law 892 = .ok (.iconst 2, 1) := by decide +kernel
theorem dL_law_893 : decode cL_law 893 = .ok (.iadd, 1) := by decide +kernel
theorem dL_law_894 : decode cL_law 894 = .ok (.iaload, 1) := by decide +kernel
theorem dL_law_895 : decode cL_law 895 = .ok (.invokevirtual 123, 3) := by decide +kernel
theorem dL_law_898 : decode cL_law 898 = .ok (.aload_n 2, 1) := by decide +kernel
theorem dL_law_899 : decode cL_law 899 = .ok (.aload_n 0, 1) := by decide +kernel
theorem dL_law_900 : decode cL_law 900 = .ok (.iload_n 3, 1) := by decide +kernel
theorem dL_law_901 : decode cL_law 901 = .ok (.iconst 1, 1) := by decide +kernel
theorem dL_law_902 : decode cL_law 902 = .ok (.iadd, 1) := by decide +kernel
theorem dL_law_903 : decode cL_law 903 = .ok (.iaload, 1) := by decide +kernel
theorem dL_law_904 : decode cL_law 904 = .ok (.aload_n 0, 1) := by decide +kernel
theorem dL_law_905 : decode cL_law 905 = .ok (.iload_n 3, 1) := by decide +kernel
theorem dL_law_906 : decode cL_law 906 = .ok (.iconst 2, 1) := by decide +kernel
theorem dL_law_907 : decode cL_law 907 = .ok (.iadd, 1) := by decide +kernel
theorem dL_law_908 : decode cL_law 908 = .ok (.iaload, 1) := by decide +kernel
theorem dL_law_909 : decode cL_law 909 = .ok (.invokevirtual 126, 3) := by decide +kernel
theorem dL_law_912 : decode cL_law 912 = .ok (.if_icmp .eq 97, 3) := by decide +kernel
theorem dL_law_915 : decode cL_law 915 = .ok (.iconst 0, 1) := by decide +kernel
theorem dL_law_916 : decode cL_law 916 = .ok (.ireturn, 1) := by decide +kernel
theorem dL_law_917 : decode cL_law 917 = .ok (.aload_n 1, 1) := by decide +kernel
theorem dL_law_918 : decode cL_law 918 = .ok (.aload_n 0, 1) := by decide +kernel
theorem dL_law_919 : decode cL_law 919 = .ok (.iload_n 3, 1) := by decide +kernel
theorem dL_law_920 : decode cL_law 920 = .ok (.iconst 1, 1) := by decide +kernel
theorem dL_law_921 : decode cL_law 921 = .ok (.iadd, 1) := by decide +kernel
theorem dL_law_922 : decode cL_law 922 = .ok (.iaload, 1) := by decide +kernel
theorem dL_law_923 : decode cL_law 923 = .ok (.invokevirtual 127, 3) := by decide +kernel
theorem dL_law_926 : decode cL_law 926 = .ok (.aload_n 2, 1) := by decide +kernel
theorem dL_law_927 : decode cL_law 927 = .ok (.aload_n 0, 1) := by decide +kernel
theorem dL_law_928 : decode cL_law 928 = .ok (.iload_n 3, 1) := by decide +kernel
theorem dL_law_929 : decode cL_law 929 = .ok (.iconst 1, 1) := by decide +kernel
theorem dL_law_930 : decode cL_law 930 = .ok (.iadd, 1) := by decide +kernel
theorem dL_law_931 : decode cL_law 931 = .ok (.iaload, 1) := by decide +kernel
theorem dL_law_932 : decode cL_law 932 = .ok (.invokevirtual 130, 3) := by decide +kernel
theorem dL_law_935 : decode cL_law 935 = .ok (.if_icmp .eq 74, 3) := by decide +kernel
theorem dL_law_938 : decode cL_law 938 = .ok (.iconst 0, 1) := by decide +kernel
theorem dL_law_939 : decode cL_law 939 = .ok (.ireturn, 1) := by decide +kernel
theorem dL_law_940 : decode cL_law 940 = .ok (.aload_n 1, 1) := by decide +kernel
theorem dL_law_941 : decode cL_law 941 = .ok (.aload_n 0, 1) := by decide +kernel
theorem dL_law_942 : decode cL_law 942 = .ok (.iload_n 3, 1) := by decide +kernel
theorem dL_law_943 : decode cL_law 943 = .ok (.iconst 1, 1) := by decide +kernel
theorem dL_law_944 : decode cL_law 944 = .ok (.iadd, 1) := by decide +kernel
theorem dL_law_945 : decode cL_law 945 = .ok (.iaload, 1) := by decide +kernel
theorem dL_law_946 : decode cL_law 946 = .ok (.invokevirtual 131, 3) := by decide +kernel
theorem dL_law_949 : decode cL_law 949 = .ok (.aload_n 2, 1) := by decide +kernel
theorem dL_law_950 : decode cL_law 950 = .ok (.aload_n 0, 1) := by decide +kernel
theorem dL_law_951 : decode cL_law 951 = .ok (.iload_n 3, 1) := by decide +kernel
theorem dL_law_952 : decode cL_law 952 = .ok (.iconst 1, 1) := by decide +kernel
theorem dL_law_953 : decode cL_law 953 = .ok (.iadd, 1) := by decide +kernel
theorem dL_law_954 : decode cL_law 954 = .ok (.iaload, 1) := by decide +kernel
theorem dL_law_955 : decode cL_law 955 = .ok (.invokevirtual 134, 3) := by decide +kernel
theorem dL_law_958 : decode cL_law 958 = .ok (.if_icmp .eq 51, 3) := by decide +kernel
theorem dL_law_961 : decode cL_law 961 = .ok (.iconst 0, 1) := by decide +kernel
theorem dL_law_962 : decode cL_law 962 = .ok (.ireturn, 1) := by decide +kernel
theorem dL_law_963 : decode cL_law 963 = .ok (.aload_n 1, 1) := by decide +kernel
theorem dL_law_964 : decode cL_law 964 = .ok (.aload_n 0, 1) := by decide +kernel
theorem dL_law_965 : decode cL_law 965 = .ok (.iload_n 3, 1) := by decide +kernel
theorem dL_law_966 : decode cL_law 966 = .ok (.iconst 1, 1) := by decide +kernel
theorem dL_law_967 : decode cL_law 967 = .ok (.iadd, 1) := by decide +kernel
theorem dL_law_968 : decode cL_law 968 = .ok (.iaload, 1) := by decide +kernel
theorem dL_law_969 : decode cL_law 969 = .ok (.invokevirtual 135, 3) := by decide +kernel
theorem dL_law_972 : decode cL_law 972 = .ok (.aload_n 2, 1) := by decide +kernel
theorem dL_law_973 : decode cL_law 973 = .ok (.aload_n 0, 1) := by decide +kernel
theorem dL_law_974 : decode cL_law 974 = .ok (.iload_n 3, 1) := by decide +kernel
theorem dL_law_975 : decode cL_law 975 = .ok (.iconst 1, 1) := by decide +kernel
theorem dL_law_976 : decode cL_law 976 = .ok (.iadd, 1) := by decide +kernel
theorem dL_law_977 : decode cL_law 977 = .ok (.iaload, 1) := by decide +kernel
theorem dL_law_978 : decode cL_law 978 = .ok (.invokevirtual 138, 3) := by decide +kernel
theorem dL_law_981 : decode cL_law 981 = .ok (.if_icmp .eq 28, 3) := by decide +kernel
theorem dL_law_984 : decode cL_law 984 = .ok (.iconst 0, 1) := by decide +kernel
theorem dL_law_985 : decode cL_law 985 = .ok (.ireturn, 1) := by decide +kernel
theorem dL_law_986 : decode cL_law 986 = .ok (.aload_n 1, 1) := by decide +kernel
theorem dL_law_987 : decode cL_law 987 = .ok (.aload_n 0, 1) := by decide +kernel
theorem dL_law_988 : decode cL_law 988 = .ok (.iload_n 3, 1) := by decide +kernel
theorem dL_law_989 : decode cL_law 989 = .ok (.iconst 1, 1) := by decide +kernel
theorem dL_law_990 : decode cL_law 990 = .ok (.iadd, 1) := by decide +kernel
theorem dL_law_991 : decode cL_law 991 = .ok (.iaload, 1) := by decide +kernel
theorem dL_law_992 : decode cL_law 992 = .ok (.invokevirtual 139, 3) := by decide +kernel
theorem dL_law_995 : decode cL_law 995 = .ok (.aload_n 2, 1) := by decide +kernel
theorem dL_law_996 : decode cL_law 996 = .ok (.aload_n 0, 1) := by decide +kernel
theorem dL_law_997 : decode cL_law 997 = .ok (.iload_n 3, 1) := by decide +kernel
theorem dL_law_998 : decode cL_law 998 = .ok (.iconst 1, 1) := by decide +kernel
theorem dL_law_999 : decode cL_law 999 = .ok (.iadd, 1) := by decide +kernel
theorem dL_law_1000 : decode cL_law 1000 = .ok (.iaload, 1) := by decide +kernel
theorem dL_law_1001 : decode cL_law 1001 = .ok (.invokevirtual 142, 3) := by decide +kernel
theorem dL_law_1004 : decode cL_law 1004 = .ok (.if_icmp .eq 5, 3) := by decide +kernel
theorem dL_law_1007 : decode cL_law 1007 = .ok (.iconst 0, 1) := by decide +kernel
theorem dL_law_1008 : decode cL_law 1008 = .ok (.ireturn, 1) := by decide +kernel
theorem dL_law_1009 : decode cL_law 1009 = .ok (.iinc 3 6, 3) := by decide +kernel
theorem dL_law_1012 : decode cL_law 1012 = .ok (.goto (-994), 3) := by decide +kernel
theorem dL_law_1015 : decode cL_law 1015 = .ok (.iconst 1, 1) := by decide +kernel
theorem dL_law_1016 : decode cL_law 1016 = .ok (.ireturn, 1) := by decide +kernel
end
section
theorem dX8_init_0 : decode cX8_init 0 = .ok (.aload_n 0, 1) := by decide +kernel
theorem dX8_init_1 : decode cX8_init 1 = .ok (.invokespecial 1, 3) := by decide +kernel
theorem dX8_init_4 : decode cX8_init 4 = .ok (.aload_n 0, 1) := by decide +kernel
theorem dX8_init_5 : decode cX8_init 5 = .ok (.sipush 800, 3) := by decide +kernel
theorem dX8_init_8 : decode cX8_init 8 = .ok (.newarray .int, 2) := by decide +kernel
theorem dX8_init_10 : decode cX8_init 10 = .ok (.putfield 7, 3) := by decide +kernel
theorem dX8_init_13 : decode cX8_init 13 = .ok (.aload_n 0, 1) := by decide +kernel
theorem dX8_init_14 : decode cX8_init 14 = .ok (.iconst (-1), 1) := by decide +kernel
theorem dX8_init_15 : decode cX8_init 15 = .ok (.putfield 13, 3) := by decide +kernel
theorem dX8_init_18 : decode cX8_init 18 = .ok (.aload_n 0, 1) := by decide +kernel
theorem dX8_init_19 : decode cX8_init 19 = .ok (.bipush 40, 2) := by decide +kernel
theorem dX8_init_21 : decode cX8_init 21 = .ok (.newarray .boolean, 2) := by decide +kernel
theorem dX8_init_23 : decode cX8_init 23 = .ok (.putfield 17, 3) := by decide +kernel
theorem dX8_init_26 : decode cX8_init 26 = .ok (.aload_n 0, 1) := by decide +kernel
theorem dX8_init_27 : decode cX8_init 27 = .ok (.bipush 40, 2) := by decide +kernel
theorem dX8_init_29 : decode cX8_init 29 = .ok (.newarray .boolean, 2) := by decide +kernel
theorem dX8_init_31 : decode cX8_init 31 = .ok (.putfield 21, 3) := by decide +kernel
theorem dX8_init_34 : decode cX8_init 34 = .ok (.aload_n 0, 1) := by decide +kernel
theorem dX8_init_35 : decode cX8_init 35 = .ok (.bipush 40, 2) := by decide +kernel
theorem dX8_init_37 : decode cX8_init 37 = .ok (.newarray .boolean, 2) := by decide +kernel
theorem dX8_init_39 : decode cX8_init 39 = .ok (.putfield 24, 3) := by decide +kernel
theorem dX8_init_42 : decode cX8_init 42 = .ok (.aload_n 0, 1) := by decide +kernel
theorem dX8_init_43 : decode cX8_init 43 = .ok (.bipush 40, 2) := by decide +kernel
theorem dX8_init_45 : decode cX8_init 45 = .ok (.newarray .boolean, 2) := by decide +kernel
theorem dX8_init_47 : decode cX8_init 47 = .ok (.putfield 27, 3) := by decide +kernel
theorem dX8_init_50 : decode cX8_init 50 = .ok (.aload_n 0, 1) := by decide +kernel
theorem dX8_init_51 : decode cX8_init 51 = .ok (.bipush 40, 2) := by decide +kernel
theorem dX8_init_53 : decode cX8_init 53 = .ok (.newarray .boolean, 2) := by decide +kernel
theorem dX8_init_55 : decode cX8_init 55 = .ok (.putfield 30, 3) := by decide +kernel
theorem dX8_init_58 : decode cX8_init 58 = .ok (.aload_n 0, 1) := by decide +kernel
theorem dX8_init_59 : decode cX8_init 59 = .ok (.bipush 40, 2) := by decide +kernel
theorem dX8_init_61 : decode cX8_init 61 = .ok (.newarray .boolean, 2) := by decide +kernel
theorem dX8_init_63 : decode cX8_init 63 = .ok (.putfield 33, 3) := by decide +kernel
theorem dX8_init_66 : decode cX8_init 66 = .ok (.aload_n 0, 1) := by decide +kernel
theorem dX8_init_67 : decode cX8_init 67 = .ok (.bipush 6, 2) := by decide +kernel
theorem dX8_init_69 : decode cX8_init 69 = .ok (.newarray .int, 2) := by decide +kernel
theorem dX8_init_71 : decode cX8_init 71 = .ok (.putfield 36, 3) := by decide +kernel
theorem dX8_init_74 : decode cX8_init 74 = .ok (.aload_n 0, 1) := by decide +kernel
theorem dX8_init_75 : decode cX8_init 75 = .ok (.bipush 6, 2) := by decide +kernel
theorem dX8_init_77 : decode cX8_init 77 = .ok (.newarray .int, 2) := by decide +kernel
theorem dX8_init_79 : decode cX8_init 79 = .ok (.putfield 39, 3) := by decide +kernel
theorem dX8_init_82 : decode cX8_init 82 = .ok (.aload_n 0, 1) := by decide +kernel
theorem dX8_init_83 : decode cX8_init 83 = .ok (.bipush 6, 2) := by decide +kernel
theorem dX8_init_85 : decode cX8_init 85 = .ok (.newarray .int, 2) := by decide +kernel
theorem dX8_init_87 : decode cX8_init 87 = .ok (.putfield 42, 3) := by decide +kernel
theorem dX8_init_90 : decode cX8_init 90 = .ok (.aload_n 0, 1) := by decide +kernel
theorem dX8_init_91 : decode cX8_init 91 = .ok (.bipush 6, 2) := by decide +kernel
theorem dX8_init_93 : decode cX8_init 93 = .ok (.newarray .int, 2) := by decide +kernel
theorem dX8_init_95 : decode cX8_init 95 = .ok (.putfield 45, 3) := by decide +kernel
theorem dX8_init_98 : decode cX8_init 98 = .ok (.aload_n 0, 1) := by decide +kernel
theorem dX8_init_99 : decode cX8_init 99 = .ok (.bipush 6, 2) := by decide +kernel
theorem dX8_init_101 : decode cX8_init 101 = .ok (.newarray .int, 2) := by decide +kernel
theorem dX8_init_103 : decode cX8_init 103 = .ok (.putfield 48, 3) := by decide +kernel
theorem dX8_init_106 : decode cX8_init 106 = .ok (.aload_n 0, 1) := by decide +kernel
theorem dX8_init_107 : decode cX8_init 107 = .ok (.bipush 6, 2) := by decide +kernel
theorem dX8_init_109 : decode cX8_init 109 = .ok (.newarray .int, 2) := by decide +kernel
theorem dX8_init_111 : decode cX8_init 111 = .ok (.putfield 51, 3) := by decide +kernel
theorem dX8_init_114 : decode cX8_init 114 = .ok (.aload_n 0, 1) := by decide +kernel
theorem dX8_init_115 : decode cX8_init 115 = .ok (.sipush 300, 3) := by decide +kernel
theorem dX8_init_118 : decode cX8_init 118 = .ok (.newarray .int, 2) := by decide +kernel
theorem dX8_init_120 : decode cX8_init 120 = .ok (.putfield 54, 3) := by decide +kernel
theorem dX8_init_123 : decode cX8_init 123 = .ok (.aload_n 0, 1) := by decide +kernel
theorem dX8_init_124 : decode cX8_init 124 = .ok (.sipush 300, 3) := by decide +kernel
theorem dX8_init_127 : decode cX8_init 127 = .ok (.newarray .int, 2) := by decide +kernel
theorem dX8_init_129 : decode cX8_init 129 = .ok (.putfield 57, 3) := by decide +kernel
theorem dX8_init_132 : decode cX8_init 132 = .ok (.aload_n 0, 1) := by decide +kernel
theorem dX8_init_133 : decode cX8_init 133 = .ok (.sipush 300, 3) := by decide +kernel
theorem dX8_init_136 : decode cX8_init 136 = .ok (.newarray .int, 2) := by decide +kernel
theorem dX8_init_138 : decode cX8_init 138 = .ok (.putfield 60, 3) := by decide +kernel
theorem dX8_init_141 : decode cX8_init 141 = .ok (.aload_n 0, 1) := by decide +kernel
theorem dX8_init_142 : decode cX8_init 142 = .ok (.sipush 300, 3) := by decide +kernel
theorem dX8_init_145 : decode cX8_init 145 = .ok (.newarray .int, 2) := by decide +kernel
theorem dX8_init_147 : decode cX8_init 147 = .ok (.putfield 63, 3) := by decide +kernel
theorem dX8_init_150 : decode cX8_init 150 = .ok (.aload_n 0, 1) := by decide +kernel
theorem dX8_init_151 : decode cX8_init 151 = .ok (.sipush 300, 3) := by decide +kernel
theorem dX8_init_154 : decode cX8_init 154 = .ok (.newarray .int, 2) := by decide +kernel
theorem dX8_init_156 : decode cX8_init 156 = .ok (.putfield 66, 3) := by decide +kernel
theorem dX8_init_159 : decode cX8_init 159 = .ok (.aload_n 0, 1) := by decide +kernel
theorem dX8_init_160 : decode cX8_init 160 = .ok (.bipush 40, 2) := by decide +kernel
theorem dX8_init_162 : decode cX8_init 162 = .ok (.newarray .int, 2) := by decide +kernel
theorem dX8_init_164 : decode cX8_init 164 = .ok (.putfield 69, 3) := by decide +kernel
theorem dX8_init_167 : decode cX8_init 167 = .ok (.aload_n 0, 1) := by decide +kernel
theorem dX8_init_168 : decode cX8_init 168 = .ok (.bipush 40, 2) := by decide +kernel
theorem dX8_init_170 : decode cX8_init 170 = .ok (.newarray .int, 2) := by decide +kernel
theorem dX8_init_172 : decode cX8_init 172 = .ok (.putfield 72, 3) := by decide +kernel
theorem dX8_init_175 : decode cX8_init 175 = .ok (.aload_n 0, 1) := by decide +kernel
theorem dX8_init_176 : decode cX8_init 176 = .ok (.bipush 40, 2) := by decide +kernel
theorem dX8_init_178 : decode cX8_init 178 = .ok (.newarray .int, 2) := by decide +kernel
theorem dX8_init_180 : decode cX8_init 180 = .ok (.putfield 75, 3) := by decide +kernel
theorem dX8_init_183 : decode cX8_init 183 = .ok (.aload_n 0, 1) := by decide +kernel
theorem dX8_init_184 : decode cX8_init 184 = .ok (.bipush 40, 2) := by decide +kernel
theorem dX8_init_186 : decode cX8_init 186 = .ok (.newarray .int, 2) := by decide +kernel
theorem dX8_init_188 : decode cX8_init 188 = .ok (.putfield 78, 3) := by decide +kernel
theorem dX8_init_191 : decode cX8_init 191 = .ok (.aload_n 0, 1) := by decide +kernel
theorem dX8_init_192 : decode cX8_init 192 = .ok (.bipush 40, 2) := by decide +kernel
theorem dX8_init_194 : decode cX8_init 194 = .ok (.newarray .int, 2) := by decide +kernel
theorem dX8_init_196 : decode cX8_init 196 = .ok (.putfield 81, 3) := by decide +kernel
theorem dX8_init_199 : decode cX8_init 199 = .ok (.aload_n 0, 1) := by decide +kernel
theorem dX8_init_200 : decode cX8_init 200 = .ok (.bipush 40, 2) := by decide +kernel
theorem dX8_init_202 : decode cX8_init 202 = .ok (.newarray .int, 2) := by decide +kernel
theorem dX8_init_204 : decode cX8_init 204 = .ok (.putfield 84, 3) := by decide +kernel
theorem dX8_init_207 : decode cX8_init 207 = .ok (.aload_n 0, 1) := by decide +kernel
theorem dX8_init_208 : decode cX8_init 208 = .ok (.iconst 3, 1) := by decide +kernel
theorem dX8_init_209 : decode cX8_init 209 = .ok (.newarray .int, 2) := by decide +kernel
theorem dX8_init_211 : decode cX8_init 211 = .ok (.putfield 87, 3) := by decide +kernel
theorem dX8_init_214 : decode cX8_init 214 = .ok (.aload_n 0, 1) := by decide +kernel
theorem dX8_init_215 : decode cX8_init 215 = .ok (.iconst 3, 1) := by decide +kernel
theorem dX8_init_216 : decode cX8_init 216 = .ok (.newarray .int, 2) := by decide +kernel
theorem dX8_init_218 : decode cX8_init 218 = .ok (.putfield 90, 3) := by decide +kernel
theorem dX8_init_221 : decode cX8_init 221 = .ok (.aload_n 0, 1) := by decide +kernel
theorem dX8_init_222 : decode cX8_init 222 = .ok (.bipush 40, 2) := by decide +kernel
theorem dX8_init_224 : decode cX8_init 224 = .ok (.newarray .boolean, 2) := by decide +kernel
theorem dX8_init_226 : decode cX8_init 226 = .ok (.putfield 93, 3) := by decide +kernel
theorem dX8_init_229 : decode cX8_init 229 = .ok (.aload_n 0, 1) := by decide +kernel
theorem dX8_init_230 : decode cX8_init 230 = .ok (.iconst 1, 1) := by decide +kernel
theorem dX8_init_231 : decode cX8_init 231 = .ok (.putfield 96, 3) := by decide +kernel
theorem dX8_init_234 : decode cX8_init 234 = .ok (.aload_n 0, 1) := by decide +kernel
theorem dX8_init_235 : decode cX8_init 235 = .ok (.bipush 60, 2) := by decide +kernel
theorem dX8_init_237 : decode cX8_init 237 = .ok (.newarray .int, 2) := by decide +kernel
theorem dX8_init_239 : decode cX8_init 239 = .ok (.putfield 99, 3) := by decide +kernel
theorem dX8_init_242 : decode cX8_init 242 = .ok (.aload_n 0, 1) := by decide +kernel
theorem dX8_init_243 : decode cX8_init 243 = .ok (.bipush 60, 2) := by decide +kernel
theorem dX8_init_245 : decode cX8_init 245 = .ok (.newarray .int, 2) := by decide +kernel
theorem dX8_init_247 : decode cX8_init 247 = .ok (.putfield 102, 3) := by decide +kernel
theorem dX8_init_250 : decode cX8_init 250 = .ok (.aload_n 0, 1) := by decide +kernel
theorem dX8_init_251 : decode cX8_init 251 = .ok (.bipush 60, 2) := by decide +kernel
theorem dX8_init_253 : decode cX8_init 253 = .ok (.newarray .int, 2) := by decide +kernel
theorem dX8_init_255 : decode cX8_init 255 = .ok (.putfield 105, 3) := by decide +kernel
theorem dX8_init_258 : decode cX8_init 258 = .ok (.aload_n 0, 1) := by decide +kernel
theorem dX8_init_259 : decode cX8_init 259 = .ok (.bipush 60, 2) := by decide +kernel
theorem dX8_init_261 : decode cX8_init 261 = .ok (.newarray .long, 2) := by decide +kernel
theorem dX8_init_263 : decode cX8_init 263 = .ok (.putfield 108, 3) := by decide +kernel
theorem dX8_init_266 : decode cX8_init 266 = .ok (.aload_n 0, 1) := by decide +kernel
theorem dX8_init_267 : decode cX8_init 267 = .ok (.bipush 40, 2) := by decide +kernel
theorem dX8_init_269 : decode cX8_init 269 = .ok (.newarray .long, 2) := by decide +kernel
theorem dX8_init_271 : decode cX8_init 271 = .ok (.putfield 112, 3) := by decide +kernel
theorem dX8_init_274 : decode cX8_init 274 = .ok (.aload_n 0, 1) := by decide +kernel
theorem dX8_init_275 : decode cX8_init 275 = .ok (.bipush 40, 2) := by decide +kernel
theorem dX8_init_277 : decode cX8_init 277 = .ok (.newarray .boolean, 2) := by decide +kernel
theorem dX8_init_279 : decode cX8_init 279 = .ok (.putfield 115, 3) := by decide +kernel
theorem dX8_init_282 : decode cX8_init 282 = .ok (.aload_n 0, 1) := by decide +kernel
theorem dX8_init_283 : decode cX8_init 283 = .ok (.sipush 324, 3) := by decide +kernel
theorem dX8_init_286 : decode cX8_init 286 = .ok (.newarray .boolean, 2) := by decide +kernel
theorem dX8_init_288 : decode cX8_init 288 = .ok (.putfield 118, 3) := by decide +kernel
theorem dX8_init_291 : decode cX8_init 291 = .ok (.aload_n 0, 1) := by decide +kernel
theorem dX8_init_292 : decode cX8_init 292 = .ok (.bipush 80, 2) := by decide +kernel
theorem dX8_init_294 : decode cX8_init 294 = .ok (.newarray .int, 2) := by decide +kernel
theorem dX8_init_296 : decode cX8_init 296 = .ok (.putfield 121, 3) := by decide +kernel
theorem dX8_init_299 : decode cX8_init 299 = .ok (.aload_n 0, 1) := by decide +kernel
theorem dX8_init_300 : decode cX8_init 300 = .ok (.bipush 40, 2) := by decide +kernel
theorem dX8_init_302 : decode cX8_init 302 = .ok (.newarray .int, 2) := by decide +kernel
theorem dX8_init_304 : decode cX8_init 304 = .ok (.putfield 124, 3) := by decide +kernel
theorem dX8_init_307 : decode cX8_init 307 = .ok (.aload_n 0, 1) := by decide +kernel
theorem dX8_init_308 : decode cX8_init 308 = .ok (.bipush 40, 2) := by decide +kernel
theorem dX8_init_310 : decode cX8_init 310 = .ok (.newarray .int, 2) := by decide +kernel
theorem dX8_init_312 : decode cX8_init 312 = .ok (.putfield 127, 3) := by decide +kernel
theorem dX8_init_315 : decode cX8_init 315 = .ok (.aload_n 0, 1) := by decide +kernel
theorem dX8_init_316 : decode cX8_init 316 = .ok (.iconst 3, 1) := by decide +kernel
theorem dX8_init_317 : decode cX8_init 317 = .ok (.newarray .boolean, 2) := by decide +kernel
theorem dX8_init_319 : decode cX8_init 319 = .ok (.putfield 130, 3) := by decide +kernel
theorem dX8_init_322 : decode cX8_init 322 = .ok (.aload_n 0, 1) := by decide +kernel
theorem dX8_init_323 : decode cX8_init 323 = .ok (.bipush 120, 2) := by decide +kernel
theorem dX8_init_325 : decode cX8_init 325 = .ok (.newarray .int, 2) := by decide +kernel
theorem dX8_init_327 : decode cX8_init 327 = .ok (.putfield 133, 3) := by decide +kernel
theorem dX8_init_330 : decode cX8_init 330 = .ok (.aload_n 0, 1) := by decide +kernel
theorem dX8_init_331 : decode cX8_init 331 = .ok (.bipush 120, 2) := by decide +kernel
theorem dX8_init_333 : decode cX8_init 333 = .ok (.newarray .int, 2) := by decide +kernel
theorem dX8_init_335 : decode cX8_init 335 = .ok (.putfield 136, 3) := by decide +kernel
theorem dX8_init_338 : decode cX8_init 338 = .ok (.aload_n 0, 1) := by decide +kernel
theorem dX8_init_339 : decode cX8_init 339 = .ok (.bipush 9, 2) := by decide +kernel
theorem dX8_init_341 : decode cX8_init 341 = .ok (.newarray .int, 2) := by decide +kernel
theorem dX8_init_343 : decode cX8_init 343 = .ok (.putfield 139, 3) := by decide +kernel
theorem dX8_init_346 : decode cX8_init 346 = .ok (.aload_n 0, 1) := by decide +kernel
theorem dX8_init_347 : decode cX8_init 347 = .ok (.iconst 3, 1) := by decide +kernel
theorem dX8_init_348 : decode cX8_init 348 = .ok (.newarray .int, 2) := by decide +kernel
theorem dX8_init_350 : decode cX8_init 350 = .ok (.putfield 142, 3) := by decide +kernel
theorem dX8_init_353 : decode cX8_init 353 = .ok (.aload_n 0, 1) := by decide +kernel
theorem dX8_init_354 : decode cX8_init 354 = .ok (.iconst 3, 1) := by decide +kernel
theorem dX8_init_355 : decode cX8_init 355 = .ok (.newarray .int, 2) := by decide +kernel
theorem dX8_init_357 : decode cX8_init 357 = .ok (.putfield 145, 3) := by decide +kernel
theorem dX8_init_360 : decode cX8_init 360 = .ok (.aload_n 0, 1) := by decide +kernel
theorem dX8_init_361 : decode cX8_init 361 = .ok (.iconst 3, 1) := by decide +kernel
theorem dX8_init_362 : decode cX8_init 362 = .ok (.newarray .int, 2) := by decide +kernel
theorem dX8_init_364 : decode cX8_init 364 = .ok (.putfield 148, 3) := by decide +kernel
theorem dX8_init_367 : decode cX8_init 367 = .ok (.aload_n 0, 1) := by decide +kernel
theorem dX8_init_368 : decode cX8_init 368 = .ok (.bipush 24, 2) := by decide +kernel
theorem dX8_init_370 : decode cX8_init 370 = .ok (.putfield 151, 3) := by decide +kernel
theorem dX8_init_373 : decode cX8_init 373 = .ok (.aload_n 0, 1) := by decide +kernel
theorem dX8_init_374 : decode cX8_init 374 = .ok (.invokevirtual 154, 3) := by decide +kernel
theorem dX8_init_377 : decode cX8_init 377 = .ok (.aload_n 0, 1) := by decide +kernel
theorem dX8_init_378 : decode cX8_init 378 = .ok (.invokevirtual 157, 3) := by decide +kernel
theorem dX8_init_381 : decode cX8_init 381 = .ok (.return_, 1) := by decide +kernel
theorem dX8_feed_0 : decode cX8_feed 0 = .ok (.aload_n 0, 1) := by decide +kernel
theorem dX8_feed_1 : decode cX8_feed 1 = .ok (.getfield 160, 3) := by decide +kernel
theorem dX8_feed_4 : decode cX8_feed 4 = .ok (.bipush 20, 2) := by decide +kernel
theorem dX8_feed_6 : decode cX8_feed 6 = .ok (.iadd, 1) := by decide +kernel
theorem dX8_feed_7 : decode cX8_feed 7 = .ok (.sipush 800, 3) := by decide +kernel
theorem dX8_feed_10 : decode cX8_feed 10 = .ok (.if_icmp .le 5, 3) := by decide +kernel
theorem dX8_feed_13 : decode cX8_feed 13 = .ok (.iconst (-1), 1) := by decide +kernel
theorem dX8_feed_14 : decode cX8_feed 14 = .ok (.ireturn, 1) := by decide +kernel
theorem dX8_feed_15 : decode cX8_feed 15 = .ok (.aload_n 0, 1) := by decide +kernel
theorem dX8_feed_16 : decode cX8_feed 16 = .ok (.iload_n 1, 1) := by decide +kernel
theorem dX8_feed_17 : decode cX8_feed 17 = .ok (.invokevirtual 163, 3) := by decide +kernel
theorem dX8_feed_20 : decode cX8_feed 20 = .ok (.aload_n 0, 1) := by decide +kernel
theorem dX8_feed_21 : decode cX8_feed 21 = .ok (.iload_n 2, 1) := by decide +kernel
theorem dX8_feed_22 : decode cX8_feed 22 = .ok (.invokevirtual 163, 3) := by decide +kernel
theorem dX8_feed_25 : decode cX8_feed 25 = .ok (.aload_n 0, 1) := by decide +kernel
theorem dX8_feed_26 : decode cX8_feed 26 = .ok (.iload_n 3, 1) := by decide +kernel
theorem dX8_feed_27 : decode cX8_feed 27 = .ok (.invokevirtual 163, 3) := by decide +kernel
theorem dX8_feed_30 : decode cX8_feed 30 = .ok (.aload_n 0, 1) := by decide +kernel
theorem dX8_feed_31 : decode cX8_feed 31 = .ok (.iload 4, 2) := by decide +kernel
theorem dX8_feed_33 : decode cX8_feed 33 = .ok (.invokevirtual 163, 3) := by decide +kernel
theorem dX8_feed_36 : decode cX8_feed 36 = .ok (.aload_n 0, 1) := by decide +kernel
theorem dX8_feed_37 : decode cX8_feed 37 = .ok (.iload 5, 2) := by decide +kernel
theorem dX8_feed_39 : decode cX8_feed 39 = .ok (.invokevirtual 163, 3) := by decide +kernel
theorem dX8_feed_42 : decode cX8_feed 42 = .ok (.aload_n 0, 1) := by decide +kernel
theorem dX8_feed_43 : decode cX8_feed 43 = .ok (.getfield 160, 3) := by decide +kernel
theorem dX8_feed_46 : decode cX8_feed 46 = .ok (.ireturn, 1) := by decide +kernel
theorem dX8_four_0 : decode cX8_four 0 = .ok (.bipush 24, 2) := by decide +kernel
theorem dX8_four_2 : decode cX8_four 2 = .ok (.istore_n 2, 1) := by decide +kernel
theorem dX8_four_3 : decode cX8_four 3 = .ok (.iload_n 2, 1) := by decide +kernel
theorem dX8_four_4 : decode cX8_four 4 = .ok (.ifCond .lt 35, 3) := by decide +kernel
theorem dX8_four_7 : decode cX8_four 7 = .ok (.aload_n 0, 1) := by decide +kernel
theorem dX8_four_8 : decode cX8_four 8 = .ok (.getfield 7, 3) := by decide +kernel
theorem dX8_four_11 : decode cX8_four 11 = .ok (.aload_n 0, 1) := by decide +kernel
theorem dX8_four_12 : decode cX8_four 12 = .ok (.getfield 160, 3) := by decide +kernel
theorem dX8_four_15 : decode cX8_four 15 = .ok (.iload_n 1, 1) := by decide +kernel
theorem dX8_four_16 : decode cX8_four 16 = .ok (.iload_n 2, 1) := by decide +kernel
theorem dX8_four_17 : decode cX8_four 17 = .ok (.ishr, 1) := by decide +kernel
theorem dX8_four_18 : decode cX8_four 18 = .ok (.sipush 255, 3) := by decide +kernel
theorem dX8_four_21 : decode cX8_four 21 = .ok (.iand, 1) := by decide +kernel
theorem dX8_four_22 : decode cX8_four 22 = .ok (.iastore, 1) := by decide +kernel
theorem dX8_four_23 : decode cX8_four 23 = .ok (.aload_n 0, 1) := by decide +kernel
theorem dX8_four_24 : decode cX8_four 24 = .ok (.dup, 1) := by decide +kernel
theorem dX8_four_25 : decode cX8_four 25 = .ok (.getfield 160, 3) := by decide +kernel
theorem dX8_four_28 : decode cX8_four 28 = .ok (.iconst 1, 1) := by decide +kernel
theorem dX8_four_29 : decode cX8_four 29 = .ok (.iadd, 1) := by decide +kernel
theorem dX8_four_30 : decode cX8_four 30 = .ok (.putfield 160, 3) := by decide +kernel
theorem dX8_four_33 : decode cX8_four 33 = .ok (.iinc 2 (-8), 3) := by decide +kernel
theorem dX8_four_36 : decode cX8_four 36 = .ok (.goto (-33), 3) := by decide +kernel
theorem dX8_four_39 : decode cX8_four 39 = .ok (.return_, 1) := by decide +kernel
theorem dX8_end_0 : decode cX8_end 0 = .ok (.iload_n 1, 1) := by decide +kernel
theorem dX8_end_1 : decode cX8_end 1 = .ok (.ifCond .lt 11, 3) := by decide +kernel
theorem dX8_end_4 : decode cX8_end 4 = .ok (.iload_n 1, 1) := by decide +kernel
theorem dX8_end_5 : decode cX8_end 5 = .ok (.aload_n 0, 1) := by decide +kernel
theorem dX8_end_6 : decode cX8_end 6 = .ok (.getfield 160, 3) := by decide +kernel
theorem dX8_end_9 : decode cX8_end 9 = .ok (.if_icmp .le 5, 3) := by decide +kernel
theorem dX8_end_12 : decode cX8_end 12 = .ok (.iconst (-1), 1) := by decide +kernel
theorem dX8_end_13 : decode cX8_end 13 = .ok (.ireturn, 1) := by decide +kernel
theorem dX8_end_14 : decode cX8_end 14 = .ok (.aload_n 0, 1) := by decide +kernel
theorem dX8_end_15 : decode cX8_end 15 = .ok (.iload_n 1, 1) := by decide +kernel
theorem dX8_end_16 : decode cX8_end 16 = .ok (.putfield 160, 3) := by decide +kernel
theorem dX8_end_19 : decode cX8_end 19 = .ok (.iload_n 1, 1) := by decide +kernel
theorem dX8_end_20 : decode cX8_end 20 = .ok (.ireturn, 1) := by decide +kernel
theorem dX8_here_0 : decode cX8_here 0 = .ok (.aload_n 0, 1) := by decide +kernel
theorem dX8_here_1 : decode cX8_here 1 = .ok (.getfield 167, 3) := by decide +kernel
theorem dX8_here_4 : decode cX8_here 4 = .ok (.iload_n 1, 1) := by decide +kernel
theorem dX8_here_5 : decode cX8_here 5 = .ok (.iadd, 1) := by decide +kernel
theorem dX8_here_6 : decode cX8_here 6 = .ok (.aload_n 0, 1) := by decide +kernel
theorem dX8_here_7 : decode cX8_here 7 = .ok (.getfield 170, 3) := by decide +kernel
theorem dX8_here_10 : decode cX8_here 10 = .ok (.if_icmp .ge 17, 3) := by decide +kernel
theorem dX8_here_13 : decode cX8_here 13 = .ok (.aload_n 0, 1) := by decide +kernel
theorem dX8_here_14 : decode cX8_here 14 = .ok (.getfield 7, 3) := by decide +kernel
theorem dX8_here_17 : decode cX8_here 17 = .ok (.aload_n 0, 1) := by decide +kernel
theorem dX8_here_18 : decode cX8_here 18 = .ok (.getfield 167, 3) := by decide +kernel
theorem dX8_here_21 : decode cX8_here 21 = .ok (.iload_n 1, 1) := by decide +kernel
theorem dX8_here_22 : decode cX8_here 22 = .ok (.iadd, 1) := by decide +kernel
theorem dX8_here_23 : decode cX8_here 23 = .ok (.iaload, 1) := by decide +kernel
theorem dX8_here_24 : decode cX8_here 24 = .ok (.goto 4, 3) := by decide +kernel
theorem dX8_here_27 : decode cX8_here 27 = .ok (.iconst (-1), 1) := by decide +kernel
theorem dX8_here_28 : decode cX8_here 28 = .ok (.ireturn, 1) := by decide +kernel
theorem dX8_isLetter_0 : decode cX8_isLetter 0 = .ok (.iload_n 0, 1) := by decide +kernel
theorem dX8_isLetter_1 : decode cX8_isLetter 1 = .ok (.bipush 97, 2) := by decide +kernel
theorem dX8_isLetter_3 : decode cX8_isLetter 3 = .ok (.if_icmp .lt 13, 3) := by decide +kernel
theorem dX8_isLetter_6 : decode cX8_isLetter 6 = .ok (.iload_n 0, 1) := by decide +kernel
theorem dX8_isLetter_7 : decode cX8_isLetter 7 = .ok (.bipush 122, 2) := by decide +kernel
theorem dX8_isLetter_9 : decode cX8_isLetter 9 = .ok (.if_icmp .gt 7, 3) := by decide +kernel
theorem dX8_isLetter_12 : decode cX8_isLetter 12 = .ok (.iconst 1, 1) := by decide +kernel
theorem dX8_isLetter_13 : decode cX8_isLetter 13 = .ok (.goto 4, 3) := by decide +kernel
theorem dX8_isLetter_16 : decode cX8_isLetter 16 = .ok (.iconst 0, 1) := by decide +kernel
theorem dX8_isLetter_17 : decode cX8_isLetter 17 = .ok (.ireturn, 1) := by decide +kernel
theorem dX8_isDigit_0 : decode cX8_isDigit 0 = .ok (.iload_n 0, 1) := by decide +kernel
theorem dX8_isDigit_1 : decode cX8_isDigit 1 = .ok (.bipush 48, 2) := by decide +kernel
theorem dX8_isDigit_3 : decode cX8_isDigit 3 = .ok (.if_icmp .lt 13, 3) := by decide +kernel
theorem dX8_isDigit_6 : decode cX8_isDigit 6 = .ok (.iload_n 0, 1) := by decide +kernel
theorem dX8_isDigit_7 : decode cX8_isDigit 7 = .ok (.bipush 57, 2) := by decide +kernel
theorem dX8_isDigit_9 : decode cX8_isDigit 9 = .ok (.if_icmp .gt 7, 3) := by decide +kernel
theorem dX8_isDigit_12 : decode cX8_isDigit 12 = .ok (.iconst 1, 1) := by decide +kernel
theorem dX8_isDigit_13 : decode cX8_isDigit 13 = .ok (.goto 4, 3) := by decide +kernel
theorem dX8_isDigit_16 : decode cX8_isDigit 16 = .ok (.iconst 0, 1) := by decide +kernel
theorem dX8_isDigit_17 : decode cX8_isDigit 17 = .ok (.ireturn, 1) := by decide +kernel
theorem dX8_isSign_0 : decode cX8_isSign 0 = .ok (.iload_n 0, 1) := by decide +kernel
theorem dX8_isSign_1 : decode cX8_isSign 1 = .ok (.bipush 59, 2) := by decide +kernel
theorem dX8_isSign_3 : decode cX8_isSign 3 = .ok (.if_icmp .eq 51, 3) := by decide +kernel
theorem dX8_isSign_6 : decode cX8_isSign 6 = .ok (.iload_n 0, 1) := by decide +kernel
theorem dX8_isSign_7 : decode cX8_isSign 7 = .ok (.bipush 40, 2) := by decide +kernel
theorem dX8_isSign_9 : decode cX8_isSign 9 = .ok (.if_icmp .eq 45, 3) := by decide +kernel
theorem dX8_isSign_12 : decode cX8_isSign 12 = .ok (.iload_n 0, 1) := by decide +kernel
theorem dX8_isSign_13 : decode cX8_isSign 13 = .ok (.bipush 41, 2) := by decide +kernel
theorem dX8_isSign_15 : decode cX8_isSign 15 = .ok (.if_icmp .eq 39, 3) := by decide +kernel
theorem dX8_isSign_18 : decode cX8_isSign 18 = .ok (.iload_n 0, 1) := by decide +kernel
theorem dX8_isSign_19 : decode cX8_isSign 19 = .ok (.bipush 60, 2) := by decide +kernel
theorem dX8_isSign_21 : decode cX8_isSign 21 = .ok (.if_icmp .eq 33, 3) := by decide +kernel
theorem dX8_isSign_24 : decode cX8_isSign 24 = .ok (.iload_n 0, 1) := by decide +kernel
theorem dX8_isSign_25 : decode cX8_isSign 25 = .ok (.bipush 62, 2) := by decide +kernel
theorem dX8_isSign_27 : decode cX8_isSign 27 = .ok (.if_icmp .eq 27, 3) := by decide +kernel
theorem dX8_isSign_30 : decode cX8_isSign 30 = .ok (.iload_n 0, 1) := by decide +kernel
theorem dX8_isSign_31 : decode cX8_isSign 31 = .ok (.bipush 61, 2) := by decide +kernel
theorem dX8_isSign_33 : decode cX8_isSign 33 = .ok (.if_icmp .eq 21, 3) := by decide +kernel
theorem dX8_isSign_36 : decode cX8_isSign 36 = .ok (.iload_n 0, 1) := by decide +kernel
theorem dX8_isSign_37 : decode cX8_isSign 37 = .ok (.bipush 43, 2) := by decide +kernel
theorem dX8_isSign_39 : decode cX8_isSign 39 = .ok (.if_icmp .eq 15, 3) := by decide +kernel
theorem dX8_isSign_42 : decode cX8_isSign 42 = .ok (.iload_n 0, 1) := by decide +kernel
theorem dX8_isSign_43 : decode cX8_isSign 43 = .ok (.bipush 45, 2) := by decide +kernel
theorem dX8_isSign_45 : decode cX8_isSign 45 = .ok (.if_icmp .eq 9, 3) := by decide +kernel
theorem dX8_isSign_48 : decode cX8_isSign 48 = .ok (.iload_n 0, 1) := by decide +kernel
theorem dX8_isSign_49 : decode cX8_isSign 49 = .ok (.bipush 42, 2) := by decide +kernel
theorem dX8_isSign_51 : decode cX8_isSign 51 = .ok (.if_icmp .ne 7, 3) := by decide +kernel
theorem dX8_isSign_54 : decode cX8_isSign 54 = .ok (.iconst 1, 1) := by decide +kernel
theorem dX8_isSign_55 : decode cX8_isSign 55 = .ok (.goto 4, 3) := by decide +kernel
theorem dX8_isSign_58 : decode cX8_isSign 58 = .ok (.iconst 0, 1) := by decide +kernel
theorem dX8_isSign_59 : decode cX8_isSign 59 = .ok (.ireturn, 1) := by decide +kernel
theorem dX8_token_0 : decode cX8_token 0 = .ok (.aload_n 0, 1) := by decide +kernel
theorem dX8_token_1 : decode cX8_token 1 = .ok (.iconst 0, 1) := by decide +kernel
theorem dX8_token_2 : decode cX8_token 2 = .ok (.invokevirtual 173, 3) := by decide +kernel
theorem dX8_token_5 : decode cX8_token 5 = .ok (.bipush 32, 2) := by decide +kernel
theorem dX8_token_7 : decode cX8_token 7 = .ok (.if_icmp .eq 13, 3) := by decide +kernel
theorem dX8_token_10 : decode cX8_token 10 = .ok (.aload_n 0, 1) := by decide +kernel
theorem dX8_token_11 : decode cX8_token 11 = .ok (.iconst 0, 1) := by decide +kernel
theorem dX8_token_12 : decode cX8_token 12 = .ok (.invokevirtual 173, 3) := by decide +kernel
theorem dX8_token_15 : decode cX8_token 15 = .ok (.bipush 10, 2) := by decide +kernel
theorem dX8_token_17 : decode cX8_token 17 = .ok (.if_icmp .ne 16, 3) := by decide +kernel
theorem dX8_token_20 : decode cX8_token 20 = .ok (.aload_n 0, 1) := by decide +kernel
theorem dX8_token_21 : decode cX8_token 21 = .ok (.dup, 1) := by decide +kernel
theorem dX8_token_22 : decode cX8_token 22 = .ok (.getfield 167, 3) := by decide +kernel
theorem dX8_token_25 : decode cX8_token 25 = .ok (.iconst 1, 1) := by decide +kernel
theorem dX8_token_26 : decode cX8_token 26 = .ok (.iadd, 1) := by decide +kernel
theorem dX8_token_27 : decode cX8_token 27 = .ok (.putfield 167, 3) := by decide +kernel
theorem dX8_token_30 : decode cX8_token 30 = .ok (.goto (-30), 3) := by decide +kernel
theorem dX8_token_33 : decode cX8_token 33 = .ok (.aload_n 0, 1) := by decide +kernel
theorem dX8_token_34 : decode cX8_token 34 = .ok (.aload_n 0, 1) := by decide +kernel
theorem dX8_token_35 : decode cX8_token 35 = .ok (.getfield 167, 3) := by decide +kernel
theorem dX8_token_38 : decode cX8_token 38 = .ok (.putfield 177, 3) := by decide +kernel
theorem dX8_token_41 : decode cX8_token 41 = .ok (.aload_n 0, 1) := by decide +kernel
theorem dX8_token_42 : decode cX8_token 42 = .ok (.iconst 0, 1) := by decide +kernel
theorem dX8_token_43 : decode cX8_token 43 = .ok (.invokevirtual 173, 3) := by decide +kernel
theorem dX8_token_46 : decode cX8_token 46 = .ok (.istore_n 1, 1) := by decide +kernel
theorem dX8_token_47 : decode cX8_token 47 = .ok (.iconst 0, 1) := by decide +kernel
theorem dX8_token_48 : decode cX8_token 48 = .ok (.istore_n 2, 1) := by decide +kernel
theorem dX8_token_49 : decode cX8_token 49 = .ok (.aload_n 0, 1) := by decide +kernel
theorem dX8_token_50 : decode cX8_token 50 = .ok (.lconst 0, 1) := by decide +kernel
theorem dX8_token_51 : decode cX8_token 51 = .ok (.putfield 180, 3) := by decide +kernel
theorem dX8_token_54 : decode cX8_token 54 = .ok (.aload_n 0, 1) := by decide +kernel
theorem dX8_token_55 : decode cX8_token 55 = .ok (.iconst 0, 1) := by decide +kernel
theorem dX8_token_56 : decode cX8_token 56 = .ok (.putfield 184, 3) := by decide +kernel
theorem dX8_token_59 : decode cX8_token 59 = .ok (.iload_n 1, 1) := by decide +kernel
theorem dX8_token_60 : decode cX8_token 60 = .ok (.ifCond .ge 11, 3) := by decide +kernel
theorem dX8_token_63 : decode cX8_token 63 = .ok (.aload_n 0, 1) := by decide +kernel
theorem dX8_token_64 : decode cX8_token 64 = .ok (.iconst 0, 1) := by decide +kernel
theorem dX8_token_65 : decode cX8_token 65 = .ok (.putfield 187, 3) := by decide +kernel
theorem dX8_token_68 : decode cX8_token 68 = .ok (.goto 164, 3) := by decide +kernel
theorem dX8_token_71 : decode cX8_token 71 = .ok (.iload_n 1, 1) := by decide +kernel
theorem dX8_token_72 : decode cX8_token 72 = .ok (.invokestatic 190, 3) := by decide +kernel
theorem dX8_token_75 : decode cX8_token 75 = .ok (.ifCond .eq 62, 3) := by decide +kernel
theorem dX8_token_78 : decode cX8_token 78 = .ok (.aload_n 0, 1) := by decide +kernel
theorem dX8_token_79 : decode cX8_token 79 = .ok (.iload_n 2, 1) := by decide +kernel
theorem dX8_token_80 : decode cX8_token 80 = .ok (.invokevirtual 173, 3) := by decide +kernel
theorem dX8_token_83 : decode cX8_token 83 = .ok (.invokestatic 190, 3) := by decide +kernel
theorem dX8_token_86 : decode cX8_token 86 = .ok (.ifCond .eq 33, 3) := by decide +kernel
theorem dX8_token_89 : decode cX8_token 89 = .ok (.iload_n 2, 1) := by decide +kernel
theorem dX8_token_90 : decode cX8_token 90 = .ok (.bipush 8, 2) := by decide +kernel
theorem dX8_token_92 : decode cX8_token 92 = .ok (.if_icmp .ge 21, 3) := by decide +kernel
theorem dX8_token_95 : decode cX8_token 95 = .ok (.aload_n 0, 1) := by decide +kernel
theorem dX8_token_96 : decode cX8_token 96 = .ok (.aload_n 0, 1) := by decide +kernel
theorem dX8_token_97 : decode cX8_token 97 = .ok (.getfield 180, 3) := by decide +kernel
theorem dX8_token_100 : decode cX8_token 100 = .ok (.bipush 8, 2) := by decide +kernel
theorem dX8_token_102 : decode cX8_token 102 = .ok (.lshl, 1) := by decide +kernel
theorem dX8_token_103 : decode cX8_token 103 = .ok (.aload_n 0, 1) := by decide +kernel
theorem dX8_token_104 : decode cX8_token 104 = .ok (.iload_n 2, 1) := by decide +kernel
theorem dX8_token_105 : decode cX8_token 105 = .ok (.invokevirtual 173, 3) := by decide +kernel
theorem dX8_token_108 : decode cX8_token 108 = .ok (.i2l, 1) := by decide +kernel
theorem dX8_token_109 : decode cX8_token 109 = .ok (.lor, 1) := by decide +kernel
theorem dX8_token_110 : decode cX8_token 110 = .ok (.putfield 180, 3) := by decide +kernel
theorem dX8_token_113 : decode cX8_token 113 = .ok (.iinc 2 1, 3) := by decide +kernel
theorem dX8_token_116 : decode cX8_token 116 = .ok (.goto (-38), 3) := by decide +kernel
theorem dX8_token_119 : decode cX8_token 119 = .ok (.aload_n 0, 1) := by decide +kernel
theorem dX8_token_120 : decode cX8_token 120 = .ok (.iload_n 2, 1) := by decide +kernel
theorem dX8_token_121 : decode cX8_token 121 = .ok (.bipush 8, 2) := by decide +kernel
theorem dX8_token_123 : decode cX8_token 123 = .ok (.if_icmp .le 7, 3) := by decide +kernel
theorem dX8_token_126 : decode cX8_token 126 = .ok (.iconst 3, 1) := by decide +kernel
theorem dX8_token_127 : decode cX8_token 127 = .ok (.goto 4, 3) := by decide +kernel
theorem dX8_token_130 : decode cX8_token 130 = .ok (.iconst 1, 1) := by decide +kernel
theorem dX8_token_131 : decode cX8_token 131 = .ok (.putfield 187, 3) := by decide +kernel
theorem dX8_token_134 : decode cX8_token 134 = .ok (.goto 98, 3) := by decide +kernel
theorem dX8_token_137 : decode cX8_token 137 = .ok (.iload_n 1, 1) := by decide +kernel
theorem dX8_token_138 : decode cX8_token 138 = .ok (.invokestatic 194, 3) := by decide +kernel
theorem dX8_token_141 : decode cX8_token 141 = .ok (.ifCond .eq 73, 3) := by decide +kernel
theorem dX8_token_144 : decode cX8_token 144 = .ok (.aload_n 0, 1) := by decide +kernel
theorem dX8_token_145 : decode cX8_token 145 = .ok (.iload_n 2, 1) := by decide +kernel
theorem dX8_token_146 : decode cX8_token 146 = .ok (.invokevirtual 173, 3) := by decide +kernel
theorem dX8_token_149 : decode cX8_token 149 = .ok (.invokestatic 194, 3) := by decide +kernel
theorem dX8_token_152 : decode cX8_token 152 = .ok (.ifCond .eq 34, 3) := by decide +kernel
theorem dX8_token_155 : decode cX8_token 155 = .ok (.iload_n 2, 1) := by decide +kernel
theorem dX8_token_156 : decode cX8_token 156 = .ok (.iconst 4, 1) := by decide +kernel
theorem dX8_token_157 : decode cX8_token 157 = .ok (.if_icmp .ge 23, 3) := by decide +kernel
theorem dX8_token_160 : decode cX8_token 160 = .ok (.aload_n 0, 1) := by decide +kernel
theorem dX8_token_161 : decode cX8_token 161 = .ok (.bipush 10, 2) := by decide +kernel
theorem dX8_token_163 : decode cX8_token 163 = .ok (.aload_n 0, 1) := by decide +kernel
theorem dX8_token_164 : decode cX8_token 164 = .ok (.getfield 184, 3) := by decide +kernel
theorem dX8_token_167 : decode cX8_token 167 = .ok (.imul, 1) := by decide +kernel
theorem dX8_token_168 : decode cX8_token 168 = .ok (.aload_n 0, 1) := by decide +kernel
theorem dX8_token_169 : decode cX8_token 169 = .ok (.iload_n 2, 1) := by decide +kernel
theorem dX8_token_170 : decode cX8_token 170 = .ok (.invokevirtual 173, 3) := by decide +kernel
theorem dX8_token_173 : decode cX8_token 173 = .ok (.iadd, 1) := by decide +kernel
theorem dX8_token_174 : decode cX8_token 174 = .ok (.bipush 48, 2) := by decide +kernel
theorem dX8_token_176 : decode cX8_token 176 = .ok (.isub, 1) := by decide +kernel
theorem dX8_token_177 : decode cX8_token 177 = .ok (.putfield 184, 3) := by decide +kernel
theorem dX8_token_180 : decode cX8_token 180 = .ok (.iinc 2 1, 3) := by decide +kernel
theorem dX8_token_183 : decode cX8_token 183 = .ok (.goto (-39), 3) := by decide +kernel
theorem dX8_token_186 : decode cX8_token 186 = .ok (.aload_n 0, 1) := by decide +kernel
theorem dX8_token_187 : decode cX8_token 187 = .ok (.iload_n 2, 1) := by decide +kernel
theorem dX8_token_188 : decode cX8_token 188 = .ok (.iconst 4, 1) := by decide +kernel
theorem dX8_token_189 : decode cX8_token 189 = .ok (.if_icmp .gt 14, 3) := by decide +kernel
theorem dX8_token_192 : decode cX8_token 192 = .ok (.aload_n 0, 1) := by decide +kernel
theorem dX8_token_193 : decode cX8_token 193 = .ok (.iload_n 2, 1) := by decide +kernel
theorem dX8_token_194 : decode cX8_token 194 = .ok (.invokevirtual 173, 3) := by decide +kernel
theorem dX8_token_197 : decode cX8_token 197 = .ok (.invokestatic 190, 3) := by decide +kernel
theorem dX8_token_200 : decode cX8_token 200 = .ok (.ifCond .eq 7, 3) := by decide +kernel
theorem dX8_token_203 : decode cX8_token 203 = .ok (.iconst 3, 1) := by decide +kernel
theorem dX8_token_204 : decode cX8_token 204 = .ok (.goto 4, 3) := by decide +kernel
theorem dX8_token_207 : decode cX8_token 207 = .ok (.iconst 2, 1) := by decide +kernel
theorem dX8_token_208 : decode cX8_token 208 = .ok (.putfield 187, 3) := by decide +kernel
theorem dX8_token_211 : decode cX8_token 211 = .ok (.goto 21, 3) := by decide +kernel
theorem dX8_token_214 : decode cX8_token 214 = .ok (.iconst 1, 1) := by decide +kernel
theorem dX8_token_215 : decode cX8_token 215 = .ok (.istore_n 2, 1) := by decide +kernel
theorem dX8_token_216 : decode cX8_token 216 = .ok (.aload_n 0, 1) := by decide +kernel
theorem dX8_token_217 : decode cX8_token 217 = .ok (.iload_n 1, 1) := by decide +kernel
theorem dX8_token_218 : decode cX8_token 218 = .ok (.invokestatic 197, 3) := by decide +kernel
theorem dX8_token_221 : decode cX8_token 221 = .ok (.ifCond .eq 7, 3) := by decide +kernel
theorem dX8_token_224 : decode cX8_token 224 = .ok (.iload_n 1, 1) := by decide +kernel
theorem dX8_token_225 : decode cX8_token 225 = .ok (.goto 4, 3) := by decide +kernel
theorem dX8_token_228 : decode cX8_token 228 = .ok (.iconst 3, 1) := by decide +kernel
theorem dX8_token_229 : decode cX8_token 229 = .ok (.putfield 187, 3) := by decide +kernel
theorem dX8_token_232 : decode cX8_token 232 = .ok (.aload_n 0, 1) := by decide +kernel
theorem dX8_token_233 : decode cX8_token 233 = .ok (.getfield 187, 3) := by decide +kernel
theorem dX8_token_236 : decode cX8_token 236 = .ok (.iconst 3, 1) := by decide +kernel
theorem dX8_token_237 : decode cX8_token 237 = .ok (.if_icmp .eq 13, 3) := by decide +kernel
theorem dX8_token_240 : decode cX8_token 240 = .ok (.aload_n 0, 1) := by decide +kernel
theorem dX8_token_241 : decode cX8_token 241 = .ok (.dup, 1) := by decide +kernel
theorem dX8_token_242 : decode cX8_token 242 = .ok (.getfield 167, 3) := by decide +kernel
theorem dX8_token_245 : decode cX8_token 245 = .ok (.iload_n 2, 1) := by decide +kernel
theorem dX8_token_246 : decode cX8_token 246 = .ok (.iadd, 1) := by decide +kernel
theorem dX8_token_247 : decode cX8_token 247 = .ok (.putfield 167, 3) := by decide +kernel
theorem dX8_token_250 : decode cX8_token 250 = .ok (.return_, 1) := by decide +kernel
theorem dX8_wrong_0 : decode cX8_wrong 0 = .ok (.aload_n 0, 1) := by decide +kernel
theorem dX8_wrong_1 : decode cX8_wrong 1 = .ok (.getfield 200, 3) := by decide +kernel
theorem dX8_wrong_4 : decode cX8_wrong 4 = .ok (.ifCond .le 4, 3) := by decide +kernel
theorem dX8_wrong_7 : decode cX8_wrong 7 = .ok (.return_, 1) := by decide +kernel
theorem dX8_wrong_8 : decode cX8_wrong 8 = .ok (.aload_n 0, 1) := by decide +kernel
theorem dX8_wrong_9 : decode cX8_wrong 9 = .ok (.aload_n 0, 1) := by decide +kernel
theorem dX8_wrong_10 : decode cX8_wrong 10 = .ok (.getfield 187, 3) := by decide +kernel
theorem dX8_wrong_13 : decode cX8_wrong 13 = .ok (.iconst 3, 1) := by decide +kernel
theorem dX8_wrong_14 : decode cX8_wrong 14 = .ok (.if_icmp .ne 7, 3) := by decide +kernel
theorem dX8_wrong_17 : decode cX8_wrong 17 = .ok (.iconst 1, 1) := by decide +kernel
theorem dX8_wrong_18 : decode cX8_wrong 18 = .ok (.goto 4, 3) := by decide +kernel
theorem dX8_wrong_21 : decode cX8_wrong 21 = .ok (.iload_n 1, 1) := by decide +kernel
theorem dX8_wrong_22 : decode cX8_wrong 22 = .ok (.putfield 200, 3) := by decide +kernel
theorem dX8_wrong_25 : decode cX8_wrong 25 = .ok (.aload_n 0, 1) := by decide +kernel
theorem dX8_wrong_26 : decode cX8_wrong 26 = .ok (.aload_n 0, 1) := by decide +kernel
theorem dX8_wrong_27 : decode cX8_wrong 27 = .ok (.getfield 177, 3) := by decide +kernel
theorem dX8_wrong_30 : decode cX8_wrong 30 = .ok (.putfield 13, 3) := by decide +kernel
theorem dX8_wrong_33 : decode cX8_wrong 33 = .ok (.return_, 1) := by decide +kernel
theorem dX8_isWord_0 : decode cX8_isWord 0 = .ok (.aload_n 0, 1) := by decide +kernel
theorem dX8_isWord_1 : decode cX8_isWord 1 = .ok (.getfield 187, 3) := by decide +kernel
theorem dX8_isWord_4 : decode cX8_isWord 4 = .ok (.iconst 1, 1) := by decide +kernel
theorem dX8_isWord_5 : decode cX8_isWord 5 = .ok (.if_icmp .ne 16, 3) := by decide +kernel
theorem dX8_isWord_8 : decode cX8_isWord 8 = .ok (.aload_n 0, 1) := by decide +kernel
theorem dX8_isWord_9 : decode cX8_isWord 9 = .ok (.getfield 180, 3) := by decide +kernel
theorem dX8_isWord_12 : decode cX8_isWord 12 = .ok (.lload_n 1, 1) := by decide +kernel
theorem dX8_isWord_13 : decode cX8_isWord 13 = .ok (.lcmp, 1) := by decide +kernel
theorem dX8_isWord_14 : decode cX8_isWord 14 = .ok (.ifCond .ne 7, 3) := by decide +kernel
theorem dX8_isWord_17 : decode cX8_isWord 17 = .ok (.iconst 1, 1) := by decide +kernel
theorem dX8_isWord_18 : decode cX8_isWord 18 = .ok (.goto 4, 3) := by decide +kernel
theorem dX8_isWord_21 : decode cX8_isWord 21 = .ok (.iconst 0, 1) := by decide +kernel
theorem dX8_isWord_22 : decode cX8_isWord 22 = .ok (.ireturn, 1) := by decide +kernel
theorem dX8_want_0 : decode cX8_want 0 = .ok (.aload_n 0, 1) := by decide +kernel
theorem dX8_want_1 : decode cX8_want 1 = .ok (.getfield 200, 3) := by decide +kernel
theorem dX8_want_4 : decode cX8_want 4 = .ok (.ifCond .le 4, 3) := by decide +kernel
theorem dX8_want_7 : decode cX8_want 7 = .ok (.return_, 1) := by decide +kernel
theorem dX8_want_8 : decode cX8_want 8 = .ok (.aload_n 0, 1) := by decide +kernel
theorem dX8_want_9 : decode cX8_want 9 = .ok (.lload_n 1, 1) := by decide +kernel
theorem dX8_want_10 : decode cX8_want 10 = .ok (.invokevirtual 203, 3) := by decide +kernel
theorem dX8_want_13 : decode cX8_want 13 = .ok (.ifCond .ne 11, 3) := by decide +kernel
theorem dX8_want_16 : decode cX8_want 16 = .ok (.aload_n 0, 1) := by decide +kernel
theorem dX8_want_17 : decode cX8_want 17 = .ok (.iconst 2, 1) := by decide +kernel
theorem dX8_want_18 : decode cX8_want 18 = .ok (.invokevirtual 207, 3) := by decide +kernel
theorem dX8_want_21 : decode cX8_want 21 = .ok (.goto 7, 3) := by decide +kernel
theorem dX8_want_24 : decode cX8_want 24 = .ok (.aload_n 0, 1) := by decide +kernel
theorem dX8_want_25 : decode cX8_want 25 = .ok (.invokevirtual 210, 3) := by decide +kernel
theorem dX8_want_28 : decode cX8_want 28 = .ok (.return_, 1) := by decide +kernel
theorem dX8_toldNumber_0 : decode cX8_toldNumber 0 = .ok (.aload_n 0, 1) := by decide +kernel
theorem dX8_toldNumber_1 : decode cX8_toldNumber 1 = .ok (.getfield 200, 3) := by decide +kernel
theorem dX8_toldNumber_4 : decode cX8_toldNumber 4 = .ok (.ifCond .le 5, 3) := by decide +kernel
theorem dX8_toldNumber_7 : decode cX8_toldNumber 7 = .ok (.iconst 0, 1) := by decide +kernel
theorem dX8_toldNumber_8 : decode cX8_toldNumber 8 = .ok (.ireturn, 1) := by decide +kernel
theorem dX8_toldNumber_9 : decode cX8_toldNumber 9 = .ok (.aload_n 0, 1) := by decide +kernel
theorem dX8_toldNumber_10 : decode cX8_toldNumber 10 = .ok (.getfield 187, 3) := by decide +kernel
theorem dX8_toldNumber_13 : decode cX8_toldNumber 13 = .ok (.iconst 2, 1) := by decide +kernel
theorem dX8_toldNumber_14 : decode cX8_toldNumber 14 = .ok (.if_icmp .eq 11, 3) := by decide +kernel
theorem dX8_toldNumber_17 : decode cX8_toldNumber 17 = .ok (.aload_n 0, 1) := by decide +kernel
theorem dX8_toldNumber_18 : decode cX8_toldNumber 18 = .ok (.iconst 2, 1) := by decide +kernel
theorem dX8_toldNumber_19 : decode cX8_toldNumber 19 = .ok (.invokevirtual 207, 3) := by decide +kernel
theorem dX8_toldNumber_22 : decode cX8_toldNumber 22 = .ok (.goto 24, 3) := by decide +kernel
theorem dX8_toldNumber_25 : decode cX8_toldNumber 25 = .ok (.aload_n 0, 1) := by decide +kernel
theorem dX8_toldNumber_26 : decode cX8_toldNumber 26 = .ok (.getfield 184, 3) := by decide +kernel
theorem dX8_toldNumber_29 : decode cX8_toldNumber 29 = .ok (.iload_n 1, 1) := by decide +kernel
theorem dX8_toldNumber_30 : decode cX8_toldNumber 30 = .ok (.if_icmp .lt 11, 3) := by decide +kernel
theorem dX8_toldNumber_33 : decode cX8_toldNumber 33 = .ok (.aload_n 0, 1) := by decide +kernel
theorem dX8_toldNumber_34 : decode cX8_toldNumber 34 = .ok (.getfield 184, 3) := by decide +kernel
theorem dX8_toldNumber_37 : decode cX8_toldNumber 37 = .ok (.iload_n 2, 1) := by decide +kernel
theorem dX8_toldNumber_38 : decode cX8_toldNumber 38 = .ok (.if_icmp .le 8, 3) := by decide +kernel
theorem dX8_toldNumber_41 : decode cX8_toldNumber 41 = .ok (.aload_n 0, 1) := by decide +kernel
theorem dX8_toldNumber_42 : decode cX8_toldNumber 42 = .ok (.iconst 4, 1) := by decide +kernel
theorem dX8_toldNumber_43 : decode cX8_toldNumber 43 = .ok (.invokevirtual 207, 3) := by decide +kernel
theorem dX8_toldNumber_46 : decode cX8_toldNumber 46 = .ok (.aload_n 0, 1) := by decide +kernel
theorem dX8_toldNumber_47 : decode cX8_toldNumber 47 = .ok (.getfield 184, 3) := by decide +kernel
theorem dX8_toldNumber_50 : decode cX8_toldNumber 50 = .ok (.istore_n 3, 1) := by decide +kernel
theorem dX8_toldNumber_51 : decode cX8_toldNumber 51 = .ok (.aload_n 0, 1) := by decide +kernel
theorem dX8_toldNumber_52 : decode cX8_toldNumber 52 = .ok (.getfield 200, 3) := by decide +kernel
theorem dX8_toldNumber_55 : decode cX8_toldNumber 55 = .ok (.ifCond .ne 7, 3) := by decide +kernel
theorem dX8_toldNumber_58 : decode cX8_toldNumber 58 = .ok (.aload_n 0, 1) := by decide +kernel
theorem dX8_toldNumber_59 : decode cX8_toldNumber 59 = .ok (.invokevirtual 210, 3) := by decide +kernel
theorem dX8_toldNumber_62 : decode cX8_toldNumber 62 = .ok (.iload_n 3, 1) := by decide +kernel
theorem dX8_toldNumber_63 : decode cX8_toldNumber 63 = .ok (.ireturn, 1) := by decide +kernel
theorem dX8_told_0 : decode cX8_told 0 = .ok (.aload_n 0, 1) := by decide +kernel
theorem dX8_told_1 : decode cX8_told 1 = .ok (.lload_n 1, 1) := by decide +kernel
theorem dX8_told_2 : decode cX8_told 2 = .ok (.invokevirtual 213, 3) := by decide +kernel
theorem dX8_told_5 : decode cX8_told 5 = .ok (.aload_n 0, 1) := by decide +kernel
theorem dX8_told_6 : decode cX8_told 6 = .ok (.iload_n 3, 1) := by decide +kernel
theorem dX8_told_7 : decode cX8_told 7 = .ok (.iload 4, 2) := by decide +kernel
theorem dX8_told_9 : decode cX8_told 9 = .ok (.invokevirtual 217, 3) := by decide +kernel
theorem dX8_told_12 : decode cX8_told 12 = .ok (.ireturn, 1) := by decide +kernel
theorem dX8_note_0 : decode cX8_note 0 = .ok (.aload_n 0, 1) := by decide +kernel
theorem dX8_note_1 : decode cX8_note 1 = .ok (.getfield 54, 3) := by decide +kernel
theorem dX8_note_4 : decode cX8_note 4 = .ok (.aload_n 0, 1) := by decide +kernel
theorem dX8_note_5 : decode cX8_note 5 = .ok (.getfield 221, 3) := by decide +kernel
theorem dX8_note_8 : decode cX8_note 8 = .ok (.iload_n 1, 1) := by decide +kernel
theorem dX8_note_9 : decode cX8_note 9 = .ok (.iastore, 1) := by decide +kernel
theorem dX8_note_10 : decode cX8_note 10 = .ok (.aload_n 0, 1) := by decide +kernel
theorem dX8_note_11 : decode cX8_note 11 = .ok (.getfield 57, 3) := by decide +kernel
theorem dX8_note_14 : decode cX8_note 14 = .ok (.aload_n 0, 1) := by decide +kernel
theorem dX8_note_15 : decode cX8_note 15 = .ok (.getfield 221, 3) := by decide +kernel
theorem dX8_note_18 : decode cX8_note 18 = .ok (.iload_n 2, 1) := by decide +kernel
theorem dX8_note_19 : decode cX8_note 19 = .ok (.iastore, 1) := by decide +kernel
theorem dX8_note_20 : decode cX8_note 20 = .ok (.aload_n 0, 1) := by decide +kernel
theorem dX8_note_21 : decode cX8_note 21 = .ok (.dup, 1) := by decide +kernel
theorem dX8_note_22 : decode cX8_note 22 = .ok (.getfield 221, 3) := by decide +kernel
theorem dX8_note_25 : decode cX8_note 25 = .ok (.iconst 1, 1) := by decide +kernel
theorem dX8_note_26 : decode cX8_note 26 = .ok (.iadd, 1) := by decide +kernel
theorem dX8_note_27 : decode cX8_note 27 = .ok (.putfield 221, 3) := by decide +kernel
theorem dX8_note_30 : decode cX8_note 30 = .ok (.return_, 1) := by decide +kernel
theorem dX8_upper_0 : decode cX8_upper 0 = .ok (.aload_n 0, 1) := by decide +kernel
theorem dX8_upper_1 : decode cX8_upper 1 = .ok (.getfield 224, 3) := by decide +kernel
theorem dX8_upper_4 : decode cX8_upper 4 = .ok (.ifCond .ne 8, 3) := by decide +kernel
theorem dX8_upper_7 : decode cX8_upper 7 = .ok (.bipush 30, 2) := by decide +kernel
theorem dX8_upper_9 : decode cX8_upper 9 = .ok (.goto 14, 3) := by decide +kernel
theorem dX8_upper_12 : decode cX8_upper 12 = .ok (.aload_n 0, 1) := by decide +kernel
theorem dX8_upper_13 : decode cX8_upper 13 = .ok (.getfield 66, 3) := by decide +kernel
theorem dX8_upper_16 : decode cX8_upper 16 = .ok (.aload_n 0, 1) := by decide +kernel
theorem dX8_upper_17 : decode cX8_upper 17 = .ok (.getfield 224, 3) := by decide +kernel
theorem dX8_upper_20 : decode cX8_upper 20 = .ok (.iconst 1, 1) := by decide +kernel
theorem dX8_upper_21 : decode cX8_upper 21 = .ok (.isub, 1) := by decide +kernel
theorem dX8_upper_22 : decode cX8_upper 22 = .ok (.iaload, 1) := by decide +kernel
theorem dX8_upper_23 : decode cX8_upper 23 = .ok (.ireturn, 1) := by decide +kernel
theorem dX8_hold_0 : decode cX8_hold 0 = .ok (.aload_n 0, 1) := by decide +kernel
theorem dX8_hold_1 : decode cX8_hold 1 = .ok (.getfield 66, 3) := by decide +kernel
theorem dX8_hold_4 : decode cX8_hold 4 = .ok (.aload_n 0, 1) := by decide +kernel
theorem dX8_hold_5 : decode cX8_hold 5 = .ok (.getfield 224, 3) := by decide +kernel
theorem dX8_hold_8 : decode cX8_hold 8 = .ok (.iload_n 1, 1) := by decide +kernel
theorem dX8_hold_9 : decode cX8_hold 9 = .ok (.iastore, 1) := by decide +kernel
theorem dX8_hold_10 : decode cX8_hold 10 = .ok (.aload_n 0, 1) := by decide +kernel
theorem dX8_hold_11 : decode cX8_hold 11 = .ok (.dup, 1) := by decide +kernel
theorem dX8_hold_12 : decode cX8_hold 12 = .ok (.getfield 224, 3) := by decide +kernel
theorem dX8_hold_15 : decode cX8_hold 15 = .ok (.iconst 1, 1) := by decide +kernel
theorem dX8_hold_16 : decode cX8_hold 16 = .ok (.iadd, 1) := by decide +kernel
theorem dX8_hold_17 : decode cX8_hold 17 = .ok (.putfield 224, 3) := by decide +kernel
theorem dX8_hold_20 : decode cX8_hold 20 = .ok (.iload_n 1, 1) := by decide +kernel
theorem dX8_hold_21 : decode cX8_hold 21 = .ok (.bipush 30, 2) := by decide +kernel
theorem dX8_hold_23 : decode cX8_hold 23 = .ok (.if_icmp .eq 9, 3) := by decide +kernel
theorem dX8_hold_26 : decode cX8_hold 26 = .ok (.iload_n 1, 1) := by decide +kernel
theorem dX8_hold_27 : decode cX8_hold 27 = .ok (.bipush 22, 2) := by decide +kernel
theorem dX8_hold_29 : decode cX8_hold 29 = .ok (.if_icmp .ne 13, 3) := by decide +kernel
theorem dX8_hold_32 : decode cX8_hold 32 = .ok (.aload_n 0, 1) := by decide +kernel
theorem dX8_hold_33 : decode cX8_hold 33 = .ok (.dup, 1) := by decide +kernel
theorem dX8_hold_34 : decode cX8_hold 34 = .ok (.getfield 227, 3) := by decide +kernel
theorem dX8_hold_37 : decode cX8_hold 37 = .ok (.iconst 1, 1) := by decide +kernel
theorem dX8_hold_38 : decode cX8_hold 38 = .ok (.iadd, 1) := by decide +kernel
theorem dX8_hold_39 : decode cX8_hold 39 = .ok (.putfield 227, 3) := by decide +kernel
theorem dX8_hold_42 : decode cX8_hold 42 = .ok (.return_, 1) := by decide +kernel
theorem dX8_pop_0 : decode cX8_pop 0 = .ok (.aload_n 0, 1) := by decide +kernel
theorem dX8_pop_1 : decode cX8_pop 1 = .ok (.dup, 1) := by decide +kernel
theorem dX8_pop_2 : decode cX8_pop 2 = .ok (.getfield 224, 3) := by decide +kernel
theorem dX8_pop_5 : decode cX8_pop 5 = .ok (.iconst 1, 1) := by decide +kernel
theorem dX8_pop_6 : decode cX8_pop 6 = .ok (.isub, 1) := by decide +kernel
theorem dX8_pop_7 : decode cX8_pop 7 = .ok (.putfield 224, 3) := by decide +kernel
theorem dX8_pop_10 : decode cX8_pop 10 = .ok (.aload_n 0, 1) := by decide +kernel
theorem dX8_pop_11 : decode cX8_pop 11 = .ok (.getfield 66, 3) := by decide +kernel
theorem dX8_pop_14 : decode cX8_pop 14 = .ok (.aload_n 0, 1) := by decide +kernel
theorem dX8_pop_15 : decode cX8_pop 15 = .ok (.getfield 224, 3) := by decide +kernel
theorem dX8_pop_18 : decode cX8_pop 18 = .ok (.iaload, 1) := by decide +kernel
theorem dX8_pop_19 : decode cX8_pop 19 = .ok (.bipush 22, 2) := by decide +kernel
theorem dX8_pop_21 : decode cX8_pop 21 = .ok (.if_icmp .ne 13, 3) := by decide +kernel
theorem dX8_pop_24 : decode cX8_pop 24 = .ok (.aload_n 0, 1) := by decide +kernel
theorem dX8_pop_25 : decode cX8_pop 25 = .ok (.dup, 1) := by decide +kernel
theorem dX8_pop_26 : decode cX8_pop 26 = .ok (.getfield 227, 3) := by decide +kernel
theorem dX8_pop_29 : decode cX8_pop 29 = .ok (.iconst 1, 1) := by decide +kernel
theorem dX8_pop_30 : decode cX8_pop 30 = .ok (.isub, 1) := by decide +kernel
theorem dX8_pop_31 : decode cX8_pop 31 = .ok (.putfield 227, 3) := by decide +kernel
theorem dX8_pop_34 : decode cX8_pop 34 = .ok (.aload_n 0, 1) := by decide +kernel
theorem dX8_pop_35 : decode cX8_pop 35 = .ok (.aload_n 0, 1) := by decide +kernel
theorem dX8_pop_36 : decode cX8_pop 36 = .ok (.getfield 66, 3) := by decide +kernel
theorem dX8_pop_39 : decode cX8_pop 39 = .ok (.aload_n 0, 1) := by decide +kernel
theorem dX8_pop_40 : decode cX8_pop 40 = .ok (.getfield 224, 3) := by decide +kernel
theorem dX8_pop_43 : decode cX8_pop 43 = .ok (.iaload, 1) := by decide +kernel
theorem dX8_pop_44 : decode cX8_pop 44 = .ok (.iconst 0, 1) := by decide +kernel
theorem dX8_pop_45 : decode cX8_pop 45 = .ok (.invokevirtual 230, 3) := by decide +kernel
theorem dX8_pop_48 : decode cX8_pop 48 = .ok (.return_, 1) := by decide +kernel
theorem dX8_settle_0 : decode cX8_settle 0 = .ok (.aload_n 0, 1) := by decide +kernel
theorem dX8_settle_1 : decode cX8_settle 1 = .ok (.invokevirtual 234, 3) := by decide +kernel
theorem dX8_settle_4 : decode cX8_settle 4 = .ok (.bipush 30, 2) := by decide +kernel
theorem dX8_settle_6 : decode cX8_settle 6 = .ok (.if_icmp .eq 18, 3) := by decide +kernel
theorem dX8_settle_9 : decode cX8_settle 9 = .ok (.aload_n 0, 1) := by decide +kernel
theorem dX8_settle_10 : decode cX8_settle 10 = .ok (.invokevirtual 234, 3) := by decide +kernel
theorem dX8_settle_13 : decode cX8_settle 13 = .ok (.iload_n 1, 1) := by decide +kernel
theorem dX8_settle_14 : decode cX8_settle 14 = .ok (.if_icmp .lt 10, 3) := by decide +kernel
theorem dX8_settle_17 : decode cX8_settle 17 = .ok (.aload_n 0, 1) := by decide +kernel
theorem dX8_settle_18 : decode cX8_settle 18 = .ok (.invokevirtual 238, 3) := by decide +kernel
theorem dX8_settle_21 : decode cX8_settle 21 = .ok (.goto (-21), 3) := by decide +kernel
theorem dX8_settle_24 : decode cX8_settle 24 = .ok (.return_, 1) := by decide +kernel
theorem dX8_isOpen_0 : decode cX8_isOpen 0 = .ok (.iconst 0, 1) := by decide +kernel
theorem dX8_isOpen_1 : decode cX8_isOpen 1 = .ok (.istore_n 1, 1) := by decide +kernel
theorem dX8_isOpen_2 : decode cX8_isOpen 2 = .ok (.iconst 0, 1) := by decide +kernel
theorem dX8_isOpen_3 : decode cX8_isOpen 3 = .ok (.istore_n 2, 1) := by decide +kernel
theorem dX8_isOpen_4 : decode cX8_isOpen 4 = .ok (.iload_n 2, 1) := by decide +kernel
theorem dX8_isOpen_5 : decode cX8_isOpen 5 = .ok (.aload_n 0, 1) := by decide +kernel
theorem dX8_isOpen_6 : decode cX8_isOpen 6 = .ok (.getfield 224, 3) := by decide +kernel
theorem dX8_isOpen_9 : decode cX8_isOpen 9 = .ok (.if_icmp .ge 30, 3) := by decide +kernel
theorem dX8_isOpen_12 : decode cX8_isOpen 12 = .ok (.iload_n 1, 1) := by decide +kernel
theorem dX8_isOpen_13 : decode cX8_isOpen 13 = .ok (.ifCond .ne 14, 3) := by decide +kernel
theorem dX8_isOpen_16 : decode cX8_isOpen 16 = .ok (.aload_n 0, 1) := by decide +kernel
theorem dX8_isOpen_17 : decode cX8_isOpen 17 = .ok (.getfield 66, 3) := by decide +kernel
theorem dX8_isOpen_20 : decode cX8_isOpen 20 = .ok (.iload_n 2, 1) := by decide +kernel
theorem dX8_isOpen_21 : decode cX8_isOpen 21 = .ok (.iaload, 1) := by decide +kernel
theorem dX8_isOpen_22 : decode cX8_isOpen 22 = .ok (.bipush 30, 2) := by decide +kernel
theorem dX8_isOpen_24 : decode cX8_isOpen 24 = .ok (.if_icmp .ne 7, 3) := by decide +kernel
theorem dX8_isOpen_27 : decode cX8_isOpen 27 = .ok (.iconst 1, 1) := by decide +kernel
theorem dX8_isOpen_28 : decode cX8_isOpen 28 = .ok (.goto 4, 3) := by decide +kernel
theorem dX8_isOpen_31 : decode cX8_isOpen 31 = .ok (.iconst 0, 1) := by decide +kernel
theorem dX8_isOpen_32 : decode cX8_isOpen 32 = .ok (.istore_n 1, 1) := by decide +kernel
theorem dX8_isOpen_33 : decode cX8_isOpen 33 = .ok (.iinc 2 1, 3) := by decide +kernel
theorem dX8_isOpen_36 : decode cX8_isOpen 36 = .ok (.goto (-32), 3) := by decide +kernel
theorem dX8_isOpen_39 : decode cX8_isOpen 39 = .ok (.iload_n 1, 1) := by decide +kernel
theorem dX8_isOpen_40 : decode cX8_isOpen 40 = .ok (.ireturn, 1) := by decide +kernel
theorem dX8_rank_0 : decode cX8_rank 0 = .ok (.iload_n 0, 1) := by decide +kernel
theorem dX8_rank_1 : decode cX8_rank 1 = .ok (.bipush 27, 2) := by decide +kernel
theorem dX8_rank_3 : decode cX8_rank 3 = .ok (.if_icmp .ne 8, 3) := by decide +kernel
theorem dX8_rank_6 : decode cX8_rank 6 = .ok (.bipush 26, 2) := by decide +kernel
theorem dX8_rank_8 : decode cX8_rank 8 = .ok (.goto 21, 3) := by decide +kernel
theorem dX8_rank_11 : decode cX8_rank 11 = .ok (.iload_n 0, 1) := by decide +kernel
theorem dX8_rank_12 : decode cX8_rank 12 = .ok (.bipush 24, 2) := by decide +kernel
theorem dX8_rank_14 : decode cX8_rank 14 = .ok (.if_icmp .eq 9, 3) := by decide +kernel
theorem dX8_rank_17 : decode cX8_rank 17 = .ok (.iload_n 0, 1) := by decide +kernel
theorem dX8_rank_18 : decode cX8_rank 18 = .ok (.bipush 25, 2) := by decide +kernel
theorem dX8_rank_20 : decode cX8_rank 20 = .ok (.if_icmp .ne 8, 3) := by decide +kernel
theorem dX8_rank_23 : decode cX8_rank 23 = .ok (.bipush 23, 2) := by decide +kernel
theorem dX8_rank_25 : decode cX8_rank 25 = .ok (.goto 4, 3) := by decide +kernel
theorem dX8_rank_28 : decode cX8_rank 28 = .ok (.iload_n 0, 1) := by decide +kernel
theorem dX8_rank_29 : decode cX8_rank 29 = .ok (.ireturn, 1) := by decide +kernel
theorem dX8_known_0 : decode cX8_known 0 = .ok (.aload_n 0, 1) := by decide +kernel
theorem dX8_known_1 : decode cX8_known 1 = .ok (.ldc2_w 241, 3) := by decide +kernel
theorem dX8_known_4 : decode cX8_known 4 = .ok (.invokevirtual 203, 3) := by decide +kernel
theorem dX8_known_7 : decode cX8_known 7 = .ok (.ifCond .eq 7, 3) := by decide +kernel
theorem dX8_known_10 : decode cX8_known 10 = .ok (.iconst 1, 1) := by decide +kernel
theorem dX8_known_11 : decode cX8_known 11 = .ok (.goto 90, 3) := by decide +kernel
theorem dX8_known_14 : decode cX8_known 14 = .ok (.aload_n 0, 1) := by decide +kernel
theorem dX8_known_15 : decode cX8_known 15 = .ok (.ldc2_w 243, 3) := by decide +kernel
theorem dX8_known_18 : decode cX8_known 18 = .ok (.invokevirtual 203, 3) := by decide +kernel
theorem dX8_known_21 : decode cX8_known 21 = .ok (.ifCond .eq 7, 3) := by decide +kernel
theorem dX8_known_24 : decode cX8_known 24 = .ok (.iconst 2, 1) := by decide +kernel
theorem dX8_known_25 : decode cX8_known 25 = .ok (.goto 76, 3) := by decide +kernel
theorem dX8_known_28 : decode cX8_known 28 = .ok (.aload_n 0, 1) := by decide +kernel
theorem dX8_known_29 : decode cX8_known 29 = .ok (.ldc2_w 245, 3) := by decide +kernel
theorem dX8_known_32 : decode cX8_known 32 = .ok (.invokevirtual 203, 3) := by decide +kernel
theorem dX8_known_35 : decode cX8_known 35 = .ok (.ifCond .eq 7, 3) := by decide +kernel
theorem dX8_known_38 : decode cX8_known 38 = .ok (.iconst 3, 1) := by decide +kernel
theorem dX8_known_39 : decode cX8_known 39 = .ok (.goto 62, 3) := by decide +kernel
theorem dX8_known_42 : decode cX8_known 42 = .ok (.aload_n 0, 1) := by decide +kernel
theorem dX8_known_43 : decode cX8_known 43 = .ok (.ldc2_w 247, 3) := by decide +kernel
theorem dX8_known_46 : decode cX8_known 46 = .ok (.invokevirtual 203, 3) := by decide +kernel
theorem dX8_known_49 : decode cX8_known 49 = .ok (.ifCond .eq 7, 3) := by decide +kernel
theorem dX8_known_52 : decode cX8_known 52 = .ok (.iconst 4, 1) := by decide +kernel
theorem dX8_known_53 : decode cX8_known 53 = .ok (.goto 48, 3) := by decide +kernel
theorem dX8_known_56 : decode cX8_known 56 = .ok (.aload_n 0, 1) := by decide +kernel
theorem dX8_known_57 : decode cX8_known 57 = .ok (.ldc2_w 249, 3) := by decide +kernel
theorem dX8_known_60 : decode cX8_known 60 = .ok (.invokevirtual 203, 3) := by decide +kernel
theorem dX8_known_63 : decode cX8_known 63 = .ok (.ifCond .eq 7, 3) := by decide +kernel
theorem dX8_known_66 : decode cX8_known 66 = .ok (.iconst 5, 1) := by decide +kernel
theorem dX8_known_67 : decode cX8_known 67 = .ok (.goto 34, 3) := by decide +kernel
theorem dX8_known_70 : decode cX8_known 70 = .ok (.aload_n 0, 1) := by decide +kernel
theorem dX8_known_71 : decode cX8_known 71 = .ok (.ldc2_w 251, 3) := by decide +kernel
theorem dX8_known_74 : decode cX8_known 74 = .ok (.invokevirtual 203, 3) := by decide +kernel
theorem dX8_known_77 : decode cX8_known 77 = .ok (.ifCond .eq 8, 3) := by decide +kernel
theorem dX8_known_80 : decode cX8_known 80 = .ok (.bipush 6, 2) := by decide +kernel
theorem dX8_known_82 : decode cX8_known 82 = .ok (.goto 19, 3) := by decide +kernel
theorem dX8_known_85 : decode cX8_known 85 = .ok (.aload_n 0, 1) := by decide +kernel
theorem dX8_known_86 : decode cX8_known 86 = .ok (.ldc2_w 253, 3) := by decide +kernel
theorem dX8_known_89 : decode cX8_known 89 = .ok (.invokevirtual 203, 3) := by decide +kernel
theorem dX8_known_92 : decode cX8_known 92 = .ok (.ifCond .eq 8, 3) := by decide +kernel
theorem dX8_known_95 : decode cX8_known 95 = .ok (.bipush 7, 2) := by decide +kernel
theorem dX8_known_97 : decode cX8_known 97 = .ok (.goto 4, 3) := by decide +kernel
theorem dX8_known_100 : decode cX8_known 100 = .ok (.iconst (-1), 1) := by decide +kernel
theorem dX8_known_101 : decode cX8_known 101 = .ok (.ireturn, 1) := by decide +kernel
theorem dX8_operand_0 : decode cX8_operand 0 = .ok (.iload_n 1, 1) := by decide +kernel
theorem dX8_operand_1 : decode cX8_operand 1 = .ok (.ifCond .ne 17, 3) := by decide +kernel
theorem dX8_operand_4 : decode cX8_operand 4 = .ok (.aload_n 0, 1) := by decide +kernel
theorem dX8_operand_5 : decode cX8_operand 5 = .ok (.ldc2_w 255, 3) := by decide +kernel
theorem dX8_operand_8 : decode cX8_operand 8 = .ok (.invokevirtual 203, 3) := by decide +kernel
theorem dX8_operand_11 : decode cX8_operand 11 = .ok (.ifCond .eq 7, 3) := by decide +kernel
theorem dX8_operand_14 : decode cX8_operand 14 = .ok (.iconst 1, 1) := by decide +kernel
theorem dX8_operand_15 : decode cX8_operand 15 = .ok (.goto 4, 3) := by decide +kernel
theorem dX8_operand_18 : decode cX8_operand 18 = .ok (.iconst 0, 1) := by decide +kernel
theorem dX8_operand_19 : decode cX8_operand 19 = .ok (.istore_n 2, 1) := by decide +kernel
theorem dX8_operand_20 : decode cX8_operand 20 = .ok (.aload_n 0, 1) := by decide +kernel
theorem dX8_operand_21 : decode cX8_operand 21 = .ok (.invokevirtual 257, 3) := by decide +kernel
theorem dX8_operand_24 : decode cX8_operand 24 = .ok (.istore_n 3, 1) := by decide +kernel
theorem dX8_operand_25 : decode cX8_operand 25 = .ok (.aload_n 0, 1) := by decide +kernel
theorem dX8_operand_26 : decode cX8_operand 26 = .ok (.getfield 187, 3) := by decide +kernel
theorem dX8_operand_29 : decode cX8_operand 29 = .ok (.iconst 2, 1) := by decide +kernel
theorem dX8_operand_30 : decode cX8_operand 30 = .ok (.if_icmp .eq 16, 3) := by decide +kernel
theorem dX8_operand_33 : decode cX8_operand 33 = .ok (.aload_n 0, 1) := by decide +kernel
theorem dX8_operand_34 : decode cX8_operand 34 = .ok (.getfield 187, 3) := by decide +kernel
theorem dX8_operand_37 : decode cX8_operand 37 = .ok (.bipush 40, 2) := by decide +kernel
theorem dX8_operand_39 : decode cX8_operand 39 = .ok (.if_icmp .eq 7, 3) := by decide +kernel
theorem dX8_operand_42 : decode cX8_operand 42 = .ok (.iload_n 3, 1) := by decide +kernel
theorem dX8_operand_43 : decode cX8_operand 43 = .ok (.ifCond .lt 7, 3) := by decide +kernel
theorem dX8_operand_46 : decode cX8_operand 46 = .ok (.iconst 1, 1) := by decide +kernel
theorem dX8_operand_47 : decode cX8_operand 47 = .ok (.goto 4, 3) := by decide +kernel
theorem dX8_operand_50 : decode cX8_operand 50 = .ok (.iconst 0, 1) := by decide +kernel
theorem dX8_operand_51 : decode cX8_operand 51 = .ok (.istore 4, 2) := by decide +kernel
theorem dX8_operand_53 : decode cX8_operand 53 = .ok (.iload_n 2, 1) := by decide +kernel
theorem dX8_operand_54 : decode cX8_operand 54 = .ok (.ifCond .ne 8, 3) := by decide +kernel
theorem dX8_operand_57 : decode cX8_operand 57 = .ok (.iload 4, 2) := by decide +kernel
theorem dX8_operand_59 : decode cX8_operand 59 = .ok (.ifCond .eq 39, 3) := by decide +kernel
theorem dX8_operand_62 : decode cX8_operand 62 = .ok (.iload 4, 2) := by decide +kernel
theorem dX8_operand_64 : decode cX8_operand 64 = .ok (.ifCond .eq 12, 3) := by decide +kernel
theorem dX8_operand_67 : decode cX8_operand 67 = .ok (.aload_n 0, 1) := by decide +kernel
theorem dX8_operand_68 : decode cX8_operand 68 = .ok (.getfield 260, 3) := by decide +kernel
theorem dX8_operand_71 : decode cX8_operand 71 = .ok (.bipush 30, 2) := by decide +kernel
theorem dX8_operand_73 : decode cX8_operand 73 = .ok (.if_icmp .eq 25, 3) := by decide +kernel
theorem dX8_operand_76 : decode cX8_operand 76 = .ok (.iload_n 2, 1) := by decide +kernel
theorem dX8_operand_77 : decode cX8_operand 77 = .ok (.ifCond .ne 12, 3) := by decide +kernel
theorem dX8_operand_80 : decode cX8_operand 80 = .ok (.aload_n 0, 1) := by decide +kernel
theorem dX8_operand_81 : decode cX8_operand 81 = .ok (.getfield 187, 3) := by decide +kernel
theorem dX8_operand_84 : decode cX8_operand 84 = .ok (.bipush 40, 2) := by decide +kernel
theorem dX8_operand_86 : decode cX8_operand 86 = .ok (.if_icmp .ne 17, 3) := by decide +kernel
theorem dX8_operand_89 : decode cX8_operand 89 = .ok (.aload_n 0, 1) := by decide +kernel
theorem dX8_operand_90 : decode cX8_operand 90 = .ok (.getfield 227, 3) := by decide +kernel
theorem dX8_operand_93 : decode cX8_operand 93 = .ok (.bipush 7, 2) := by decide +kernel
theorem dX8_operand_95 : decode cX8_operand 95 = .ok (.if_icmp .lt 8, 3) := by decide +kernel
theorem dX8_operand_98 : decode cX8_operand 98 = .ok (.aload_n 0, 1) := by decide +kernel
theorem dX8_operand_99 : decode cX8_operand 99 = .ok (.iconst 2, 1) := by decide +kernel
theorem dX8_operand_100 : decode cX8_operand 100 = .ok (.invokevirtual 207, 3) := by decide +kernel
theorem dX8_operand_103 : decode cX8_operand 103 = .ok (.aload_n 0, 1) := by decide +kernel
theorem dX8_operand_104 : decode cX8_operand 104 = .ok (.getfield 200, 3) := by decide +kernel
theorem dX8_operand_107 : decode cX8_operand 107 = .ok (.ifCond .le 5, 3) := by decide +kernel
theorem dX8_operand_110 : decode cX8_operand 110 = .ok (.iload_n 1, 1) := by decide +kernel
theorem dX8_operand_111 : decode cX8_operand 111 = .ok (.ireturn, 1) := by decide +kernel
theorem dX8_operand_112 : decode cX8_operand 112 = .ok (.iload_n 2, 1) := by decide +kernel
theorem dX8_operand_113 : decode cX8_operand 113 = .ok (.ifCond .eq 15, 3) := by decide +kernel
theorem dX8_operand_116 : decode cX8_operand 116 = .ok (.aload_n 0, 1) := by decide +kernel
theorem dX8_operand_117 : decode cX8_operand 117 = .ok (.bipush 22, 2) := by decide +kernel
theorem dX8_operand_119 : decode cX8_operand 119 = .ok (.invokevirtual 263, 3) := by decide +kernel
theorem dX8_operand_122 : decode cX8_operand 122 = .ok (.aload_n 0, 1) := by decide +kernel
theorem dX8_operand_123 : decode cX8_operand 123 = .ok (.invokevirtual 210, 3) := by decide +kernel
theorem dX8_operand_126 : decode cX8_operand 126 = .ok (.iconst 0, 1) := by decide +kernel
theorem dX8_operand_127 : decode cX8_operand 127 = .ok (.ireturn, 1) := by decide +kernel
theorem dX8_operand_128 : decode cX8_operand 128 = .ok (.aload_n 0, 1) := by decide +kernel
theorem dX8_operand_129 : decode cX8_operand 129 = .ok (.dup, 1) := by decide +kernel
theorem dX8_operand_130 : decode cX8_operand 130 = .ok (.getfield 260, 3) := by decide +kernel
theorem dX8_operand_133 : decode cX8_operand 133 = .ok (.iconst 1, 1) := by decide +kernel
theorem dX8_operand_134 : decode cX8_operand 134 = .ok (.iadd, 1) := by decide +kernel
theorem dX8_operand_135 : decode cX8_operand 135 = .ok (.putfield 260, 3) := by decide +kernel
theorem dX8_operand_138 : decode cX8_operand 138 = .ok (.aload_n 0, 1) := by decide +kernel
theorem dX8_operand_139 : decode cX8_operand 139 = .ok (.getfield 187, 3) := by decide +kernel
theorem dX8_operand_142 : decode cX8_operand 142 = .ok (.bipush 40, 2) := by decide +kernel
theorem dX8_operand_144 : decode cX8_operand 144 = .ok (.if_icmp .ne 15, 3) := by decide +kernel
theorem dX8_operand_147 : decode cX8_operand 147 = .ok (.aload_n 0, 1) := by decide +kernel
theorem dX8_operand_148 : decode cX8_operand 148 = .ok (.bipush 30, 2) := by decide +kernel
theorem dX8_operand_150 : decode cX8_operand 150 = .ok (.invokevirtual 263, 3) := by decide +kernel
theorem dX8_operand_153 : decode cX8_operand 153 = .ok (.aload_n 0, 1) := by decide +kernel
theorem dX8_operand_154 : decode cX8_operand 154 = .ok (.invokevirtual 210, 3) := by decide +kernel
theorem dX8_operand_157 : decode cX8_operand 157 = .ok (.iconst 0, 1) := by decide +kernel
theorem dX8_operand_158 : decode cX8_operand 158 = .ok (.ireturn, 1) := by decide +kernel
theorem dX8_operand_159 : decode cX8_operand 159 = .ok (.aload_n 0, 1) := by decide +kernel
theorem dX8_operand_160 : decode cX8_operand 160 = .ok (.iload_n 3, 1) := by decide +kernel
theorem dX8_operand_161 : decode cX8_operand 161 = .ok (.ifCond .ge 7, 3) := by decide +kernel
theorem dX8_operand_164 : decode cX8_operand 164 = .ok (.iconst 0, 1) := by decide +kernel
theorem dX8_operand_165 : decode cX8_operand 165 = .ok (.goto 4, 3) := by decide +kernel
theorem dX8_operand_168 : decode cX8_operand 168 = .ok (.iload_n 3, 1) := by decide +kernel
theorem dX8_operand_169 : decode cX8_operand 169 = .ok (.aload_n 0, 1) := by decide +kernel
theorem dX8_operand_170 : decode cX8_operand 170 = .ok (.getfield 184, 3) := by decide +kernel
theorem dX8_operand_173 : decode cX8_operand 173 = .ok (.invokevirtual 230, 3) := by decide +kernel
theorem dX8_operand_176 : decode cX8_operand 176 = .ok (.aload_n 0, 1) := by decide +kernel
theorem dX8_operand_177 : decode cX8_operand 177 = .ok (.invokevirtual 210, 3) := by decide +kernel
theorem dX8_operand_180 : decode cX8_operand 180 = .ok (.iconst 2, 1) := by decide +kernel
theorem dX8_operand_181 : decode cX8_operand 181 = .ok (.ireturn, 1) := by decide +kernel
theorem dX8_sign_0 : decode cX8_sign 0 = .ok (.aload_n 0, 1) := by decide +kernel
theorem dX8_sign_1 : decode cX8_sign 1 = .ok (.getfield 187, 3) := by decide +kernel
theorem dX8_sign_4 : decode cX8_sign 4 = .ok (.bipush 43, 2) := by decide +kernel
theorem dX8_sign_6 : decode cX8_sign 6 = .ok (.if_icmp .ne 8, 3) := by decide +kernel
theorem dX8_sign_9 : decode cX8_sign 9 = .ok (.bipush 26, 2) := by decide +kernel
theorem dX8_sign_11 : decode cX8_sign 11 = .ok (.goto 104, 3) := by decide +kernel
theorem dX8_sign_14 : decode cX8_sign 14 = .ok (.aload_n 0, 1) := by decide +kernel
theorem dX8_sign_15 : decode cX8_sign 15 = .ok (.getfield 187, 3) := by decide +kernel
theorem dX8_sign_18 : decode cX8_sign 18 = .ok (.bipush 45, 2) := by decide +kernel
theorem dX8_sign_20 : decode cX8_sign 20 = .ok (.if_icmp .ne 8, 3) := by decide +kernel
theorem dX8_sign_23 : decode cX8_sign 23 = .ok (.bipush 27, 2) := by decide +kernel
theorem dX8_sign_25 : decode cX8_sign 25 = .ok (.goto 90, 3) := by decide +kernel
theorem dX8_sign_28 : decode cX8_sign 28 = .ok (.aload_n 0, 1) := by decide +kernel
theorem dX8_sign_29 : decode cX8_sign 29 = .ok (.getfield 187, 3) := by decide +kernel
theorem dX8_sign_32 : decode cX8_sign 32 = .ok (.bipush 42, 2) := by decide +kernel
theorem dX8_sign_34 : decode cX8_sign 34 = .ok (.if_icmp .ne 8, 3) := by decide +kernel
theorem dX8_sign_37 : decode cX8_sign 37 = .ok (.bipush 28, 2) := by decide +kernel
theorem dX8_sign_39 : decode cX8_sign 39 = .ok (.goto 76, 3) := by decide +kernel
theorem dX8_sign_42 : decode cX8_sign 42 = .ok (.aload_n 0, 1) := by decide +kernel
theorem dX8_sign_43 : decode cX8_sign 43 = .ok (.getfield 187, 3) := by decide +kernel
theorem dX8_sign_46 : decode cX8_sign 46 = .ok (.bipush 61, 2) := by decide +kernel
theorem dX8_sign_48 : decode cX8_sign 48 = .ok (.if_icmp .ne 8, 3) := by decide +kernel
theorem dX8_sign_51 : decode cX8_sign 51 = .ok (.bipush 23, 2) := by decide +kernel
theorem dX8_sign_53 : decode cX8_sign 53 = .ok (.goto 62, 3) := by decide +kernel
theorem dX8_sign_56 : decode cX8_sign 56 = .ok (.aload_n 0, 1) := by decide +kernel
theorem dX8_sign_57 : decode cX8_sign 57 = .ok (.getfield 187, 3) := by decide +kernel
theorem dX8_sign_60 : decode cX8_sign 60 = .ok (.bipush 60, 2) := by decide +kernel
theorem dX8_sign_62 : decode cX8_sign 62 = .ok (.if_icmp .ne 8, 3) := by decide +kernel
theorem dX8_sign_65 : decode cX8_sign 65 = .ok (.bipush 24, 2) := by decide +kernel
theorem dX8_sign_67 : decode cX8_sign 67 = .ok (.goto 48, 3) := by decide +kernel
theorem dX8_sign_70 : decode cX8_sign 70 = .ok (.aload_n 0, 1) := by decide +kernel
theorem dX8_sign_71 : decode cX8_sign 71 = .ok (.getfield 187, 3) := by decide +kernel
theorem dX8_sign_74 : decode cX8_sign 74 = .ok (.bipush 62, 2) := by decide +kernel
theorem dX8_sign_76 : decode cX8_sign 76 = .ok (.if_icmp .ne 8, 3) := by decide +kernel
theorem dX8_sign_79 : decode cX8_sign 79 = .ok (.bipush 25, 2) := by decide +kernel
theorem dX8_sign_81 : decode cX8_sign 81 = .ok (.goto 34, 3) := by decide +kernel
theorem dX8_sign_84 : decode cX8_sign 84 = .ok (.aload_n 0, 1) := by decide +kernel
theorem dX8_sign_85 : decode cX8_sign 85 = .ok (.ldc2_w 266, 3) := by decide +kernel
theorem dX8_sign_88 : decode cX8_sign 88 = .ok (.invokevirtual 203, 3) := by decide +kernel
theorem dX8_sign_91 : decode cX8_sign 91 = .ok (.ifCond .eq 8, 3) := by decide +kernel
theorem dX8_sign_94 : decode cX8_sign 94 = .ok (.bipush 21, 2) := by decide +kernel
theorem dX8_sign_96 : decode cX8_sign 96 = .ok (.goto 19, 3) := by decide +kernel
theorem dX8_sign_99 : decode cX8_sign 99 = .ok (.aload_n 0, 1) := by decide +kernel
theorem dX8_sign_100 : decode cX8_sign 100 = .ok (.ldc2_w 268, 3) := by decide +kernel
theorem dX8_sign_103 : decode cX8_sign 103 = .ok (.invokevirtual 203, 3) := by decide +kernel
theorem dX8_sign_106 : decode cX8_sign 106 = .ok (.ifCond .eq 8, 3) := by decide +kernel
theorem dX8_sign_109 : decode cX8_sign 109 = .ok (.bipush 20, 2) := by decide +kernel
theorem dX8_sign_111 : decode cX8_sign 111 = .ok (.goto 4, 3) := by decide +kernel
theorem dX8_sign_114 : decode cX8_sign 114 = .ok (.iconst (-1), 1) := by decide +kernel
theorem dX8_sign_115 : decode cX8_sign 115 = .ok (.istore_n 1, 1) := by decide +kernel
theorem dX8_sign_116 : decode cX8_sign 116 = .ok (.aload_n 0, 1) := by decide +kernel
theorem dX8_sign_117 : decode cX8_sign 117 = .ok (.getfield 187, 3) := by decide +kernel
theorem dX8_sign_120 : decode cX8_sign 120 = .ok (.bipush 41, 2) := by decide +kernel
theorem dX8_sign_122 : decode cX8_sign 122 = .ok (.if_icmp .ne 41, 3) := by decide +kernel
theorem dX8_sign_125 : decode cX8_sign 125 = .ok (.aload_n 0, 1) := by decide +kernel
theorem dX8_sign_126 : decode cX8_sign 126 = .ok (.invokevirtual 270, 3) := by decide +kernel
theorem dX8_sign_129 : decode cX8_sign 129 = .ok (.ifCond .eq 34, 3) := by decide +kernel
theorem dX8_sign_132 : decode cX8_sign 132 = .ok (.aload_n 0, 1) := by decide +kernel
theorem dX8_sign_133 : decode cX8_sign 133 = .ok (.iconst 0, 1) := by decide +kernel
theorem dX8_sign_134 : decode cX8_sign 134 = .ok (.invokevirtual 274, 3) := by decide +kernel
theorem dX8_sign_137 : decode cX8_sign 137 = .ok (.aload_n 0, 1) := by decide +kernel
theorem dX8_sign_138 : decode cX8_sign 138 = .ok (.dup, 1) := by decide +kernel
theorem dX8_sign_139 : decode cX8_sign 139 = .ok (.getfield 224, 3) := by decide +kernel
theorem dX8_sign_142 : decode cX8_sign 142 = .ok (.iconst 1, 1) := by decide +kernel
theorem dX8_sign_143 : decode cX8_sign 143 = .ok (.isub, 1) := by decide +kernel
theorem dX8_sign_144 : decode cX8_sign 144 = .ok (.putfield 224, 3) := by decide +kernel
theorem dX8_sign_147 : decode cX8_sign 147 = .ok (.aload_n 0, 1) := by decide +kernel
theorem dX8_sign_148 : decode cX8_sign 148 = .ok (.dup, 1) := by decide +kernel
theorem dX8_sign_149 : decode cX8_sign 149 = .ok (.getfield 227, 3) := by decide +kernel
theorem dX8_sign_152 : decode cX8_sign 152 = .ok (.iconst 1, 1) := by decide +kernel
theorem dX8_sign_153 : decode cX8_sign 153 = .ok (.isub, 1) := by decide +kernel
theorem dX8_sign_154 : decode cX8_sign 154 = .ok (.putfield 227, 3) := by decide +kernel
theorem dX8_sign_157 : decode cX8_sign 157 = .ok (.aload_n 0, 1) := by decide +kernel
theorem dX8_sign_158 : decode cX8_sign 158 = .ok (.invokevirtual 210, 3) := by decide +kernel
theorem dX8_sign_161 : decode cX8_sign 161 = .ok (.iconst 2, 1) := by decide +kernel
theorem dX8_sign_162 : decode cX8_sign 162 = .ok (.ireturn, 1) := by decide +kernel
theorem dX8_sign_163 : decode cX8_sign 163 = .ok (.iload_n 1, 1) := by decide +kernel
theorem dX8_sign_164 : decode cX8_sign 164 = .ok (.ifCond .ge 10, 3) := by decide +kernel
theorem dX8_sign_167 : decode cX8_sign 167 = .ok (.aload_n 0, 1) := by decide +kernel
theorem dX8_sign_168 : decode cX8_sign 168 = .ok (.iconst 2, 1) := by decide +kernel
theorem dX8_sign_169 : decode cX8_sign 169 = .ok (.invokevirtual 207, 3) := by decide +kernel
theorem dX8_sign_172 : decode cX8_sign 172 = .ok (.iconst 2, 1) := by decide +kernel
theorem dX8_sign_173 : decode cX8_sign 173 = .ok (.ireturn, 1) := by decide +kernel
theorem dX8_sign_174 : decode cX8_sign 174 = .ok (.iload_n 1, 1) := by decide +kernel
theorem dX8_sign_175 : decode cX8_sign 175 = .ok (.invokestatic 277, 3) := by decide +kernel
theorem dX8_sign_178 : decode cX8_sign 178 = .ok (.bipush 23, 2) := by decide +kernel
theorem dX8_sign_180 : decode cX8_sign 180 = .ok (.if_icmp .ne 29, 3) := by decide +kernel
theorem dX8_sign_183 : decode cX8_sign 183 = .ok (.aload_n 0, 1) := by decide +kernel
theorem dX8_sign_184 : decode cX8_sign 184 = .ok (.bipush 26, 2) := by decide +kernel
theorem dX8_sign_186 : decode cX8_sign 186 = .ok (.invokevirtual 274, 3) := by decide +kernel
theorem dX8_sign_189 : decode cX8_sign 189 = .ok (.aload_n 0, 1) := by decide +kernel
theorem dX8_sign_190 : decode cX8_sign 190 = .ok (.invokevirtual 234, 3) := by decide +kernel
theorem dX8_sign_193 : decode cX8_sign 193 = .ok (.invokestatic 277, 3) := by decide +kernel
theorem dX8_sign_196 : decode cX8_sign 196 = .ok (.bipush 23, 2) := by decide +kernel
theorem dX8_sign_198 : decode cX8_sign 198 = .ok (.if_icmp .ne 19, 3) := by decide +kernel
theorem dX8_sign_201 : decode cX8_sign 201 = .ok (.aload_n 0, 1) := by decide +kernel
theorem dX8_sign_202 : decode cX8_sign 202 = .ok (.iconst 2, 1) := by decide +kernel
theorem dX8_sign_203 : decode cX8_sign 203 = .ok (.invokevirtual 207, 3) := by decide +kernel
theorem dX8_sign_206 : decode cX8_sign 206 = .ok (.goto 11, 3) := by decide +kernel
theorem dX8_sign_209 : decode cX8_sign 209 = .ok (.aload_n 0, 1) := by decide +kernel
theorem dX8_sign_210 : decode cX8_sign 210 = .ok (.iload_n 1, 1) := by decide +kernel
theorem dX8_sign_211 : decode cX8_sign 211 = .ok (.invokestatic 277, 3) := by decide +kernel
theorem dX8_sign_214 : decode cX8_sign 214 = .ok (.invokevirtual 274, 3) := by decide +kernel
theorem dX8_sign_217 : decode cX8_sign 217 = .ok (.aload_n 0, 1) := by decide +kernel
theorem dX8_sign_218 : decode cX8_sign 218 = .ok (.getfield 200, 3) := by decide +kernel
theorem dX8_sign_221 : decode cX8_sign 221 = .ok (.ifCond .le 5, 3) := by decide +kernel
theorem dX8_sign_224 : decode cX8_sign 224 = .ok (.iconst 2, 1) := by decide +kernel
theorem dX8_sign_225 : decode cX8_sign 225 = .ok (.ireturn, 1) := by decide +kernel
theorem dX8_sign_226 : decode cX8_sign 226 = .ok (.aload_n 0, 1) := by decide +kernel
theorem dX8_sign_227 : decode cX8_sign 227 = .ok (.iload_n 1, 1) := by decide +kernel
theorem dX8_sign_228 : decode cX8_sign 228 = .ok (.invokevirtual 263, 3) := by decide +kernel
theorem dX8_sign_231 : decode cX8_sign 231 = .ok (.aload_n 0, 1) := by decide +kernel
theorem dX8_sign_232 : decode cX8_sign 232 = .ok (.invokevirtual 210, 3) := by decide +kernel
theorem dX8_sign_235 : decode cX8_sign 235 = .ok (.iload_n 1, 1) := by decide +kernel
theorem dX8_sign_236 : decode cX8_sign 236 = .ok (.bipush 21, 2) := by decide +kernel
theorem dX8_sign_238 : decode cX8_sign 238 = .ok (.if_icmp .eq 9, 3) := by decide +kernel
theorem dX8_sign_241 : decode cX8_sign 241 = .ok (.iload_n 1, 1) := by decide +kernel
theorem dX8_sign_242 : decode cX8_sign 242 = .ok (.bipush 20, 2) := by decide +kernel
theorem dX8_sign_244 : decode cX8_sign 244 = .ok (.if_icmp .ne 7, 3) := by decide +kernel
theorem dX8_sign_247 : decode cX8_sign 247 = .ok (.iconst 0, 1) := by decide +kernel
theorem dX8_sign_248 : decode cX8_sign 248 = .ok (.goto 4, 3) := by decide +kernel
theorem dX8_sign_251 : decode cX8_sign 251 = .ok (.iconst 1, 1) := by decide +kernel
theorem dX8_sign_252 : decode cX8_sign 252 = .ok (.ireturn, 1) := by decide +kernel
theorem dX8_readLaw_0 : decode cX8_readLaw 0 = .ok (.aload_n 0, 1) := by decide +kernel
theorem dX8_readLaw_1 : decode cX8_readLaw 1 = .ok (.invokevirtual 210, 3) := by decide +kernel
theorem dX8_readLaw_4 : decode cX8_readLaw 4 = .ok (.aload_n 0, 1) := by decide +kernel
theorem dX8_readLaw_5 : decode cX8_readLaw 5 = .ok (.iconst 1, 1) := by decide +kernel
theorem dX8_readLaw_6 : decode cX8_readLaw 6 = .ok (.putfield 280, 3) := by decide +kernel
theorem dX8_readLaw_9 : decode cX8_readLaw 9 = .ok (.aload_n 0, 1) := by decide +kernel
theorem dX8_readLaw_10 : decode cX8_readLaw 10 = .ok (.aload_n 0, 1) := by decide +kernel
theorem dX8_readLaw_11 : decode cX8_readLaw 11 = .ok (.ldc2_w 284, 3) := by decide +kernel
theorem dX8_readLaw_14 : decode cX8_readLaw 14 = .ok (.iconst 1, 1) := by decide +kernel
theorem dX8_readLaw_15 : decode cX8_readLaw 15 = .ok (.bipush 9, 2) := by decide +kernel
theorem dX8_readLaw_17 : decode cX8_readLaw 17 = .ok (.invokevirtual 286, 3) := by decide +kernel
theorem dX8_readLaw_20 : decode cX8_readLaw 20 = .ok (.putfield 290, 3) := by decide +kernel
theorem dX8_readLaw_23 : decode cX8_readLaw 23 = .ok (.aload_n 0, 1) := by decide +kernel
theorem dX8_readLaw_24 : decode cX8_readLaw 24 = .ok (.aload_n 0, 1) := by decide +kernel
theorem dX8_readLaw_25 : decode cX8_readLaw 25 = .ok (.ldc2_w 293, 3) := by decide +kernel
theorem dX8_readLaw_28 : decode cX8_readLaw 28 = .ok (.iconst 0, 1) := by decide +kernel
theorem dX8_readLaw_29 : decode cX8_readLaw 29 = .ok (.bipush 20, 2) := by decide +kernel
theorem dX8_readLaw_31 : decode cX8_readLaw 31 = .ok (.invokevirtual 286, 3) := by decide +kernel
theorem dX8_readLaw_34 : decode cX8_readLaw 34 = .ok (.putfield 295, 3) := by decide +kernel
theorem dX8_readLaw_37 : decode cX8_readLaw 37 = .ok (.aload_n 0, 1) := by decide +kernel
theorem dX8_readLaw_38 : decode cX8_readLaw 38 = .ok (.aload_n 0, 1) := by decide +kernel
theorem dX8_readLaw_39 : decode cX8_readLaw 39 = .ok (.ldc2_w 298, 3) := by decide +kernel
theorem dX8_readLaw_42 : decode cX8_readLaw 42 = .ok (.iconst 1, 1) := by decide +kernel
theorem dX8_readLaw_43 : decode cX8_readLaw 43 = .ok (.bipush 9, 2) := by decide +kernel
theorem dX8_readLaw_45 : decode cX8_readLaw 45 = .ok (.invokevirtual 286, 3) := by decide +kernel
theorem dX8_readLaw_48 : decode cX8_readLaw 48 = .ok (.putfield 300, 3) := by decide +kernel
theorem dX8_readLaw_51 : decode cX8_readLaw 51 = .ok (.aload_n 0, 1) := by decide +kernel
theorem dX8_readLaw_52 : decode cX8_readLaw 52 = .ok (.aload_n 0, 1) := by decide +kernel
theorem dX8_readLaw_53 : decode cX8_readLaw 53 = .ok (.ldc2_w 303, 3) := by decide +kernel
theorem dX8_readLaw_56 : decode cX8_readLaw 56 = .ok (.iconst 0, 1) := by decide +kernel
theorem dX8_readLaw_57 : decode cX8_readLaw 57 = .ok (.bipush 9, 2) := by decide +kernel
theorem dX8_readLaw_59 : decode cX8_readLaw 59 = .ok (.invokevirtual 286, 3) := by decide +kernel
theorem dX8_readLaw_62 : decode cX8_readLaw 62 = .ok (.putfield 305, 3) := by decide +kernel
theorem dX8_readLaw_65 : decode cX8_readLaw 65 = .ok (.aload_n 0, 1) := by decide +kernel
theorem dX8_readLaw_66 : decode cX8_readLaw 66 = .ok (.ldc2_w 308, 3) := by decide +kernel
theorem dX8_readLaw_69 : decode cX8_readLaw 69 = .ok (.invokevirtual 213, 3) := by decide +kernel
theorem dX8_readLaw_72 : decode cX8_readLaw 72 = .ok (.aload_n 0, 1) := by decide +kernel
theorem dX8_readLaw_73 : decode cX8_readLaw 73 = .ok (.iconst 0, 1) := by decide +kernel
theorem dX8_readLaw_74 : decode cX8_readLaw 74 = .ok (.putfield 221, 3) := by decide +kernel
theorem dX8_readLaw_77 : decode cX8_readLaw 77 = .ok (.aload_n 0, 1) := by decide +kernel
theorem dX8_readLaw_78 : decode cX8_readLaw 78 = .ok (.iconst 0, 1) := by decide +kernel
theorem dX8_readLaw_79 : decode cX8_readLaw 79 = .ok (.putfield 224, 3) := by decide +kernel
theorem dX8_readLaw_82 : decode cX8_readLaw 82 = .ok (.aload_n 0, 1) := by decide +kernel
theorem dX8_readLaw_83 : decode cX8_readLaw 83 = .ok (.iconst 0, 1) := by decide +kernel
theorem dX8_readLaw_84 : decode cX8_readLaw 84 = .ok (.putfield 227, 3) := by decide +kernel
theorem dX8_readLaw_87 : decode cX8_readLaw 87 = .ok (.iconst 0, 1) := by decide +kernel
theorem dX8_readLaw_88 : decode cX8_readLaw 88 = .ok (.istore_n 1, 1) := by decide +kernel
theorem dX8_readLaw_89 : decode cX8_readLaw 89 = .ok (.aload_n 0, 1) := by decide +kernel
theorem dX8_readLaw_90 : decode cX8_readLaw 90 = .ok (.getfield 200, 3) := by decide +kernel
theorem dX8_readLaw_93 : decode cX8_readLaw 93 = .ok (.ifCond .ne 45, 3) := by decide +kernel
theorem dX8_readLaw_96 : decode cX8_readLaw 96 = .ok (.iload_n 1, 1) := by decide +kernel
theorem dX8_readLaw_97 : decode cX8_readLaw 97 = .ok (.iconst 2, 1) := by decide +kernel
theorem dX8_readLaw_98 : decode cX8_readLaw 98 = .ok (.if_icmp .ne 19, 3) := by decide +kernel
theorem dX8_readLaw_101 : decode cX8_readLaw 101 = .ok (.aload_n 0, 1) := by decide +kernel
theorem dX8_readLaw_102 : decode cX8_readLaw 102 = .ok (.getfield 187, 3) := by decide +kernel
theorem dX8_readLaw_105 : decode cX8_readLaw 105 = .ok (.bipush 59, 2) := by decide +kernel
theorem dX8_readLaw_107 : decode cX8_readLaw 107 = .ok (.if_icmp .ne 10, 3) := by decide +kernel
theorem dX8_readLaw_110 : decode cX8_readLaw 110 = .ok (.aload_n 0, 1) := by decide +kernel
theorem dX8_readLaw_111 : decode cX8_readLaw 111 = .ok (.invokevirtual 270, 3) := by decide +kernel
theorem dX8_readLaw_114 : decode cX8_readLaw 114 = .ok (.ifCond .eq 24, 3) := by decide +kernel
theorem dX8_readLaw_117 : decode cX8_readLaw 117 = .ok (.iload_n 1, 1) := by decide +kernel
theorem dX8_readLaw_118 : decode cX8_readLaw 118 = .ok (.iconst 2, 1) := by decide +kernel
theorem dX8_readLaw_119 : decode cX8_readLaw 119 = .ok (.if_icmp .ne 10, 3) := by decide +kernel
theorem dX8_readLaw_122 : decode cX8_readLaw 122 = .ok (.aload_n 0, 1) := by decide +kernel
theorem dX8_readLaw_123 : decode cX8_readLaw 123 = .ok (.invokevirtual 310, 3) := by decide +kernel
theorem dX8_readLaw_126 : decode cX8_readLaw 126 = .ok (.goto 8, 3) := by decide +kernel
theorem dX8_readLaw_129 : decode cX8_readLaw 129 = .ok (.aload_n 0, 1) := by decide +kernel
theorem dX8_readLaw_130 : decode cX8_readLaw 130 = .ok (.iload_n 1, 1) := by decide +kernel
theorem dX8_readLaw_131 : decode cX8_readLaw 131 = .ok (.invokevirtual 313, 3) := by decide +kernel
theorem dX8_readLaw_134 : decode cX8_readLaw 134 = .ok (.istore_n 1, 1) := by decide +kernel
theorem dX8_readLaw_135 : decode cX8_readLaw 135 = .ok (.goto (-46), 3) := by decide +kernel
theorem dX8_readLaw_138 : decode cX8_readLaw 138 = .ok (.aload_n 0, 1) := by decide +kernel
theorem dX8_readLaw_139 : decode cX8_readLaw 139 = .ok (.getfield 200, 3) := by decide +kernel
theorem dX8_readLaw_142 : decode cX8_readLaw 142 = .ok (.ifCond .ne 8, 3) := by decide +kernel
theorem dX8_readLaw_145 : decode cX8_readLaw 145 = .ok (.aload_n 0, 1) := by decide +kernel
theorem dX8_readLaw_146 : decode cX8_readLaw 146 = .ok (.iconst 0, 1) := by decide +kernel
theorem dX8_readLaw_147 : decode cX8_readLaw 147 = .ok (.invokevirtual 274, 3) := by decide +kernel
theorem dX8_readLaw_150 : decode cX8_readLaw 150 = .ok (.return_, 1) := by decide +kernel
theorem dX8_readSeats_0 : decode cX8_readSeats 0 = .ok (.aload_n 0, 1) := by decide +kernel
theorem dX8_readSeats_1 : decode cX8_readSeats 1 = .ok (.invokevirtual 210, 3) := by decide +kernel
theorem dX8_readSeats_4 : decode cX8_readSeats 4 = .ok (.aload_n 0, 1) := by decide +kernel
theorem dX8_readSeats_5 : decode cX8_readSeats 5 = .ok (.aload_n 0, 1) := by decide +kernel
theorem dX8_readSeats_6 : decode cX8_readSeats 6 = .ok (.bipush 6, 2) := by decide +kernel
theorem dX8_readSeats_8 : decode cX8_readSeats 8 = .ok (.bipush 40, 2) := by decide +kernel
theorem dX8_readSeats_10 : decode cX8_readSeats 10 = .ok (.invokevirtual 217, 3) := by decide +kernel
theorem dX8_readSeats_13 : decode cX8_readSeats 13 = .ok (.putfield 316, 3) := by decide +kernel
theorem dX8_readSeats_16 : decode cX8_readSeats 16 = .ok (.aload_n 0, 1) := by decide +kernel
theorem dX8_readSeats_17 : decode cX8_readSeats 17 = .ok (.iconst 1, 1) := by decide +kernel
theorem dX8_readSeats_18 : decode cX8_readSeats 18 = .ok (.putfield 319, 3) := by decide +kernel
theorem dX8_readSeats_21 : decode cX8_readSeats 21 = .ok (.return_, 1) := by decide +kernel
theorem dX8_readSlack_0 : decode cX8_readSlack 0 = .ok (.aload_n 0, 1) := by decide +kernel
theorem dX8_readSlack_1 : decode cX8_readSlack 1 = .ok (.invokevirtual 210, 3) := by decide +kernel
theorem dX8_readSlack_4 : decode cX8_readSlack 4 = .ok (.aload_n 0, 1) := by decide +kernel
theorem dX8_readSlack_5 : decode cX8_readSlack 5 = .ok (.getfield 36, 3) := by decide +kernel
theorem dX8_readSlack_8 : decode cX8_readSlack 8 = .ok (.aload_n 0, 1) := by decide +kernel
theorem dX8_readSlack_9 : decode cX8_readSlack 9 = .ok (.getfield 322, 3) := by decide +kernel
theorem dX8_readSlack_12 : decode cX8_readSlack 12 = .ok (.aload_n 0, 1) := by decide +kernel
theorem dX8_readSlack_13 : decode cX8_readSlack 13 = .ok (.iconst 0, 1) := by decide +kernel
theorem dX8_readSlack_14 : decode cX8_readSlack 14 = .ok (.sipush 999, 3) := by decide +kernel
theorem dX8_readSlack_17 : decode cX8_readSlack 17 = .ok (.invokevirtual 217, 3) := by decide +kernel
theorem dX8_readSlack_20 : decode cX8_readSlack 20 = .ok (.iastore, 1) := by decide +kernel
theorem dX8_readSlack_21 : decode cX8_readSlack 21 = .ok (.aload_n 0, 1) := by decide +kernel
theorem dX8_readSlack_22 : decode cX8_readSlack 22 = .ok (.getfield 39, 3) := by decide +kernel
theorem dX8_readSlack_25 : decode cX8_readSlack 25 = .ok (.aload_n 0, 1) := by decide +kernel
theorem dX8_readSlack_26 : decode cX8_readSlack 26 = .ok (.getfield 322, 3) := by decide +kernel
theorem dX8_readSlack_29 : decode cX8_readSlack 29 = .ok (.aload_n 0, 1) := by decide +kernel
theorem dX8_readSlack_30 : decode cX8_readSlack 30 = .ok (.ldc2_w 325, 3) := by decide +kernel
theorem dX8_readSlack_33 : decode cX8_readSlack 33 = .ok (.aload_n 0, 1) := by decide +kernel
theorem dX8_readSlack_34 : decode cX8_readSlack 34 = .ok (.getfield 36, 3) := by decide +kernel
theorem dX8_readSlack_37 : decode cX8_readSlack 37 = .ok (.aload_n 0, 1) := by decide +kernel
theorem dX8_readSlack_38 : decode cX8_readSlack 38 = .ok (.getfield 322, 3) := by decide +kernel
theorem dX8_readSlack_41 : decode cX8_readSlack 41 = .ok (.iaload, 1) := by decide +kernel
theorem dX8_readSlack_42 : decode cX8_readSlack 42 = .ok (.sipush 999, 3) := by decide +kernel
theorem dX8_readSlack_45 : decode cX8_readSlack 45 = .ok (.invokevirtual 286, 3) := by decide +kernel
theorem dX8_readSlack_48 : decode cX8_readSlack 48 = .ok (.iastore, 1) := by decide +kernel
theorem dX8_readSlack_49 : decode cX8_readSlack 49 = .ok (.aload_n 0, 1) := by decide +kernel
theorem dX8_readSlack_50 : decode cX8_readSlack 50 = .ok (.getfield 42, 3) := by decide +kernel
theorem dX8_readSlack_53 : decode cX8_readSlack 53 = .ok (.aload_n 0, 1) := by decide +kernel
theorem dX8_readSlack_54 : decode cX8_readSlack 54 = .ok (.getfield 322, 3) := by decide +kernel
theorem dX8_readSlack_57 : decode cX8_readSlack 57 = .ok (.aload_n 0, 1) := by decide +kernel
theorem dX8_readSlack_58 : decode cX8_readSlack 58 = .ok (.ldc2_w 327, 3) := by decide +kernel
theorem dX8_readSlack_61 : decode cX8_readSlack 61 = .ok (.iconst 0, 1) := by decide +kernel
theorem dX8_readSlack_62 : decode cX8_readSlack 62 = .ok (.bipush 9, 2) := by decide +kernel
theorem dX8_readSlack_64 : decode cX8_readSlack 64 = .ok (.invokevirtual 286, 3) := by decide +kernel
theorem dX8_readSlack_67 : decode cX8_readSlack 67 = .ok (.iastore, 1) := by decide +kernel
theorem dX8_readSlack_68 : decode cX8_readSlack 68 = .ok (.aload_n 0, 1) := by decide +kernel
theorem dX8_readSlack_69 : decode cX8_readSlack 69 = .ok (.dup, 1) := by decide +kernel
theorem dX8_readSlack_70 : decode cX8_readSlack 70 = .ok (.getfield 322, 3) := by decide +kernel
theorem dX8_readSlack_73 : decode cX8_readSlack 73 = .ok (.iconst 1, 1) := by decide +kernel
theorem dX8_readSlack_74 : decode cX8_readSlack 74 = .ok (.iadd, 1) := by decide +kernel
theorem dX8_readSlack_75 : decode cX8_readSlack 75 = .ok (.putfield 322, 3) := by decide +kernel
theorem dX8_readSlack_78 : decode cX8_readSlack 78 = .ok (.return_, 1) := by decide +kernel
theorem dX8_readRow_0 : decode cX8_readRow 0 = .ok (.aload_n 0, 1) := by decide +kernel
theorem dX8_readRow_1 : decode cX8_readRow 1 = .ok (.ldc2_w 329, 3) := by decide +kernel
theorem dX8_readRow_4 : decode cX8_readRow 4 = .ok (.invokevirtual 203, 3) := by decide +kernel
theorem dX8_readRow_7 : decode cX8_readRow 7 = .ok (.ifCond .eq 7, 3) := by decide +kernel
theorem dX8_readRow_10 : decode cX8_readRow 10 = .ok (.iconst 0, 1) := by decide +kernel
theorem dX8_readRow_11 : decode cX8_readRow 11 = .ok (.goto 18, 3) := by decide +kernel
theorem dX8_readRow_14 : decode cX8_readRow 14 = .ok (.aload_n 0, 1) := by decide +kernel
theorem dX8_readRow_15 : decode cX8_readRow 15 = .ok (.ldc2_w 331, 3) := by decide +kernel
theorem dX8_readRow_18 : decode cX8_readRow 18 = .ok (.invokevirtual 203, 3) := by decide +kernel
theorem dX8_readRow_21 : decode cX8_readRow 21 = .ok (.ifCond .eq 7, 3) := by decide +kernel
theorem dX8_readRow_24 : decode cX8_readRow 24 = .ok (.iconst 1, 1) := by decide +kernel
theorem dX8_readRow_25 : decode cX8_readRow 25 = .ok (.goto 4, 3) := by decide +kernel
theorem dX8_readRow_28 : decode cX8_readRow 28 = .ok (.iconst 2, 1) := by decide +kernel
theorem dX8_readRow_29 : decode cX8_readRow 29 = .ok (.istore_n 1, 1) := by decide +kernel
theorem dX8_readRow_30 : decode cX8_readRow 30 = .ok (.aload_n 0, 1) := by decide +kernel
theorem dX8_readRow_31 : decode cX8_readRow 31 = .ok (.iconst 1, 1) := by decide +kernel
theorem dX8_readRow_32 : decode cX8_readRow 32 = .ok (.putfield 333, 3) := by decide +kernel
theorem dX8_readRow_35 : decode cX8_readRow 35 = .ok (.aload_n 0, 1) := by decide +kernel
theorem dX8_readRow_36 : decode cX8_readRow 36 = .ok (.invokevirtual 210, 3) := by decide +kernel
theorem dX8_readRow_39 : decode cX8_readRow 39 = .ok (.aload_n 0, 1) := by decide +kernel
theorem dX8_readRow_40 : decode cX8_readRow 40 = .ok (.iconst 0, 1) := by decide +kernel
theorem dX8_readRow_41 : decode cX8_readRow 41 = .ok (.aload_n 0, 1) := by decide +kernel
theorem dX8_readRow_42 : decode cX8_readRow 42 = .ok (.getfield 316, 3) := by decide +kernel
theorem dX8_readRow_45 : decode cX8_readRow 45 = .ok (.iconst 1, 1) := by decide +kernel
theorem dX8_readRow_46 : decode cX8_readRow 46 = .ok (.isub, 1) := by decide +kernel
theorem dX8_readRow_47 : decode cX8_readRow 47 = .ok (.invokevirtual 217, 3) := by decide +kernel
theorem dX8_readRow_50 : decode cX8_readRow 50 = .ok (.istore_n 2, 1) := by decide +kernel
theorem dX8_readRow_51 : decode cX8_readRow 51 = .ok (.aload_n 0, 1) := by decide +kernel
theorem dX8_readRow_52 : decode cX8_readRow 52 = .ok (.ldc2_w 325, 3) := by decide +kernel
theorem dX8_readRow_55 : decode cX8_readRow 55 = .ok (.iload_n 2, 1) := by decide +kernel
theorem dX8_readRow_56 : decode cX8_readRow 56 = .ok (.aload_n 0, 1) := by decide +kernel
theorem dX8_readRow_57 : decode cX8_readRow 57 = .ok (.getfield 316, 3) := by decide +kernel
theorem dX8_readRow_60 : decode cX8_readRow 60 = .ok (.iconst 1, 1) := by decide +kernel
theorem dX8_readRow_61 : decode cX8_readRow 61 = .ok (.isub, 1) := by decide +kernel
theorem dX8_readRow_62 : decode cX8_readRow 62 = .ok (.invokevirtual 286, 3) := by decide +kernel
theorem dX8_readRow_65 : decode cX8_readRow 65 = .ok (.istore_n 3, 1) := by decide +kernel
theorem dX8_readRow_66 : decode cX8_readRow 66 = .ok (.iload_n 2, 1) := by decide +kernel
theorem dX8_readRow_67 : decode cX8_readRow 67 = .ok (.istore 4, 2) := by decide +kernel
theorem dX8_readRow_69 : decode cX8_readRow 69 = .ok (.iload 4, 2) := by decide +kernel
theorem dX8_readRow_71 : decode cX8_readRow 71 = .ok (.iload_n 3, 1) := by decide +kernel
theorem dX8_readRow_72 : decode cX8_readRow 72 = .ok (.if_icmp .gt 54, 3) := by decide +kernel
theorem dX8_readRow_75 : decode cX8_readRow 75 = .ok (.aload_n 0, 1) := by decide +kernel
theorem dX8_readRow_76 : decode cX8_readRow 76 = .ok (.getfield 200, 3) := by decide +kernel
theorem dX8_readRow_79 : decode cX8_readRow 79 = .ok (.ifCond .ne 47, 3) := by decide +kernel
theorem dX8_readRow_82 : decode cX8_readRow 82 = .ok (.iload_n 1, 1) := by decide +kernel
theorem dX8_readRow_83 : decode cX8_readRow 83 = .ok (.ifCond .ne 11, 3) := by decide +kernel
theorem dX8_readRow_86 : decode cX8_readRow 86 = .ok (.aload_n 0, 1) := by decide +kernel
theorem dX8_readRow_87 : decode cX8_readRow 87 = .ok (.getfield 17, 3) := by decide +kernel
theorem dX8_readRow_90 : decode cX8_readRow 90 = .ok (.iload 4, 2) := by decide +kernel
theorem dX8_readRow_92 : decode cX8_readRow 92 = .ok (.iconst 1, 1) := by decide +kernel
theorem dX8_readRow_93 : decode cX8_readRow 93 = .ok (.bastore, 1) := by decide +kernel
theorem dX8_readRow_94 : decode cX8_readRow 94 = .ok (.iload_n 1, 1) := by decide +kernel
theorem dX8_readRow_95 : decode cX8_readRow 95 = .ok (.iconst 1, 1) := by decide +kernel
theorem dX8_readRow_96 : decode cX8_readRow 96 = .ok (.if_icmp .ne 11, 3) := by decide +kernel
theorem dX8_readRow_99 : decode cX8_readRow 99 = .ok (.aload_n 0, 1) := by decide +kernel
theorem dX8_readRow_100 : decode cX8_readRow 100 = .ok (.getfield 21, 3) := by decide +kernel
theorem dX8_readRow_103 : decode cX8_readRow 103 = .ok (.iload 4, 2) := by decide +kernel
theorem dX8_readRow_105 : decode cX8_readRow 105 = .ok (.iconst 1, 1) := by decide +kernel
theorem dX8_readRow_106 : decode cX8_readRow 106 = .ok (.bastore, 1) := by decide +kernel
theorem dX8_readRow_107 : decode cX8_readRow 107 = .ok (.iload_n 1, 1) := by decide +kernel
theorem dX8_readRow_108 : decode cX8_readRow 108 = .ok (.iconst 2, 1) := by decide +kernel
theorem dX8_readRow_109 : decode cX8_readRow 109 = .ok (.if_icmp .ne 11, 3) := by decide +kernel
theorem dX8_readRow_112 : decode cX8_readRow 112 = .ok (.aload_n 0, 1) := by decide +kernel
theorem dX8_readRow_113 : decode cX8_readRow 113 = .ok (.getfield 24, 3) := by decide +kernel
theorem dX8_readRow_116 : decode cX8_readRow 116 = .ok (.iload 4, 2) := by decide +kernel
theorem dX8_readRow_118 : decode cX8_readRow 118 = .ok (.iconst 1, 1) := by decide +kernel
theorem dX8_readRow_119 : decode cX8_readRow 119 = .ok (.bastore, 1) := by decide +kernel
theorem dX8_readRow_120 : decode cX8_readRow 120 = .ok (.iinc 4 1, 3) := by decide +kernel
theorem dX8_readRow_123 : decode cX8_readRow 123 = .ok (.goto (-54), 3) := by decide +kernel
theorem dX8_readRow_126 : decode cX8_readRow 126 = .ok (.return_, 1) := by decide +kernel
theorem dX8_readLine_0 : decode cX8_readLine 0 = .ok (.aload_n 0, 1) := by decide +kernel
theorem dX8_readLine_1 : decode cX8_readLine 1 = .ok (.ldc2_w 336, 3) := by decide +kernel
theorem dX8_readLine_4 : decode cX8_readLine 4 = .ok (.invokevirtual 203, 3) := by decide +kernel
theorem dX8_readLine_7 : decode cX8_readLine 7 = .ok (.ifCond .eq 24, 3) := by decide +kernel
theorem dX8_readLine_10 : decode cX8_readLine 10 = .ok (.aload_n 0, 1) := by decide +kernel
theorem dX8_readLine_11 : decode cX8_readLine 11 = .ok (.getfield 319, 3) := by decide +kernel
theorem dX8_readLine_14 : decode cX8_readLine 14 = .ok (.ifCond .ne 17, 3) := by decide +kernel
theorem dX8_readLine_17 : decode cX8_readLine 17 = .ok (.aload_n 0, 1) := by decide +kernel
theorem dX8_readLine_18 : decode cX8_readLine 18 = .ok (.getfield 333, 3) := by decide +kernel
theorem dX8_readLine_21 : decode cX8_readLine 21 = .ok (.ifCond .ne 10, 3) := by decide +kernel
theorem dX8_readLine_24 : decode cX8_readLine 24 = .ok (.aload_n 0, 1) := by decide +kernel
theorem dX8_readLine_25 : decode cX8_readLine 25 = .ok (.invokevirtual 338, 3) := by decide +kernel
theorem dX8_readLine_28 : decode cX8_readLine 28 = .ok (.goto 95, 3) := by decide +kernel
theorem dX8_readLine_31 : decode cX8_readLine 31 = .ok (.aload_n 0, 1) := by decide +kernel
theorem dX8_readLine_32 : decode cX8_readLine 32 = .ok (.ldc2_w 329, 3) := by decide +kernel
theorem dX8_readLine_35 : decode cX8_readLine 35 = .ok (.invokevirtual 203, 3) := by decide +kernel
theorem dX8_readLine_38 : decode cX8_readLine 38 = .ok (.ifCond .ne 23, 3) := by decide +kernel
theorem dX8_readLine_41 : decode cX8_readLine 41 = .ok (.aload_n 0, 1) := by decide +kernel
theorem dX8_readLine_42 : decode cX8_readLine 42 = .ok (.ldc2_w 331, 3) := by decide +kernel
theorem dX8_readLine_45 : decode cX8_readLine 45 = .ok (.invokevirtual 203, 3) := by decide +kernel
theorem dX8_readLine_48 : decode cX8_readLine 48 = .ok (.ifCond .ne 13, 3) := by decide +kernel
theorem dX8_readLine_51 : decode cX8_readLine 51 = .ok (.aload_n 0, 1) := by decide +kernel
theorem dX8_readLine_52 : decode cX8_readLine 52 = .ok (.ldc2_w 341, 3) := by decide +kernel
theorem dX8_readLine_55 : decode cX8_readLine 55 = .ok (.invokevirtual 203, 3) := by decide +kernel
theorem dX8_readLine_58 : decode cX8_readLine 58 = .ok (.ifCond .eq 10, 3) := by decide +kernel
theorem dX8_readLine_61 : decode cX8_readLine 61 = .ok (.aload_n 0, 1) := by decide +kernel
theorem dX8_readLine_62 : decode cX8_readLine 62 = .ok (.invokevirtual 343, 3) := by decide +kernel
theorem dX8_readLine_65 : decode cX8_readLine 65 = .ok (.goto 58, 3) := by decide +kernel
theorem dX8_readLine_68 : decode cX8_readLine 68 = .ok (.aload_n 0, 1) := by decide +kernel
theorem dX8_readLine_69 : decode cX8_readLine 69 = .ok (.ldc2_w 245, 3) := by decide +kernel
theorem dX8_readLine_72 : decode cX8_readLine 72 = .ok (.invokevirtual 203, 3) := by decide +kernel
theorem dX8_readLine_75 : decode cX8_readLine 75 = .ok (.ifCond .eq 19, 3) := by decide +kernel
theorem dX8_readLine_78 : decode cX8_readLine 78 = .ok (.aload_n 0, 1) := by decide +kernel
theorem dX8_readLine_79 : decode cX8_readLine 79 = .ok (.getfield 322, 3) := by decide +kernel
theorem dX8_readLine_82 : decode cX8_readLine 82 = .ok (.bipush 6, 2) := by decide +kernel
theorem dX8_readLine_84 : decode cX8_readLine 84 = .ok (.if_icmp .ge 10, 3) := by decide +kernel
theorem dX8_readLine_87 : decode cX8_readLine 87 = .ok (.aload_n 0, 1) := by decide +kernel
theorem dX8_readLine_88 : decode cX8_readLine 88 = .ok (.invokevirtual 346, 3) := by decide +kernel
theorem dX8_readLine_91 : decode cX8_readLine 91 = .ok (.goto 32, 3) := by decide +kernel
theorem dX8_readLine_94 : decode cX8_readLine 94 = .ok (.aload_n 0, 1) := by decide +kernel
theorem dX8_readLine_95 : decode cX8_readLine 95 = .ok (.ldc2_w 349, 3) := by decide +kernel
theorem dX8_readLine_98 : decode cX8_readLine 98 = .ok (.invokevirtual 203, 3) := by decide +kernel
theorem dX8_readLine_101 : decode cX8_readLine 101 = .ok (.ifCond .eq 17, 3) := by decide +kernel
theorem dX8_readLine_104 : decode cX8_readLine 104 = .ok (.aload_n 0, 1) := by decide +kernel
theorem dX8_readLine_105 : decode cX8_readLine 105 = .ok (.getfield 280, 3) := by decide +kernel
theorem dX8_readLine_108 : decode cX8_readLine 108 = .ok (.ifCond .ne 10, 3) := by decide +kernel
theorem dX8_readLine_111 : decode cX8_readLine 111 = .ok (.aload_n 0, 1) := by decide +kernel
theorem dX8_readLine_112 : decode cX8_readLine 112 = .ok (.invokevirtual 351, 3) := by decide +kernel
theorem dX8_readLine_115 : decode cX8_readLine 115 = .ok (.goto 8, 3) := by decide +kernel
theorem dX8_readLine_118 : decode cX8_readLine 118 = .ok (.aload_n 0, 1) := by decide +kernel
theorem dX8_readLine_119 : decode cX8_readLine 119 = .ok (.iconst 2, 1) := by decide +kernel
theorem dX8_readLine_120 : decode cX8_readLine 120 = .ok (.invokevirtual 207, 3) := by decide +kernel
theorem dX8_readLine_123 : decode cX8_readLine 123 = .ok (.aload_n 0, 1) := by decide +kernel
theorem dX8_readLine_124 : decode cX8_readLine 124 = .ok (.getfield 200, 3) := by decide +kernel
theorem dX8_readLine_127 : decode cX8_readLine 127 = .ok (.ifCond .ne 17, 3) := by decide +kernel
theorem dX8_readLine_130 : decode cX8_readLine 130 = .ok (.aload_n 0, 1) := by decide +kernel
theorem dX8_readLine_131 : decode cX8_readLine 131 = .ok (.getfield 187, 3) := by decide +kernel
theorem dX8_readLine_134 : decode cX8_readLine 134 = .ok (.bipush 59, 2) := by decide +kernel
theorem dX8_readLine_136 : decode cX8_readLine 136 = .ok (.if_icmp .eq 8, 3) := by decide +kernel
theorem dX8_readLine_139 : decode cX8_readLine 139 = .ok (.aload_n 0, 1) := by decide +kernel
theorem dX8_readLine_140 : decode cX8_readLine 140 = .ok (.iconst 2, 1) := by decide +kernel
theorem dX8_readLine_141 : decode cX8_readLine 141 = .ok (.invokevirtual 207, 3) := by decide +kernel
theorem dX8_readLine_144 : decode cX8_readLine 144 = .ok (.aload_n 0, 1) := by decide +kernel
theorem dX8_readLine_145 : decode cX8_readLine 145 = .ok (.getfield 200, 3) := by decide +kernel
theorem dX8_readLine_148 : decode cX8_readLine 148 = .ok (.ifCond .ne 7, 3) := by decide +kernel
theorem dX8_readLine_151 : decode cX8_readLine 151 = .ok (.aload_n 0, 1) := by decide +kernel
theorem dX8_readLine_152 : decode cX8_readLine 152 = .ok (.invokevirtual 210, 3) := by decide +kernel
theorem dX8_readLine_155 : decode cX8_readLine 155 = .ok (.return_, 1) := by decide +kernel
theorem dX8_plainLaw_0 : decode cX8_plainLaw 0 = .ok (.aload_n 0, 1) := by decide +kernel
theorem dX8_plainLaw_1 : decode cX8_plainLaw 1 = .ok (.iconst 2, 1) := by decide +kernel
theorem dX8_plainLaw_2 : decode cX8_plainLaw 2 = .ok (.putfield 354, 3) := by decide +kernel
theorem dX8_plainLaw_5 : decode cX8_plainLaw 5 = .ok (.aload_n 0, 1) := by decide +kernel
theorem dX8_plainLaw_6 : decode cX8_plainLaw 6 = .ok (.iconst 4, 1) := by decide +kernel
theorem dX8_plainLaw_7 : decode cX8_plainLaw 7 = .ok (.putfield 357, 3) := by decide +kernel
theorem dX8_plainLaw_10 : decode cX8_plainLaw 10 = .ok (.aload_n 0, 1) := by decide +kernel
theorem dX8_plainLaw_11 : decode cX8_plainLaw 11 = .ok (.iconst 2, 1) := by decide +kernel
theorem dX8_plainLaw_12 : decode cX8_plainLaw 12 = .ok (.putfield 360, 3) := by decide +kernel
theorem dX8_plainLaw_15 : decode cX8_plainLaw 15 = .ok (.aload_n 0, 1) := by decide +kernel
theorem dX8_plainLaw_16 : decode cX8_plainLaw 16 = .ok (.iconst 0, 1) := by decide +kernel
theorem dX8_plainLaw_17 : decode cX8_plainLaw 17 = .ok (.putfield 363, 3) := by decide +kernel
theorem dX8_plainLaw_20 : decode cX8_plainLaw 20 = .ok (.aload_n 0, 1) := by decide +kernel
theorem dX8_plainLaw_21 : decode cX8_plainLaw 21 = .ok (.iconst 2, 1) := by decide +kernel
theorem dX8_plainLaw_22 : decode cX8_plainLaw 22 = .ok (.putfield 366, 3) := by decide +kernel
theorem dX8_plainLaw_25 : decode cX8_plainLaw 25 = .ok (.aload_n 0, 1) := by decide +kernel
theorem dX8_plainLaw_26 : decode cX8_plainLaw 26 = .ok (.iconst 3, 1) := by decide +kernel
theorem dX8_plainLaw_27 : decode cX8_plainLaw 27 = .ok (.putfield 369, 3) := by decide +kernel
theorem dX8_plainLaw_30 : decode cX8_plainLaw 30 = .ok (.aload_n 0, 1) := by decide +kernel
theorem dX8_plainLaw_31 : decode cX8_plainLaw 31 = .ok (.getfield 60, 3) := by decide +kernel
theorem dX8_plainLaw_34 : decode cX8_plainLaw 34 = .ok (.iconst 0, 1) := by decide +kernel
theorem dX8_plainLaw_35 : decode cX8_plainLaw 35 = .ok (.iconst 1, 1) := by decide +kernel
theorem dX8_plainLaw_36 : decode cX8_plainLaw 36 = .ok (.iastore, 1) := by decide +kernel
theorem dX8_plainLaw_37 : decode cX8_plainLaw 37 = .ok (.aload_n 0, 1) := by decide +kernel
theorem dX8_plainLaw_38 : decode cX8_plainLaw 38 = .ok (.getfield 60, 3) := by decide +kernel
theorem dX8_plainLaw_41 : decode cX8_plainLaw 41 = .ok (.iconst 1, 1) := by decide +kernel
theorem dX8_plainLaw_42 : decode cX8_plainLaw 42 = .ok (.iconst 0, 1) := by decide +kernel
theorem dX8_plainLaw_43 : decode cX8_plainLaw 43 = .ok (.iastore, 1) := by decide +kernel
theorem dX8_plainLaw_44 : decode cX8_plainLaw 44 = .ok (.aload_n 0, 1) := by decide +kernel
theorem dX8_plainLaw_45 : decode cX8_plainLaw 45 = .ok (.getfield 63, 3) := by decide +kernel
theorem dX8_plainLaw_48 : decode cX8_plainLaw 48 = .ok (.iconst 1, 1) := by decide +kernel
theorem dX8_plainLaw_49 : decode cX8_plainLaw 49 = .ok (.iconst 0, 1) := by decide +kernel
theorem dX8_plainLaw_50 : decode cX8_plainLaw 50 = .ok (.iastore, 1) := by decide +kernel
theorem dX8_plainLaw_51 : decode cX8_plainLaw 51 = .ok (.aload_n 0, 1) := by decide +kernel
theorem dX8_plainLaw_52 : decode cX8_plainLaw 52 = .ok (.getfield 60, 3) := by decide +kernel
theorem dX8_plainLaw_55 : decode cX8_plainLaw 55 = .ok (.iconst 2, 1) := by decide +kernel
theorem dX8_plainLaw_56 : decode cX8_plainLaw 56 = .ok (.bipush 25, 2) := by decide +kernel
theorem dX8_plainLaw_58 : decode cX8_plainLaw 58 = .ok (.iastore, 1) := by decide +kernel
theorem dX8_plainLaw_59 : decode cX8_plainLaw 59 = .ok (.return_, 1) := by decide +kernel
theorem dX8_ring_0 : decode cX8_ring 0 = .ok (.aload_n 0, 1) := by decide +kernel
theorem dX8_ring_1 : decode cX8_ring 1 = .ok (.aload_n 0, 1) := by decide +kernel
theorem dX8_ring_2 : decode cX8_ring 2 = .ok (.getfield 160, 3) := by decide +kernel
theorem dX8_ring_5 : decode cX8_ring 5 = .ok (.putfield 170, 3) := by decide +kernel
theorem dX8_ring_8 : decode cX8_ring 8 = .ok (.aload_n 0, 1) := by decide +kernel
theorem dX8_ring_9 : decode cX8_ring 9 = .ok (.iconst 0, 1) := by decide +kernel
theorem dX8_ring_10 : decode cX8_ring 10 = .ok (.putfield 160, 3) := by decide +kernel
theorem dX8_ring_13 : decode cX8_ring 13 = .ok (.aload_n 0, 1) := by decide +kernel
theorem dX8_ring_14 : decode cX8_ring 14 = .ok (.iconst 0, 1) := by decide +kernel
theorem dX8_ring_15 : decode cX8_ring 15 = .ok (.putfield 167, 3) := by decide +kernel
theorem dX8_ring_18 : decode cX8_ring 18 = .ok (.aload_n 0, 1) := by decide +kernel
theorem dX8_ring_19 : decode cX8_ring 19 = .ok (.iconst 0, 1) := by decide +kernel
theorem dX8_ring_20 : decode cX8_ring 20 = .ok (.putfield 200, 3) := by decide +kernel
theorem dX8_ring_23 : decode cX8_ring 23 = .ok (.aload_n 0, 1) := by decide +kernel
theorem dX8_ring_24 : decode cX8_ring 24 = .ok (.iconst (-1), 1) := by decide +kernel
theorem dX8_ring_25 : decode cX8_ring 25 = .ok (.putfield 13, 3) := by decide +kernel
end
section
theorem dX8_ring_28 : decode cX8_ring 28 = .ok (.aload_n 0, 1) := by decide +kernel
theorem dX8_ring_29 : decode cX8_ring 29 = .ok (.bipush 24, 2) := by decide +kernel
theorem dX8_ring_31 : decode cX8_ring 31 = .ok (.putfield 316, 3) := by decide +kernel
theorem dX8_ring_34 : decode cX8_ring 34 = .ok (.aload_n 0, 1) := by decide +kernel
theorem dX8_ring_35 : decode cX8_ring 35 = .ok (.iconst 0, 1) := by decide +kernel
theorem dX8_ring_36 : decode cX8_ring 36 = .ok (.putfield 322, 3) := by decide +kernel
theorem dX8_ring_39 : decode cX8_ring 39 = .ok (.aload_n 0, 1) := by decide +kernel
theorem dX8_ring_40 : decode cX8_ring 40 = .ok (.iconst 0, 1) := by decide +kernel
theorem dX8_ring_41 : decode cX8_ring 41 = .ok (.putfield 260, 3) := by decide +kernel
theorem dX8_ring_44 : decode cX8_ring 44 = .ok (.aload_n 0, 1) := by decide +kernel
theorem dX8_ring_45 : decode cX8_ring 45 = .ok (.iconst 0, 1) := by decide +kernel
theorem dX8_ring_46 : decode cX8_ring 46 = .ok (.putfield 319, 3) := by decide +kernel
theorem dX8_ring_49 : decode cX8_ring 49 = .ok (.aload_n 0, 1) := by decide +kernel
theorem dX8_ring_50 : decode cX8_ring 50 = .ok (.iconst 0, 1) := by decide +kernel
theorem dX8_ring_51 : decode cX8_ring 51 = .ok (.putfield 333, 3) := by decide +kernel
theorem dX8_ring_54 : decode cX8_ring 54 = .ok (.aload_n 0, 1) := by decide +kernel
theorem dX8_ring_55 : decode cX8_ring 55 = .ok (.iconst 0, 1) := by decide +kernel
theorem dX8_ring_56 : decode cX8_ring 56 = .ok (.putfield 280, 3) := by decide +kernel
theorem dX8_ring_59 : decode cX8_ring 59 = .ok (.iconst 0, 1) := by decide +kernel
theorem dX8_ring_60 : decode cX8_ring 60 = .ok (.istore_n 1, 1) := by decide +kernel
theorem dX8_ring_61 : decode cX8_ring 61 = .ok (.iload_n 1, 1) := by decide +kernel
theorem dX8_ring_62 : decode cX8_ring 62 = .ok (.bipush 40, 2) := by decide +kernel
theorem dX8_ring_64 : decode cX8_ring 64 = .ok (.if_icmp .ge 30, 3) := by decide +kernel
theorem dX8_ring_67 : decode cX8_ring 67 = .ok (.aload_n 0, 1) := by decide +kernel
theorem dX8_ring_68 : decode cX8_ring 68 = .ok (.getfield 17, 3) := by decide +kernel
theorem dX8_ring_71 : decode cX8_ring 71 = .ok (.iload_n 1, 1) := by decide +kernel
theorem dX8_ring_72 : decode cX8_ring 72 = .ok (.iconst 0, 1) := by decide +kernel
theorem dX8_ring_73 : decode cX8_ring 73 = .ok (.bastore, 1) := by decide +kernel
theorem dX8_ring_74 : decode cX8_ring 74 = .ok (.aload_n 0, 1) := by decide +kernel
theorem dX8_ring_75 : decode cX8_ring 75 = .ok (.getfield 21, 3) := by decide +kernel
theorem dX8_ring_78 : decode cX8_ring 78 = .ok (.iload_n 1, 1) := by decide +kernel
theorem dX8_ring_79 : decode cX8_ring 79 = .ok (.iconst 0, 1) := by decide +kernel
theorem dX8_ring_80 : decode cX8_ring 80 = .ok (.bastore, 1) := by decide +kernel
theorem dX8_ring_81 : decode cX8_ring 81 = .ok (.aload_n 0, 1) := by decide +kernel
theorem dX8_ring_82 : decode cX8_ring 82 = .ok (.getfield 24, 3) := by decide +kernel
theorem dX8_ring_85 : decode cX8_ring 85 = .ok (.iload_n 1, 1) := by decide +kernel
theorem dX8_ring_86 : decode cX8_ring 86 = .ok (.iconst 0, 1) := by decide +kernel
theorem dX8_ring_87 : decode cX8_ring 87 = .ok (.bastore, 1) := by decide +kernel
theorem dX8_ring_88 : decode cX8_ring 88 = .ok (.iinc 1 1, 3) := by decide +kernel
theorem dX8_ring_91 : decode cX8_ring 91 = .ok (.goto (-30), 3) := by decide +kernel
theorem dX8_ring_94 : decode cX8_ring 94 = .ok (.aload_n 0, 1) := by decide +kernel
theorem dX8_ring_95 : decode cX8_ring 95 = .ok (.invokevirtual 210, 3) := by decide +kernel
theorem dX8_ring_98 : decode cX8_ring 98 = .ok (.aload_n 0, 1) := by decide +kernel
theorem dX8_ring_99 : decode cX8_ring 99 = .ok (.getfield 200, 3) := by decide +kernel
theorem dX8_ring_102 : decode cX8_ring 102 = .ok (.ifCond .ne 17, 3) := by decide +kernel
theorem dX8_ring_105 : decode cX8_ring 105 = .ok (.aload_n 0, 1) := by decide +kernel
theorem dX8_ring_106 : decode cX8_ring 106 = .ok (.getfield 187, 3) := by decide +kernel
theorem dX8_ring_109 : decode cX8_ring 109 = .ok (.ifCond .eq 10, 3) := by decide +kernel
theorem dX8_ring_112 : decode cX8_ring 112 = .ok (.aload_n 0, 1) := by decide +kernel
theorem dX8_ring_113 : decode cX8_ring 113 = .ok (.invokevirtual 372, 3) := by decide +kernel
theorem dX8_ring_116 : decode cX8_ring 116 = .ok (.goto (-18), 3) := by decide +kernel
theorem dX8_ring_119 : decode cX8_ring 119 = .ok (.aload_n 0, 1) := by decide +kernel
theorem dX8_ring_120 : decode cX8_ring 120 = .ok (.getfield 200, 3) := by decide +kernel
theorem dX8_ring_123 : decode cX8_ring 123 = .ok (.ifCond .le 5, 3) := by decide +kernel
theorem dX8_ring_126 : decode cX8_ring 126 = .ok (.iconst (-1), 1) := by decide +kernel
theorem dX8_ring_127 : decode cX8_ring 127 = .ok (.ireturn, 1) := by decide +kernel
theorem dX8_ring_128 : decode cX8_ring 128 = .ok (.iconst 0, 1) := by decide +kernel
theorem dX8_ring_129 : decode cX8_ring 129 = .ok (.istore_n 1, 1) := by decide +kernel
theorem dX8_ring_130 : decode cX8_ring 130 = .ok (.iload_n 1, 1) := by decide +kernel
theorem dX8_ring_131 : decode cX8_ring 131 = .ok (.bipush 40, 2) := by decide +kernel
theorem dX8_ring_133 : decode cX8_ring 133 = .ok (.if_icmp .ge 45, 3) := by decide +kernel
theorem dX8_ring_136 : decode cX8_ring 136 = .ok (.aload_n 0, 1) := by decide +kernel
theorem dX8_ring_137 : decode cX8_ring 137 = .ok (.getfield 27, 3) := by decide +kernel
theorem dX8_ring_140 : decode cX8_ring 140 = .ok (.iload_n 1, 1) := by decide +kernel
theorem dX8_ring_141 : decode cX8_ring 141 = .ok (.aload_n 0, 1) := by decide +kernel
theorem dX8_ring_142 : decode cX8_ring 142 = .ok (.getfield 17, 3) := by decide +kernel
theorem dX8_ring_145 : decode cX8_ring 145 = .ok (.iload_n 1, 1) := by decide +kernel
theorem dX8_ring_146 : decode cX8_ring 146 = .ok (.baload, 1) := by decide +kernel
theorem dX8_ring_147 : decode cX8_ring 147 = .ok (.bastore, 1) := by decide +kernel
theorem dX8_ring_148 : decode cX8_ring 148 = .ok (.aload_n 0, 1) := by decide +kernel
theorem dX8_ring_149 : decode cX8_ring 149 = .ok (.getfield 30, 3) := by decide +kernel
theorem dX8_ring_152 : decode cX8_ring 152 = .ok (.iload_n 1, 1) := by decide +kernel
theorem dX8_ring_153 : decode cX8_ring 153 = .ok (.aload_n 0, 1) := by decide +kernel
theorem dX8_ring_154 : decode cX8_ring 154 = .ok (.getfield 21, 3) := by decide +kernel
theorem dX8_ring_157 : decode cX8_ring 157 = .ok (.iload_n 1, 1) := by decide +kernel
theorem dX8_ring_158 : decode cX8_ring 158 = .ok (.baload, 1) := by decide +kernel
theorem dX8_ring_159 : decode cX8_ring 159 = .ok (.bastore, 1) := by decide +kernel
theorem dX8_ring_160 : decode cX8_ring 160 = .ok (.aload_n 0, 1) := by decide +kernel
theorem dX8_ring_161 : decode cX8_ring 161 = .ok (.getfield 33, 3) := by decide +kernel
theorem dX8_ring_164 : decode cX8_ring 164 = .ok (.iload_n 1, 1) := by decide +kernel
theorem dX8_ring_165 : decode cX8_ring 165 = .ok (.aload_n 0, 1) := by decide +kernel
theorem dX8_ring_166 : decode cX8_ring 166 = .ok (.getfield 24, 3) := by decide +kernel
theorem dX8_ring_169 : decode cX8_ring 169 = .ok (.iload_n 1, 1) := by decide +kernel
theorem dX8_ring_170 : decode cX8_ring 170 = .ok (.baload, 1) := by decide +kernel
theorem dX8_ring_171 : decode cX8_ring 171 = .ok (.bastore, 1) := by decide +kernel
theorem dX8_ring_172 : decode cX8_ring 172 = .ok (.iinc 1 1, 3) := by decide +kernel
theorem dX8_ring_175 : decode cX8_ring 175 = .ok (.goto (-45), 3) := by decide +kernel
theorem dX8_ring_178 : decode cX8_ring 178 = .ok (.iconst 0, 1) := by decide +kernel
theorem dX8_ring_179 : decode cX8_ring 179 = .ok (.istore_n 1, 1) := by decide +kernel
theorem dX8_ring_180 : decode cX8_ring 180 = .ok (.iload_n 1, 1) := by decide +kernel
theorem dX8_ring_181 : decode cX8_ring 181 = .ok (.bipush 6, 2) := by decide +kernel
theorem dX8_ring_183 : decode cX8_ring 183 = .ok (.if_icmp .ge 45, 3) := by decide +kernel
theorem dX8_ring_186 : decode cX8_ring 186 = .ok (.aload_n 0, 1) := by decide +kernel
theorem dX8_ring_187 : decode cX8_ring 187 = .ok (.getfield 45, 3) := by decide +kernel
theorem dX8_ring_190 : decode cX8_ring 190 = .ok (.iload_n 1, 1) := by decide +kernel
theorem dX8_ring_191 : decode cX8_ring 191 = .ok (.aload_n 0, 1) := by decide +kernel
theorem dX8_ring_192 : decode cX8_ring 192 = .ok (.getfield 36, 3) := by decide +kernel
theorem dX8_ring_195 : decode cX8_ring 195 = .ok (.iload_n 1, 1) := by decide +kernel
theorem dX8_ring_196 : decode cX8_ring 196 = .ok (.iaload, 1) := by decide +kernel
theorem dX8_ring_197 : decode cX8_ring 197 = .ok (.iastore, 1) := by decide +kernel
theorem dX8_ring_198 : decode cX8_ring 198 = .ok (.aload_n 0, 1) := by decide +kernel
theorem dX8_ring_199 : decode cX8_ring 199 = .ok (.getfield 48, 3) := by decide +kernel
theorem dX8_ring_202 : decode cX8_ring 202 = .ok (.iload_n 1, 1) := by decide +kernel
theorem dX8_ring_203 : decode cX8_ring 203 = .ok (.aload_n 0, 1) := by decide +kernel
theorem dX8_ring_204 : decode cX8_ring 204 = .ok (.getfield 39, 3) := by decide +kernel
theorem dX8_ring_207 : decode cX8_ring 207 = .ok (.iload_n 1, 1) := by decide +kernel
theorem dX8_ring_208 : decode cX8_ring 208 = .ok (.iaload, 1) := by decide +kernel
theorem dX8_ring_209 : decode cX8_ring 209 = .ok (.iastore, 1) := by decide +kernel
theorem dX8_ring_210 : decode cX8_ring 210 = .ok (.aload_n 0, 1) := by decide +kernel
theorem dX8_ring_211 : decode cX8_ring 211 = .ok (.getfield 51, 3) := by decide +kernel
theorem dX8_ring_214 : decode cX8_ring 214 = .ok (.iload_n 1, 1) := by decide +kernel
theorem dX8_ring_215 : decode cX8_ring 215 = .ok (.aload_n 0, 1) := by decide +kernel
theorem dX8_ring_216 : decode cX8_ring 216 = .ok (.getfield 42, 3) := by decide +kernel
theorem dX8_ring_219 : decode cX8_ring 219 = .ok (.iload_n 1, 1) := by decide +kernel
theorem dX8_ring_220 : decode cX8_ring 220 = .ok (.iaload, 1) := by decide +kernel
theorem dX8_ring_221 : decode cX8_ring 221 = .ok (.iastore, 1) := by decide +kernel
theorem dX8_ring_222 : decode cX8_ring 222 = .ok (.iinc 1 1, 3) := by decide +kernel
theorem dX8_ring_225 : decode cX8_ring 225 = .ok (.goto (-45), 3) := by decide +kernel
theorem dX8_ring_228 : decode cX8_ring 228 = .ok (.aload_n 0, 1) := by decide +kernel
theorem dX8_ring_229 : decode cX8_ring 229 = .ok (.aload_n 0, 1) := by decide +kernel
theorem dX8_ring_230 : decode cX8_ring 230 = .ok (.getfield 316, 3) := by decide +kernel
theorem dX8_ring_233 : decode cX8_ring 233 = .ok (.putfield 151, 3) := by decide +kernel
theorem dX8_ring_236 : decode cX8_ring 236 = .ok (.aload_n 0, 1) := by decide +kernel
theorem dX8_ring_237 : decode cX8_ring 237 = .ok (.aload_n 0, 1) := by decide +kernel
theorem dX8_ring_238 : decode cX8_ring 238 = .ok (.getfield 322, 3) := by decide +kernel
theorem dX8_ring_241 : decode cX8_ring 241 = .ok (.putfield 375, 3) := by decide +kernel
theorem dX8_ring_244 : decode cX8_ring 244 = .ok (.aload_n 0, 1) := by decide +kernel
theorem dX8_ring_245 : decode cX8_ring 245 = .ok (.invokevirtual 154, 3) := by decide +kernel
theorem dX8_ring_248 : decode cX8_ring 248 = .ok (.aload_n 0, 1) := by decide +kernel
theorem dX8_ring_249 : decode cX8_ring 249 = .ok (.getfield 280, 3) := by decide +kernel
theorem dX8_ring_252 : decode cX8_ring 252 = .ok (.ifCond .eq 91, 3) := by decide +kernel
theorem dX8_ring_255 : decode cX8_ring 255 = .ok (.aload_n 0, 1) := by decide +kernel
theorem dX8_ring_256 : decode cX8_ring 256 = .ok (.aload_n 0, 1) := by decide +kernel
theorem dX8_ring_257 : decode cX8_ring 257 = .ok (.getfield 290, 3) := by decide +kernel
theorem dX8_ring_260 : decode cX8_ring 260 = .ok (.putfield 354, 3) := by decide +kernel
theorem dX8_ring_263 : decode cX8_ring 263 = .ok (.aload_n 0, 1) := by decide +kernel
theorem dX8_ring_264 : decode cX8_ring 264 = .ok (.aload_n 0, 1) := by decide +kernel
theorem dX8_ring_265 : decode cX8_ring 265 = .ok (.getfield 295, 3) := by decide +kernel
theorem dX8_ring_268 : decode cX8_ring 268 = .ok (.putfield 357, 3) := by decide +kernel
theorem dX8_ring_271 : decode cX8_ring 271 = .ok (.aload_n 0, 1) := by decide +kernel
theorem dX8_ring_272 : decode cX8_ring 272 = .ok (.aload_n 0, 1) := by decide +kernel
theorem dX8_ring_273 : decode cX8_ring 273 = .ok (.getfield 300, 3) := by decide +kernel
theorem dX8_ring_276 : decode cX8_ring 276 = .ok (.putfield 360, 3) := by decide +kernel
theorem dX8_ring_279 : decode cX8_ring 279 = .ok (.aload_n 0, 1) := by decide +kernel
theorem dX8_ring_280 : decode cX8_ring 280 = .ok (.aload_n 0, 1) := by decide +kernel
theorem dX8_ring_281 : decode cX8_ring 281 = .ok (.getfield 305, 3) := by decide +kernel
theorem dX8_ring_284 : decode cX8_ring 284 = .ok (.putfield 363, 3) := by decide +kernel
theorem dX8_ring_287 : decode cX8_ring 287 = .ok (.aload_n 0, 1) := by decide +kernel
theorem dX8_ring_288 : decode cX8_ring 288 = .ok (.aload_n 0, 1) := by decide +kernel
theorem dX8_ring_289 : decode cX8_ring 289 = .ok (.getfield 260, 3) := by decide +kernel
theorem dX8_ring_292 : decode cX8_ring 292 = .ok (.putfield 366, 3) := by decide +kernel
theorem dX8_ring_295 : decode cX8_ring 295 = .ok (.aload_n 0, 1) := by decide +kernel
theorem dX8_ring_296 : decode cX8_ring 296 = .ok (.aload_n 0, 1) := by decide +kernel
theorem dX8_ring_297 : decode cX8_ring 297 = .ok (.getfield 221, 3) := by decide +kernel
theorem dX8_ring_300 : decode cX8_ring 300 = .ok (.putfield 369, 3) := by decide +kernel
theorem dX8_ring_303 : decode cX8_ring 303 = .ok (.iconst 0, 1) := by decide +kernel
theorem dX8_ring_304 : decode cX8_ring 304 = .ok (.istore_n 1, 1) := by decide +kernel
theorem dX8_ring_305 : decode cX8_ring 305 = .ok (.iload_n 1, 1) := by decide +kernel
theorem dX8_ring_306 : decode cX8_ring 306 = .ok (.aload_n 0, 1) := by decide +kernel
theorem dX8_ring_307 : decode cX8_ring 307 = .ok (.getfield 369, 3) := by decide +kernel
theorem dX8_ring_310 : decode cX8_ring 310 = .ok (.if_icmp .ge 33, 3) := by decide +kernel
theorem dX8_ring_313 : decode cX8_ring 313 = .ok (.aload_n 0, 1) := by decide +kernel
theorem dX8_ring_314 : decode cX8_ring 314 = .ok (.getfield 60, 3) := by decide +kernel
theorem dX8_ring_317 : decode cX8_ring 317 = .ok (.iload_n 1, 1) := by decide +kernel
theorem dX8_ring_318 : decode cX8_ring 318 = .ok (.aload_n 0, 1) := by decide +kernel
theorem dX8_ring_319 : decode cX8_ring 319 = .ok (.getfield 54, 3) := by decide +kernel
theorem dX8_ring_322 : decode cX8_ring 322 = .ok (.iload_n 1, 1) := by decide +kernel
theorem dX8_ring_323 : decode cX8_ring 323 = .ok (.iaload, 1) := by decide +kernel
theorem dX8_ring_324 : decode cX8_ring 324 = .ok (.iastore, 1) := by decide +kernel
theorem dX8_ring_325 : decode cX8_ring 325 = .ok (.aload_n 0, 1) := by decide +kernel
theorem dX8_ring_326 : decode cX8_ring 326 = .ok (.getfield 63, 3) := by decide +kernel
theorem dX8_ring_329 : decode cX8_ring 329 = .ok (.iload_n 1, 1) := by decide +kernel
theorem dX8_ring_330 : decode cX8_ring 330 = .ok (.aload_n 0, 1) := by decide +kernel
theorem dX8_ring_331 : decode cX8_ring 331 = .ok (.getfield 57, 3) := by decide +kernel
theorem dX8_ring_334 : decode cX8_ring 334 = .ok (.iload_n 1, 1) := by decide +kernel
theorem dX8_ring_335 : decode cX8_ring 335 = .ok (.iaload, 1) := by decide +kernel
theorem dX8_ring_336 : decode cX8_ring 336 = .ok (.iastore, 1) := by decide +kernel
theorem dX8_ring_337 : decode cX8_ring 337 = .ok (.iinc 1 1, 3) := by decide +kernel
theorem dX8_ring_340 : decode cX8_ring 340 = .ok (.goto (-35), 3) := by decide +kernel
theorem dX8_ring_343 : decode cX8_ring 343 = .ok (.aload_n 0, 1) := by decide +kernel
theorem dX8_ring_344 : decode cX8_ring 344 = .ok (.invokevirtual 157, 3) := by decide +kernel
theorem dX8_ring_347 : decode cX8_ring 347 = .ok (.aload_n 0, 1) := by decide +kernel
theorem dX8_ring_348 : decode cX8_ring 348 = .ok (.iconst 0, 1) := by decide +kernel
theorem dX8_ring_349 : decode cX8_ring 349 = .ok (.putfield 378, 3) := by decide +kernel
theorem dX8_ring_352 : decode cX8_ring 352 = .ok (.iconst 0, 1) := by decide +kernel
theorem dX8_ring_353 : decode cX8_ring 353 = .ok (.istore_n 1, 1) := by decide +kernel
theorem dX8_ring_354 : decode cX8_ring 354 = .ok (.iload_n 1, 1) := by decide +kernel
theorem dX8_ring_355 : decode cX8_ring 355 = .ok (.iconst 3, 1) := by decide +kernel
theorem dX8_ring_356 : decode cX8_ring 356 = .ok (.if_icmp .ge 16, 3) := by decide +kernel
theorem dX8_ring_359 : decode cX8_ring 359 = .ok (.aload_n 0, 1) := by decide +kernel
theorem dX8_ring_360 : decode cX8_ring 360 = .ok (.getfield 130, 3) := by decide +kernel
theorem dX8_ring_363 : decode cX8_ring 363 = .ok (.iload_n 1, 1) := by decide +kernel
theorem dX8_ring_364 : decode cX8_ring 364 = .ok (.iconst 0, 1) := by decide +kernel
theorem dX8_ring_365 : decode cX8_ring 365 = .ok (.bastore, 1) := by decide +kernel
theorem dX8_ring_366 : decode cX8_ring 366 = .ok (.iinc 1 1, 3) := by decide +kernel
theorem dX8_ring_369 : decode cX8_ring 369 = .ok (.goto (-15), 3) := by decide +kernel
theorem dX8_ring_372 : decode cX8_ring 372 = .ok (.aload_n 0, 1) := by decide +kernel
theorem dX8_ring_373 : decode cX8_ring 373 = .ok (.getfield 151, 3) := by decide +kernel
theorem dX8_ring_376 : decode cX8_ring 376 = .ok (.ireturn, 1) := by decide +kernel
theorem dX8_fault_0 : decode cX8_fault 0 = .ok (.iload_n 1, 1) := by decide +kernel
theorem dX8_fault_1 : decode cX8_fault 1 = .ok (.ifCond .ne 10, 3) := by decide +kernel
theorem dX8_fault_4 : decode cX8_fault 4 = .ok (.aload_n 0, 1) := by decide +kernel
theorem dX8_fault_5 : decode cX8_fault 5 = .ok (.getfield 200, 3) := by decide +kernel
theorem dX8_fault_8 : decode cX8_fault 8 = .ok (.goto 16, 3) := by decide +kernel
theorem dX8_fault_11 : decode cX8_fault 11 = .ok (.iload_n 1, 1) := by decide +kernel
theorem dX8_fault_12 : decode cX8_fault 12 = .ok (.iconst 1, 1) := by decide +kernel
theorem dX8_fault_13 : decode cX8_fault 13 = .ok (.if_icmp .ne 10, 3) := by decide +kernel
theorem dX8_fault_16 : decode cX8_fault 16 = .ok (.aload_n 0, 1) := by decide +kernel
theorem dX8_fault_17 : decode cX8_fault 17 = .ok (.getfield 13, 3) := by decide +kernel
theorem dX8_fault_20 : decode cX8_fault 20 = .ok (.goto 4, 3) := by decide +kernel
theorem dX8_fault_23 : decode cX8_fault 23 = .ok (.iconst (-1), 1) := by decide +kernel
theorem dX8_fault_24 : decode cX8_fault 24 = .ok (.ireturn, 1) := by decide +kernel
theorem dX8_freshen_0 : decode cX8_freshen 0 = .ok (.iconst 0, 1) := by decide +kernel
theorem dX8_freshen_1 : decode cX8_freshen 1 = .ok (.istore_n 1, 1) := by decide +kernel
theorem dX8_freshen_2 : decode cX8_freshen 2 = .ok (.iload_n 1, 1) := by decide +kernel
theorem dX8_freshen_3 : decode cX8_freshen 3 = .ok (.bipush 40, 2) := by decide +kernel
theorem dX8_freshen_5 : decode cX8_freshen 5 = .ok (.if_icmp .ge 37, 3) := by decide +kernel
theorem dX8_freshen_8 : decode cX8_freshen 8 = .ok (.aload_n 0, 1) := by decide +kernel
theorem dX8_freshen_9 : decode cX8_freshen 9 = .ok (.getfield 72, 3) := by decide +kernel
theorem dX8_freshen_12 : decode cX8_freshen 12 = .ok (.iload_n 1, 1) := by decide +kernel
theorem dX8_freshen_13 : decode cX8_freshen 13 = .ok (.aload_n 0, 1) := by decide +kernel
theorem dX8_freshen_14 : decode cX8_freshen 14 = .ok (.getfield 30, 3) := by decide +kernel
theorem dX8_freshen_17 : decode cX8_freshen 17 = .ok (.iload_n 1, 1) := by decide +kernel
theorem dX8_freshen_18 : decode cX8_freshen 18 = .ok (.baload, 1) := by decide +kernel
theorem dX8_freshen_19 : decode cX8_freshen 19 = .ok (.ifCond .eq 8, 3) := by decide +kernel
theorem dX8_freshen_22 : decode cX8_freshen 22 = .ok (.bipush 40, 2) := by decide +kernel
theorem dX8_freshen_24 : decode cX8_freshen 24 = .ok (.goto 4, 3) := by decide +kernel
theorem dX8_freshen_27 : decode cX8_freshen 27 = .ok (.iconst 0, 1) := by decide +kernel
theorem dX8_freshen_28 : decode cX8_freshen 28 = .ok (.iastore, 1) := by decide +kernel
theorem dX8_freshen_29 : decode cX8_freshen 29 = .ok (.aload_n 0, 1) := by decide +kernel
theorem dX8_freshen_30 : decode cX8_freshen 30 = .ok (.getfield 75, 3) := by decide +kernel
theorem dX8_freshen_33 : decode cX8_freshen 33 = .ok (.iload_n 1, 1) := by decide +kernel
theorem dX8_freshen_34 : decode cX8_freshen 34 = .ok (.iconst 0, 1) := by decide +kernel
theorem dX8_freshen_35 : decode cX8_freshen 35 = .ok (.iastore, 1) := by decide +kernel
theorem dX8_freshen_36 : decode cX8_freshen 36 = .ok (.iinc 1 1, 3) := by decide +kernel
theorem dX8_freshen_39 : decode cX8_freshen 39 = .ok (.goto (-37), 3) := by decide +kernel
theorem dX8_freshen_42 : decode cX8_freshen 42 = .ok (.iconst 0, 1) := by decide +kernel
theorem dX8_freshen_43 : decode cX8_freshen 43 = .ok (.istore_n 1, 1) := by decide +kernel
theorem dX8_freshen_44 : decode cX8_freshen 44 = .ok (.iload_n 1, 1) := by decide +kernel
theorem dX8_freshen_45 : decode cX8_freshen 45 = .ok (.iconst 3, 1) := by decide +kernel
theorem dX8_freshen_46 : decode cX8_freshen 46 = .ok (.if_icmp .ge 16, 3) := by decide +kernel
theorem dX8_freshen_49 : decode cX8_freshen 49 = .ok (.aload_n 0, 1) := by decide +kernel
theorem dX8_freshen_50 : decode cX8_freshen 50 = .ok (.getfield 87, 3) := by decide +kernel
theorem dX8_freshen_53 : decode cX8_freshen 53 = .ok (.iload_n 1, 1) := by decide +kernel
theorem dX8_freshen_54 : decode cX8_freshen 54 = .ok (.iconst 0, 1) := by decide +kernel
theorem dX8_freshen_55 : decode cX8_freshen 55 = .ok (.iastore, 1) := by decide +kernel
theorem dX8_freshen_56 : decode cX8_freshen 56 = .ok (.iinc 1 1, 3) := by decide +kernel
theorem dX8_freshen_59 : decode cX8_freshen 59 = .ok (.goto (-15), 3) := by decide +kernel
theorem dX8_freshen_62 : decode cX8_freshen 62 = .ok (.aload_n 0, 1) := by decide +kernel
theorem dX8_freshen_63 : decode cX8_freshen 63 = .ok (.iconst 0, 1) := by decide +kernel
theorem dX8_freshen_64 : decode cX8_freshen 64 = .ok (.putfield 381, 3) := by decide +kernel
theorem dX8_freshen_67 : decode cX8_freshen 67 = .ok (.aload_n 0, 1) := by decide +kernel
theorem dX8_freshen_68 : decode cX8_freshen 68 = .ok (.iconst 0, 1) := by decide +kernel
theorem dX8_freshen_69 : decode cX8_freshen 69 = .ok (.putfield 384, 3) := by decide +kernel
theorem dX8_freshen_72 : decode cX8_freshen 72 = .ok (.return_, 1) := by decide +kernel
theorem dX8_put_0 : decode cX8_put 0 = .ok (.iconst 0, 1) := by decide +kernel
theorem dX8_put_1 : decode cX8_put 1 = .ok (.istore_n 1, 1) := by decide +kernel
theorem dX8_put_2 : decode cX8_put 2 = .ok (.iload_n 1, 1) := by decide +kernel
theorem dX8_put_3 : decode cX8_put 3 = .ok (.bipush 40, 2) := by decide +kernel
theorem dX8_put_5 : decode cX8_put 5 = .ok (.if_icmp .ge 33, 3) := by decide +kernel
theorem dX8_put_8 : decode cX8_put 8 = .ok (.aload_n 0, 1) := by decide +kernel
theorem dX8_put_9 : decode cX8_put 9 = .ok (.getfield 81, 3) := by decide +kernel
theorem dX8_put_12 : decode cX8_put 12 = .ok (.iload_n 1, 1) := by decide +kernel
theorem dX8_put_13 : decode cX8_put 13 = .ok (.aload_n 0, 1) := by decide +kernel
theorem dX8_put_14 : decode cX8_put 14 = .ok (.getfield 72, 3) := by decide +kernel
theorem dX8_put_17 : decode cX8_put 17 = .ok (.iload_n 1, 1) := by decide +kernel
theorem dX8_put_18 : decode cX8_put 18 = .ok (.iaload, 1) := by decide +kernel
theorem dX8_put_19 : decode cX8_put 19 = .ok (.iastore, 1) := by decide +kernel
theorem dX8_put_20 : decode cX8_put 20 = .ok (.aload_n 0, 1) := by decide +kernel
theorem dX8_put_21 : decode cX8_put 21 = .ok (.getfield 84, 3) := by decide +kernel
theorem dX8_put_24 : decode cX8_put 24 = .ok (.iload_n 1, 1) := by decide +kernel
theorem dX8_put_25 : decode cX8_put 25 = .ok (.aload_n 0, 1) := by decide +kernel
theorem dX8_put_26 : decode cX8_put 26 = .ok (.getfield 75, 3) := by decide +kernel
theorem dX8_put_29 : decode cX8_put 29 = .ok (.iload_n 1, 1) := by decide +kernel
theorem dX8_put_30 : decode cX8_put 30 = .ok (.iaload, 1) := by decide +kernel
theorem dX8_put_31 : decode cX8_put 31 = .ok (.iastore, 1) := by decide +kernel
theorem dX8_put_32 : decode cX8_put 32 = .ok (.iinc 1 1, 3) := by decide +kernel
theorem dX8_put_35 : decode cX8_put 35 = .ok (.goto (-33), 3) := by decide +kernel
theorem dX8_put_38 : decode cX8_put 38 = .ok (.iconst 0, 1) := by decide +kernel
theorem dX8_put_39 : decode cX8_put 39 = .ok (.istore_n 1, 1) := by decide +kernel
theorem dX8_put_40 : decode cX8_put 40 = .ok (.iload_n 1, 1) := by decide +kernel
theorem dX8_put_41 : decode cX8_put 41 = .ok (.iconst 3, 1) := by decide +kernel
theorem dX8_put_42 : decode cX8_put 42 = .ok (.if_icmp .ge 21, 3) := by decide +kernel
theorem dX8_put_45 : decode cX8_put 45 = .ok (.aload_n 0, 1) := by decide +kernel
theorem dX8_put_46 : decode cX8_put 46 = .ok (.getfield 90, 3) := by decide +kernel
theorem dX8_put_49 : decode cX8_put 49 = .ok (.iload_n 1, 1) := by decide +kernel
theorem dX8_put_50 : decode cX8_put 50 = .ok (.aload_n 0, 1) := by decide +kernel
theorem dX8_put_51 : decode cX8_put 51 = .ok (.getfield 87, 3) := by decide +kernel
theorem dX8_put_54 : decode cX8_put 54 = .ok (.iload_n 1, 1) := by decide +kernel
theorem dX8_put_55 : decode cX8_put 55 = .ok (.iaload, 1) := by decide +kernel
theorem dX8_put_56 : decode cX8_put 56 = .ok (.iastore, 1) := by decide +kernel
theorem dX8_put_57 : decode cX8_put 57 = .ok (.iinc 1 1, 3) := by decide +kernel
theorem dX8_put_60 : decode cX8_put 60 = .ok (.goto (-20), 3) := by decide +kernel
theorem dX8_put_63 : decode cX8_put 63 = .ok (.aload_n 0, 1) := by decide +kernel
theorem dX8_put_64 : decode cX8_put 64 = .ok (.aload_n 0, 1) := by decide +kernel
theorem dX8_put_65 : decode cX8_put 65 = .ok (.getfield 381, 3) := by decide +kernel
theorem dX8_put_68 : decode cX8_put 68 = .ok (.putfield 387, 3) := by decide +kernel
theorem dX8_put_71 : decode cX8_put 71 = .ok (.aload_n 0, 1) := by decide +kernel
theorem dX8_put_72 : decode cX8_put 72 = .ok (.aload_n 0, 1) := by decide +kernel
theorem dX8_put_73 : decode cX8_put 73 = .ok (.getfield 384, 3) := by decide +kernel
theorem dX8_put_76 : decode cX8_put 76 = .ok (.putfield 390, 3) := by decide +kernel
theorem dX8_put_79 : decode cX8_put 79 = .ok (.return_, 1) := by decide +kernel
theorem dX8_bring_0 : decode cX8_bring 0 = .ok (.iconst 0, 1) := by decide +kernel
theorem dX8_bring_1 : decode cX8_bring 1 = .ok (.istore_n 1, 1) := by decide +kernel
theorem dX8_bring_2 : decode cX8_bring 2 = .ok (.iload_n 1, 1) := by decide +kernel
theorem dX8_bring_3 : decode cX8_bring 3 = .ok (.bipush 40, 2) := by decide +kernel
theorem dX8_bring_5 : decode cX8_bring 5 = .ok (.if_icmp .ge 40, 3) := by decide +kernel
theorem dX8_bring_8 : decode cX8_bring 8 = .ok (.aload_n 0, 1) := by decide +kernel
theorem dX8_bring_9 : decode cX8_bring 9 = .ok (.getfield 72, 3) := by decide +kernel
theorem dX8_bring_12 : decode cX8_bring 12 = .ok (.iload_n 1, 1) := by decide +kernel
theorem dX8_bring_13 : decode cX8_bring 13 = .ok (.aload_n 0, 1) := by decide +kernel
theorem dX8_bring_14 : decode cX8_bring 14 = .ok (.getfield 81, 3) := by decide +kernel
theorem dX8_bring_17 : decode cX8_bring 17 = .ok (.iload_n 1, 1) := by decide +kernel
theorem dX8_bring_18 : decode cX8_bring 18 = .ok (.iaload, 1) := by decide +kernel
theorem dX8_bring_19 : decode cX8_bring 19 = .ok (.iastore, 1) := by decide +kernel
theorem dX8_bring_20 : decode cX8_bring 20 = .ok (.aload_n 0, 1) := by decide +kernel
theorem dX8_bring_21 : decode cX8_bring 21 = .ok (.getfield 75, 3) := by decide +kernel
theorem dX8_bring_24 : decode cX8_bring 24 = .ok (.iload_n 1, 1) := by decide +kernel
theorem dX8_bring_25 : decode cX8_bring 25 = .ok (.aload_n 0, 1) := by decide +kernel
theorem dX8_bring_26 : decode cX8_bring 26 = .ok (.getfield 84, 3) := by decide +kernel
theorem dX8_bring_29 : decode cX8_bring 29 = .ok (.iload_n 1, 1) := by decide +kernel
theorem dX8_bring_30 : decode cX8_bring 30 = .ok (.iaload, 1) := by decide +kernel
theorem dX8_bring_31 : decode cX8_bring 31 = .ok (.iastore, 1) := by decide +kernel
theorem dX8_bring_32 : decode cX8_bring 32 = .ok (.aload_n 0, 1) := by decide +kernel
theorem dX8_bring_33 : decode cX8_bring 33 = .ok (.getfield 93, 3) := by decide +kernel
theorem dX8_bring_36 : decode cX8_bring 36 = .ok (.iload_n 1, 1) := by decide +kernel
theorem dX8_bring_37 : decode cX8_bring 37 = .ok (.iconst 0, 1) := by decide +kernel
theorem dX8_bring_38 : decode cX8_bring 38 = .ok (.bastore, 1) := by decide +kernel
theorem dX8_bring_39 : decode cX8_bring 39 = .ok (.iinc 1 1, 3) := by decide +kernel
theorem dX8_bring_42 : decode cX8_bring 42 = .ok (.goto (-40), 3) := by decide +kernel
theorem dX8_bring_45 : decode cX8_bring 45 = .ok (.iconst 0, 1) := by decide +kernel
theorem dX8_bring_46 : decode cX8_bring 46 = .ok (.istore_n 1, 1) := by decide +kernel
theorem dX8_bring_47 : decode cX8_bring 47 = .ok (.iload_n 1, 1) := by decide +kernel
theorem dX8_bring_48 : decode cX8_bring 48 = .ok (.iconst 3, 1) := by decide +kernel
theorem dX8_bring_49 : decode cX8_bring 49 = .ok (.if_icmp .ge 21, 3) := by decide +kernel
theorem dX8_bring_52 : decode cX8_bring 52 = .ok (.aload_n 0, 1) := by decide +kernel
theorem dX8_bring_53 : decode cX8_bring 53 = .ok (.getfield 87, 3) := by decide +kernel
theorem dX8_bring_56 : decode cX8_bring 56 = .ok (.iload_n 1, 1) := by decide +kernel
theorem dX8_bring_57 : decode cX8_bring 57 = .ok (.aload_n 0, 1) := by decide +kernel
theorem dX8_bring_58 : decode cX8_bring 58 = .ok (.getfield 90, 3) := by decide +kernel
theorem dX8_bring_61 : decode cX8_bring 61 = .ok (.iload_n 1, 1) := by decide +kernel
theorem dX8_bring_62 : decode cX8_bring 62 = .ok (.iaload, 1) := by decide +kernel
theorem dX8_bring_63 : decode cX8_bring 63 = .ok (.iastore, 1) := by decide +kernel
theorem dX8_bring_64 : decode cX8_bring 64 = .ok (.iinc 1 1, 3) := by decide +kernel
theorem dX8_bring_67 : decode cX8_bring 67 = .ok (.goto (-20), 3) := by decide +kernel
theorem dX8_bring_70 : decode cX8_bring 70 = .ok (.aload_n 0, 1) := by decide +kernel
theorem dX8_bring_71 : decode cX8_bring 71 = .ok (.aload_n 0, 1) := by decide +kernel
theorem dX8_bring_72 : decode cX8_bring 72 = .ok (.getfield 387, 3) := by decide +kernel
theorem dX8_bring_75 : decode cX8_bring 75 = .ok (.putfield 381, 3) := by decide +kernel
theorem dX8_bring_78 : decode cX8_bring 78 = .ok (.aload_n 0, 1) := by decide +kernel
theorem dX8_bring_79 : decode cX8_bring 79 = .ok (.aload_n 0, 1) := by decide +kernel
theorem dX8_bring_80 : decode cX8_bring 80 = .ok (.getfield 390, 3) := by decide +kernel
theorem dX8_bring_83 : decode cX8_bring 83 = .ok (.putfield 384, 3) := by decide +kernel
theorem dX8_bring_86 : decode cX8_bring 86 = .ok (.return_, 1) := by decide +kernel
theorem dX8_isUp_0 : decode cX8_isUp 0 = .ok (.iload_n 0, 1) := by decide +kernel
theorem dX8_isUp_1 : decode cX8_isUp 1 = .ok (.iconst 1, 1) := by decide +kernel
theorem dX8_isUp_2 : decode cX8_isUp 2 = .ok (.if_icmp .lt 13, 3) := by decide +kernel
theorem dX8_isUp_5 : decode cX8_isUp 5 = .ok (.iload_n 0, 1) := by decide +kernel
theorem dX8_isUp_6 : decode cX8_isUp 6 = .ok (.bipush 9, 2) := by decide +kernel
theorem dX8_isUp_8 : decode cX8_isUp 8 = .ok (.if_icmp .gt 7, 3) := by decide +kernel
theorem dX8_isUp_11 : decode cX8_isUp 11 = .ok (.iconst 1, 1) := by decide +kernel
theorem dX8_isUp_12 : decode cX8_isUp 12 = .ok (.goto 4, 3) := by decide +kernel
theorem dX8_isUp_15 : decode cX8_isUp 15 = .ok (.iconst 0, 1) := by decide +kernel
theorem dX8_isUp_16 : decode cX8_isUp 16 = .ok (.ireturn, 1) := by decide +kernel
theorem dX8_ups_0 : decode cX8_ups 0 = .ok (.iconst 0, 1) := by decide +kernel
theorem dX8_ups_1 : decode cX8_ups 1 = .ok (.istore_n 1, 1) := by decide +kernel
theorem dX8_ups_2 : decode cX8_ups 2 = .ok (.iconst 0, 1) := by decide +kernel
theorem dX8_ups_3 : decode cX8_ups 3 = .ok (.istore_n 2, 1) := by decide +kernel
theorem dX8_ups_4 : decode cX8_ups 4 = .ok (.iload_n 2, 1) := by decide +kernel
theorem dX8_ups_5 : decode cX8_ups 5 = .ok (.aload_n 0, 1) := by decide +kernel
theorem dX8_ups_6 : decode cX8_ups 6 = .ok (.getfield 151, 3) := by decide +kernel
theorem dX8_ups_9 : decode cX8_ups 9 = .ok (.if_icmp .ge 29, 3) := by decide +kernel
theorem dX8_ups_12 : decode cX8_ups 12 = .ok (.iload_n 1, 1) := by decide +kernel
theorem dX8_ups_13 : decode cX8_ups 13 = .ok (.aload_n 0, 1) := by decide +kernel
theorem dX8_ups_14 : decode cX8_ups 14 = .ok (.getfield 72, 3) := by decide +kernel
theorem dX8_ups_17 : decode cX8_ups 17 = .ok (.iload_n 2, 1) := by decide +kernel
theorem dX8_ups_18 : decode cX8_ups 18 = .ok (.iaload, 1) := by decide +kernel
theorem dX8_ups_19 : decode cX8_ups 19 = .ok (.invokestatic 393, 3) := by decide +kernel
theorem dX8_ups_22 : decode cX8_ups 22 = .ok (.ifCond .eq 7, 3) := by decide +kernel
theorem dX8_ups_25 : decode cX8_ups 25 = .ok (.iconst 1, 1) := by decide +kernel
theorem dX8_ups_26 : decode cX8_ups 26 = .ok (.goto 4, 3) := by decide +kernel
theorem dX8_ups_29 : decode cX8_ups 29 = .ok (.iconst 0, 1) := by decide +kernel
theorem dX8_ups_30 : decode cX8_ups 30 = .ok (.iadd, 1) := by decide +kernel
theorem dX8_ups_31 : decode cX8_ups 31 = .ok (.istore_n 1, 1) := by decide +kernel
theorem dX8_ups_32 : decode cX8_ups 32 = .ok (.iinc 2 1, 3) := by decide +kernel
theorem dX8_ups_35 : decode cX8_ups 35 = .ok (.goto (-31), 3) := by decide +kernel
theorem dX8_ups_38 : decode cX8_ups 38 = .ok (.iload_n 1, 1) := by decide +kernel
theorem dX8_ups_39 : decode cX8_ups 39 = .ok (.ireturn, 1) := by decide +kernel
theorem dX8_wrap_0 : decode cX8_wrap 0 = .ok (.iload_n 1, 1) := by decide +kernel
theorem dX8_wrap_1 : decode cX8_wrap 1 = .ok (.aload_n 0, 1) := by decide +kernel
theorem dX8_wrap_2 : decode cX8_wrap 2 = .ok (.getfield 151, 3) := by decide +kernel
theorem dX8_wrap_5 : decode cX8_wrap 5 = .ok (.irem, 1) := by decide +kernel
theorem dX8_wrap_6 : decode cX8_wrap 6 = .ok (.istore_n 2, 1) := by decide +kernel
theorem dX8_wrap_7 : decode cX8_wrap 7 = .ok (.iload_n 2, 1) := by decide +kernel
theorem dX8_wrap_8 : decode cX8_wrap 8 = .ok (.ifCond .ge 12, 3) := by decide +kernel
theorem dX8_wrap_11 : decode cX8_wrap 11 = .ok (.iload_n 2, 1) := by decide +kernel
theorem dX8_wrap_12 : decode cX8_wrap 12 = .ok (.aload_n 0, 1) := by decide +kernel
theorem dX8_wrap_13 : decode cX8_wrap 13 = .ok (.getfield 151, 3) := by decide +kernel
theorem dX8_wrap_16 : decode cX8_wrap 16 = .ok (.iadd, 1) := by decide +kernel
theorem dX8_wrap_17 : decode cX8_wrap 17 = .ok (.goto 4, 3) := by decide +kernel
theorem dX8_wrap_20 : decode cX8_wrap 20 = .ok (.iload_n 2, 1) := by decide +kernel
theorem dX8_wrap_21 : decode cX8_wrap 21 = .ok (.ireturn, 1) := by decide +kernel
theorem dX8_seen_0 : decode cX8_seen 0 = .ok (.iload 4, 2) := by decide +kernel
theorem dX8_seen_2 : decode cX8_seen 2 = .ok (.aload_n 0, 1) := by decide +kernel
theorem dX8_seen_3 : decode cX8_seen 3 = .ok (.getfield 151, 3) := by decide +kernel
theorem dX8_seen_6 : decode cX8_seen 6 = .ok (.iconst 1, 1) := by decide +kernel
theorem dX8_seen_7 : decode cX8_seen 7 = .ok (.isub, 1) := by decide +kernel
theorem dX8_seen_8 : decode cX8_seen 8 = .ok (.iconst 2, 1) := by decide +kernel
theorem dX8_seen_9 : decode cX8_seen 9 = .ok (.idiv, 1) := by decide +kernel
theorem dX8_seen_10 : decode cX8_seen 10 = .ok (.if_icmp .ge 8, 3) := by decide +kernel
theorem dX8_seen_13 : decode cX8_seen 13 = .ok (.iload 4, 2) := by decide +kernel
theorem dX8_seen_15 : decode cX8_seen 15 = .ok (.goto 11, 3) := by decide +kernel
theorem dX8_seen_18 : decode cX8_seen 18 = .ok (.aload_n 0, 1) := by decide +kernel
theorem dX8_seen_19 : decode cX8_seen 19 = .ok (.getfield 151, 3) := by decide +kernel
theorem dX8_seen_22 : decode cX8_seen 22 = .ok (.iconst 1, 1) := by decide +kernel
theorem dX8_seen_23 : decode cX8_seen 23 = .ok (.isub, 1) := by decide +kernel
theorem dX8_seen_24 : decode cX8_seen 24 = .ok (.iconst 2, 1) := by decide +kernel
theorem dX8_seen_25 : decode cX8_seen 25 = .ok (.idiv, 1) := by decide +kernel
theorem dX8_seen_26 : decode cX8_seen 26 = .ok (.istore 5, 2) := by decide +kernel
theorem dX8_seen_28 : decode cX8_seen 28 = .ok (.iconst 0, 1) := by decide +kernel
theorem dX8_seen_29 : decode cX8_seen 29 = .ok (.istore 6, 2) := by decide +kernel
theorem dX8_seen_31 : decode cX8_seen 31 = .ok (.iconst 1, 1) := by decide +kernel
theorem dX8_seen_32 : decode cX8_seen 32 = .ok (.istore 7, 2) := by decide +kernel
theorem dX8_seen_34 : decode cX8_seen 34 = .ok (.iload 7, 2) := by decide +kernel
theorem dX8_seen_36 : decode cX8_seen 36 = .ok (.iload 5, 2) := by decide +kernel
theorem dX8_seen_38 : decode cX8_seen 38 = .ok (.if_icmp .gt 35, 3) := by decide +kernel
theorem dX8_seen_41 : decode cX8_seen 41 = .ok (.iload 6, 2) := by decide +kernel
theorem dX8_seen_43 : decode cX8_seen 43 = .ok (.aload_n 1, 1) := by decide +kernel
theorem dX8_seen_44 : decode cX8_seen 44 = .ok (.aload_n 0, 1) := by decide +kernel
theorem dX8_seen_45 : decode cX8_seen 45 = .ok (.iload_n 2, 1) := by decide +kernel
theorem dX8_seen_46 : decode cX8_seen 46 = .ok (.iload_n 3, 1) := by decide +kernel
theorem dX8_seen_47 : decode cX8_seen 47 = .ok (.iload 7, 2) := by decide +kernel
theorem dX8_seen_49 : decode cX8_seen 49 = .ok (.imul, 1) := by decide +kernel
theorem dX8_seen_50 : decode cX8_seen 50 = .ok (.iadd, 1) := by decide +kernel
theorem dX8_seen_51 : decode cX8_seen 51 = .ok (.invokevirtual 396, 3) := by decide +kernel
theorem dX8_seen_54 : decode cX8_seen 54 = .ok (.iaload, 1) := by decide +kernel
theorem dX8_seen_55 : decode cX8_seen 55 = .ok (.iconst 1, 1) := by decide +kernel
theorem dX8_seen_56 : decode cX8_seen 56 = .ok (.if_icmp .ne 7, 3) := by decide +kernel
theorem dX8_seen_59 : decode cX8_seen 59 = .ok (.iconst 1, 1) := by decide +kernel
theorem dX8_seen_60 : decode cX8_seen 60 = .ok (.goto 4, 3) := by decide +kernel
theorem dX8_seen_63 : decode cX8_seen 63 = .ok (.iconst 0, 1) := by decide +kernel
theorem dX8_seen_64 : decode cX8_seen 64 = .ok (.iadd, 1) := by decide +kernel
theorem dX8_seen_65 : decode cX8_seen 65 = .ok (.istore 6, 2) := by decide +kernel
theorem dX8_seen_67 : decode cX8_seen 67 = .ok (.iinc 7 1, 3) := by decide +kernel
theorem dX8_seen_70 : decode cX8_seen 70 = .ok (.goto (-36), 3) := by decide +kernel
theorem dX8_seen_73 : decode cX8_seen 73 = .ok (.iload 6, 2) := by decide +kernel
theorem dX8_seen_75 : decode cX8_seen 75 = .ok (.ireturn, 1) := by decide +kernel
theorem dX8_slackNow_0 : decode cX8_slackNow 0 = .ok (.iconst 0, 1) := by decide +kernel
theorem dX8_slackNow_1 : decode cX8_slackNow 1 = .ok (.istore_n 1, 1) := by decide +kernel
theorem dX8_slackNow_2 : decode cX8_slackNow 2 = .ok (.iload_n 1, 1) := by decide +kernel
theorem dX8_slackNow_3 : decode cX8_slackNow 3 = .ok (.aload_n 0, 1) := by decide +kernel
theorem dX8_slackNow_4 : decode cX8_slackNow 4 = .ok (.getfield 375, 3) := by decide +kernel
theorem dX8_slackNow_7 : decode cX8_slackNow 7 = .ok (.if_icmp .ge 46, 3) := by decide +kernel
theorem dX8_slackNow_10 : decode cX8_slackNow 10 = .ok (.aload_n 0, 1) := by decide +kernel
theorem dX8_slackNow_11 : decode cX8_slackNow 11 = .ok (.getfield 381, 3) := by decide +kernel
theorem dX8_slackNow_14 : decode cX8_slackNow 14 = .ok (.iconst 1, 1) := by decide +kernel
theorem dX8_slackNow_15 : decode cX8_slackNow 15 = .ok (.iadd, 1) := by decide +kernel
theorem dX8_slackNow_16 : decode cX8_slackNow 16 = .ok (.aload_n 0, 1) := by decide +kernel
theorem dX8_slackNow_17 : decode cX8_slackNow 17 = .ok (.getfield 45, 3) := by decide +kernel
theorem dX8_slackNow_20 : decode cX8_slackNow 20 = .ok (.iload_n 1, 1) := by decide +kernel
theorem dX8_slackNow_21 : decode cX8_slackNow 21 = .ok (.iaload, 1) := by decide +kernel
theorem dX8_slackNow_22 : decode cX8_slackNow 22 = .ok (.if_icmp .lt 25, 3) := by decide +kernel
theorem dX8_slackNow_25 : decode cX8_slackNow 25 = .ok (.aload_n 0, 1) := by decide +kernel
theorem dX8_slackNow_26 : decode cX8_slackNow 26 = .ok (.getfield 381, 3) := by decide +kernel
theorem dX8_slackNow_29 : decode cX8_slackNow 29 = .ok (.iconst 1, 1) := by decide +kernel
theorem dX8_slackNow_30 : decode cX8_slackNow 30 = .ok (.iadd, 1) := by decide +kernel
theorem dX8_slackNow_31 : decode cX8_slackNow 31 = .ok (.aload_n 0, 1) := by decide +kernel
theorem dX8_slackNow_32 : decode cX8_slackNow 32 = .ok (.getfield 48, 3) := by decide +kernel
theorem dX8_slackNow_35 : decode cX8_slackNow 35 = .ok (.iload_n 1, 1) := by decide +kernel
theorem dX8_slackNow_36 : decode cX8_slackNow 36 = .ok (.iaload, 1) := by decide +kernel
theorem dX8_slackNow_37 : decode cX8_slackNow 37 = .ok (.if_icmp .gt 10, 3) := by decide +kernel
theorem dX8_slackNow_40 : decode cX8_slackNow 40 = .ok (.aload_n 0, 1) := by decide +kernel
theorem dX8_slackNow_41 : decode cX8_slackNow 41 = .ok (.getfield 51, 3) := by decide +kernel
theorem dX8_slackNow_44 : decode cX8_slackNow 44 = .ok (.iload_n 1, 1) := by decide +kernel
theorem dX8_slackNow_45 : decode cX8_slackNow 45 = .ok (.iaload, 1) := by decide +kernel
theorem dX8_slackNow_46 : decode cX8_slackNow 46 = .ok (.ireturn, 1) := by decide +kernel
theorem dX8_slackNow_47 : decode cX8_slackNow 47 = .ok (.iinc 1 1, 3) := by decide +kernel
theorem dX8_slackNow_50 : decode cX8_slackNow 50 = .ok (.goto (-48), 3) := by decide +kernel
theorem dX8_slackNow_53 : decode cX8_slackNow 53 = .ok (.iconst 0, 1) := by decide +kernel
theorem dX8_slackNow_54 : decode cX8_slackNow 54 = .ok (.ireturn, 1) := by decide +kernel
theorem dX8_worked_0 : decode cX8_worked 0 = .ok (.iload_n 0, 1) := by decide +kernel
theorem dX8_worked_1 : decode cX8_worked 1 = .ok (.tableswitch 116 20 27 #[47, 61, 116, 75, 86, 97, 108, 112], 47) := by decide +kernel
theorem dX8_worked_48 : decode cX8_worked 48 = .ok (.iload_n 1, 1) := by decide +kernel
theorem dX8_worked_49 : decode cX8_worked 49 = .ok (.ifCond .ne 7, 3) := by decide +kernel
theorem dX8_worked_52 : decode cX8_worked 52 = .ok (.iload_n 2, 1) := by decide +kernel
theorem dX8_worked_53 : decode cX8_worked 53 = .ok (.ifCond .eq 7, 3) := by decide +kernel
theorem dX8_worked_56 : decode cX8_worked 56 = .ok (.iconst 1, 1) := by decide +kernel
theorem dX8_worked_57 : decode cX8_worked 57 = .ok (.goto 4, 3) := by decide +kernel
theorem dX8_worked_60 : decode cX8_worked 60 = .ok (.iconst 0, 1) := by decide +kernel
theorem dX8_worked_61 : decode cX8_worked 61 = .ok (.ireturn, 1) := by decide +kernel
theorem dX8_worked_62 : decode cX8_worked 62 = .ok (.iload_n 1, 1) := by decide +kernel
theorem dX8_worked_63 : decode cX8_worked 63 = .ok (.ifCond .eq 11, 3) := by decide +kernel
theorem dX8_worked_66 : decode cX8_worked 66 = .ok (.iload_n 2, 1) := by decide +kernel
theorem dX8_worked_67 : decode cX8_worked 67 = .ok (.ifCond .eq 7, 3) := by decide +kernel
theorem dX8_worked_70 : decode cX8_worked 70 = .ok (.iconst 1, 1) := by decide +kernel
theorem dX8_worked_71 : decode cX8_worked 71 = .ok (.goto 4, 3) := by decide +kernel
theorem dX8_worked_74 : decode cX8_worked 74 = .ok (.iconst 0, 1) := by decide +kernel
theorem dX8_worked_75 : decode cX8_worked 75 = .ok (.ireturn, 1) := by decide +kernel
theorem dX8_worked_76 : decode cX8_worked 76 = .ok (.iload_n 1, 1) := by decide +kernel
theorem dX8_worked_77 : decode cX8_worked 77 = .ok (.iload_n 2, 1) := by decide +kernel
theorem dX8_worked_78 : decode cX8_worked 78 = .ok (.if_icmp .ne 7, 3) := by decide +kernel
theorem dX8_worked_81 : decode cX8_worked 81 = .ok (.iconst 1, 1) := by decide +kernel
theorem dX8_worked_82 : decode cX8_worked 82 = .ok (.goto 4, 3) := by decide +kernel
theorem dX8_worked_85 : decode cX8_worked 85 = .ok (.iconst 0, 1) := by decide +kernel
theorem dX8_worked_86 : decode cX8_worked 86 = .ok (.ireturn, 1) := by decide +kernel
theorem dX8_worked_87 : decode cX8_worked 87 = .ok (.iload_n 1, 1) := by decide +kernel
theorem dX8_worked_88 : decode cX8_worked 88 = .ok (.iload_n 2, 1) := by decide +kernel
theorem dX8_worked_89 : decode cX8_worked 89 = .ok (.if_icmp .ge 7, 3) := by decide +kernel
theorem dX8_worked_92 : decode cX8_worked 92 = .ok (.iconst 1, 1) := by decide +kernel
theorem dX8_worked_93 : decode cX8_worked 93 = .ok (.goto 4, 3) := by decide +kernel
theorem dX8_worked_96 : decode cX8_worked 96 = .ok (.iconst 0, 1) := by decide +kernel
theorem dX8_worked_97 : decode cX8_worked 97 = .ok (.ireturn, 1) := by decide +kernel
theorem dX8_worked_98 : decode cX8_worked 98 = .ok (.iload_n 1, 1) := by decide +kernel
theorem dX8_worked_99 : decode cX8_worked 99 = .ok (.iload_n 2, 1) := by decide +kernel
theorem dX8_worked_100 : decode cX8_worked 100 = .ok (.if_icmp .le 7, 3) := by decide +kernel
theorem dX8_worked_103 : decode cX8_worked 103 = .ok (.iconst 1, 1) := by decide +kernel
theorem dX8_worked_104 : decode cX8_worked 104 = .ok (.goto 4, 3) := by decide +kernel
theorem dX8_worked_107 : decode cX8_worked 107 = .ok (.iconst 0, 1) := by decide +kernel
theorem dX8_worked_108 : decode cX8_worked 108 = .ok (.ireturn, 1) := by decide +kernel
theorem dX8_worked_109 : decode cX8_worked 109 = .ok (.iload_n 1, 1) := by decide +kernel
theorem dX8_worked_110 : decode cX8_worked 110 = .ok (.iload_n 2, 1) := by decide +kernel
theorem dX8_worked_111 : decode cX8_worked 111 = .ok (.iadd, 1) := by decide +kernel
theorem dX8_worked_112 : decode cX8_worked 112 = .ok (.ireturn, 1) := by decide +kernel
theorem dX8_worked_113 : decode cX8_worked 113 = .ok (.iload_n 1, 1) := by decide +kernel
theorem dX8_worked_114 : decode cX8_worked 114 = .ok (.iload_n 2, 1) := by decide +kernel
theorem dX8_worked_115 : decode cX8_worked 115 = .ok (.isub, 1) := by decide +kernel
theorem dX8_worked_116 : decode cX8_worked 116 = .ok (.ireturn, 1) := by decide +kernel
theorem dX8_worked_117 : decode cX8_worked 117 = .ok (.iload_n 1, 1) := by decide +kernel
theorem dX8_worked_118 : decode cX8_worked 118 = .ok (.iload_n 2, 1) := by decide +kernel
theorem dX8_worked_119 : decode cX8_worked 119 = .ok (.imul, 1) := by decide +kernel
theorem dX8_worked_120 : decode cX8_worked 120 = .ok (.ireturn, 1) := by decide +kernel
theorem dX8_askedOf_0 : decode cX8_askedOf 0 = .ok (.aload_n 0, 1) := by decide +kernel
theorem dX8_askedOf_1 : decode cX8_askedOf 1 = .ok (.getfield 60, 3) := by decide +kernel
theorem dX8_askedOf_4 : decode cX8_askedOf 4 = .ok (.iload_n 2, 1) := by decide +kernel
theorem dX8_askedOf_5 : decode cX8_askedOf 5 = .ok (.iaload, 1) := by decide +kernel
theorem dX8_askedOf_6 : decode cX8_askedOf 6 = .ok (.tableswitch 98 0 6 #[42, 49, 64, 79, 84, 89, 96], 42) := by decide +kernel
theorem dX8_askedOf_48 : decode cX8_askedOf 48 = .ok (.aload_n 0, 1) := by decide +kernel
theorem dX8_askedOf_49 : decode cX8_askedOf 49 = .ok (.getfield 63, 3) := by decide +kernel
theorem dX8_askedOf_52 : decode cX8_askedOf 52 = .ok (.iload_n 2, 1) := by decide +kernel
theorem dX8_askedOf_53 : decode cX8_askedOf 53 = .ok (.iaload, 1) := by decide +kernel
theorem dX8_askedOf_54 : decode cX8_askedOf 54 = .ok (.ireturn, 1) := by decide +kernel
theorem dX8_askedOf_55 : decode cX8_askedOf 55 = .ok (.aload_n 0, 1) := by decide +kernel
theorem dX8_askedOf_56 : decode cX8_askedOf 56 = .ok (.aload_n 0, 1) := by decide +kernel
theorem dX8_askedOf_57 : decode cX8_askedOf 57 = .ok (.getfield 72, 3) := by decide +kernel
theorem dX8_askedOf_60 : decode cX8_askedOf 60 = .ok (.iload_n 1, 1) := by decide +kernel
theorem dX8_askedOf_61 : decode cX8_askedOf 61 = .ok (.iconst (-1), 1) := by decide +kernel
theorem dX8_askedOf_62 : decode cX8_askedOf 62 = .ok (.aload_n 0, 1) := by decide +kernel
theorem dX8_askedOf_63 : decode cX8_askedOf 63 = .ok (.getfield 360, 3) := by decide +kernel
theorem dX8_askedOf_66 : decode cX8_askedOf 66 = .ok (.invokevirtual 399, 3) := by decide +kernel
theorem dX8_askedOf_69 : decode cX8_askedOf 69 = .ok (.ireturn, 1) := by decide +kernel
theorem dX8_askedOf_70 : decode cX8_askedOf 70 = .ok (.aload_n 0, 1) := by decide +kernel
theorem dX8_askedOf_71 : decode cX8_askedOf 71 = .ok (.aload_n 0, 1) := by decide +kernel
theorem dX8_askedOf_72 : decode cX8_askedOf 72 = .ok (.getfield 72, 3) := by decide +kernel
theorem dX8_askedOf_75 : decode cX8_askedOf 75 = .ok (.iload_n 1, 1) := by decide +kernel
theorem dX8_askedOf_76 : decode cX8_askedOf 76 = .ok (.iconst 1, 1) := by decide +kernel
theorem dX8_askedOf_77 : decode cX8_askedOf 77 = .ok (.aload_n 0, 1) := by decide +kernel
theorem dX8_askedOf_78 : decode cX8_askedOf 78 = .ok (.getfield 360, 3) := by decide +kernel
theorem dX8_askedOf_81 : decode cX8_askedOf 81 = .ok (.invokevirtual 399, 3) := by decide +kernel
theorem dX8_askedOf_84 : decode cX8_askedOf 84 = .ok (.ireturn, 1) := by decide +kernel
theorem dX8_askedOf_85 : decode cX8_askedOf 85 = .ok (.aload_n 0, 1) := by decide +kernel
theorem dX8_askedOf_86 : decode cX8_askedOf 86 = .ok (.invokevirtual 403, 3) := by decide +kernel
theorem dX8_askedOf_89 : decode cX8_askedOf 89 = .ok (.ireturn, 1) := by decide +kernel
theorem dX8_askedOf_90 : decode cX8_askedOf 90 = .ok (.aload_n 0, 1) := by decide +kernel
theorem dX8_askedOf_91 : decode cX8_askedOf 91 = .ok (.getfield 384, 3) := by decide +kernel
theorem dX8_askedOf_94 : decode cX8_askedOf 94 = .ok (.ireturn, 1) := by decide +kernel
theorem dX8_askedOf_95 : decode cX8_askedOf 95 = .ok (.aload_n 0, 1) := by decide +kernel
theorem dX8_askedOf_96 : decode cX8_askedOf 96 = .ok (.getfield 75, 3) := by decide +kernel
theorem dX8_askedOf_99 : decode cX8_askedOf 99 = .ok (.iload_n 1, 1) := by decide +kernel
theorem dX8_askedOf_100 : decode cX8_askedOf 100 = .ok (.iaload, 1) := by decide +kernel
theorem dX8_askedOf_101 : decode cX8_askedOf 101 = .ok (.ireturn, 1) := by decide +kernel
theorem dX8_askedOf_102 : decode cX8_askedOf 102 = .ok (.iload_n 3, 1) := by decide +kernel
theorem dX8_askedOf_103 : decode cX8_askedOf 103 = .ok (.ireturn, 1) := by decide +kernel
theorem dX8_askedOf_104 : decode cX8_askedOf 104 = .ok (.aload_n 0, 1) := by decide +kernel
theorem dX8_askedOf_105 : decode cX8_askedOf 105 = .ok (.getfield 381, 3) := by decide +kernel
theorem dX8_askedOf_108 : decode cX8_askedOf 108 = .ok (.iconst 1, 1) := by decide +kernel
theorem dX8_askedOf_109 : decode cX8_askedOf 109 = .ok (.iadd, 1) := by decide +kernel
theorem dX8_askedOf_110 : decode cX8_askedOf 110 = .ok (.ireturn, 1) := by decide +kernel
theorem dX8_wants_0 : decode cX8_wants 0 = .ok (.aload_n 0, 1) := by decide +kernel
theorem dX8_wants_1 : decode cX8_wants 1 = .ok (.getfield 72, 3) := by decide +kernel
theorem dX8_wants_4 : decode cX8_wants 4 = .ok (.iload_n 1, 1) := by decide +kernel
theorem dX8_wants_5 : decode cX8_wants 5 = .ok (.iaload, 1) := by decide +kernel
theorem dX8_wants_6 : decode cX8_wants 6 = .ok (.ifCond .ne 21, 3) := by decide +kernel
theorem dX8_wants_9 : decode cX8_wants 9 = .ok (.aload_n 0, 1) := by decide +kernel
theorem dX8_wants_10 : decode cX8_wants 10 = .ok (.getfield 27, 3) := by decide +kernel
theorem dX8_wants_13 : decode cX8_wants 13 = .ok (.iload_n 1, 1) := by decide +kernel
theorem dX8_wants_14 : decode cX8_wants 14 = .ok (.baload, 1) := by decide +kernel
theorem dX8_wants_15 : decode cX8_wants 15 = .ok (.ifCond .ne 12, 3) := by decide +kernel
theorem dX8_wants_18 : decode cX8_wants 18 = .ok (.aload_n 0, 1) := by decide +kernel
theorem dX8_wants_19 : decode cX8_wants 19 = .ok (.getfield 93, 3) := by decide +kernel
theorem dX8_wants_22 : decode cX8_wants 22 = .ok (.iload_n 1, 1) := by decide +kernel
theorem dX8_wants_23 : decode cX8_wants 23 = .ok (.baload, 1) := by decide +kernel
theorem dX8_wants_24 : decode cX8_wants 24 = .ok (.ifCond .eq 5, 3) := by decide +kernel
theorem dX8_wants_27 : decode cX8_wants 27 = .ok (.iconst 0, 1) := by decide +kernel
theorem dX8_wants_28 : decode cX8_wants 28 = .ok (.ireturn, 1) := by decide +kernel
theorem dX8_wants_29 : decode cX8_wants 29 = .ok (.iconst 0, 1) := by decide +kernel
theorem dX8_wants_30 : decode cX8_wants 30 = .ok (.istore_n 3, 1) := by decide +kernel
theorem dX8_wants_31 : decode cX8_wants 31 = .ok (.iconst 0, 1) := by decide +kernel
theorem dX8_wants_32 : decode cX8_wants 32 = .ok (.istore 4, 2) := by decide +kernel
theorem dX8_wants_34 : decode cX8_wants 34 = .ok (.iload 4, 2) := by decide +kernel
theorem dX8_wants_36 : decode cX8_wants 36 = .ok (.aload_n 0, 1) := by decide +kernel
theorem dX8_wants_37 : decode cX8_wants 37 = .ok (.getfield 369, 3) := by decide +kernel
theorem dX8_wants_40 : decode cX8_wants 40 = .ok (.if_icmp .ge 115, 3) := by decide +kernel
theorem dX8_wants_43 : decode cX8_wants 43 = .ok (.aload_n 0, 1) := by decide +kernel
theorem dX8_wants_44 : decode cX8_wants 44 = .ok (.getfield 60, 3) := by decide +kernel
theorem dX8_wants_47 : decode cX8_wants 47 = .ok (.iload 4, 2) := by decide +kernel
theorem dX8_wants_49 : decode cX8_wants 49 = .ok (.iaload, 1) := by decide +kernel
theorem dX8_wants_50 : decode cX8_wants 50 = .ok (.bipush 20, 2) := by decide +kernel
theorem dX8_wants_52 : decode cX8_wants 52 = .ok (.if_icmp .ge 23, 3) := by decide +kernel
theorem dX8_wants_55 : decode cX8_wants 55 = .ok (.aload_n 0, 1) := by decide +kernel
theorem dX8_wants_56 : decode cX8_wants 56 = .ok (.getfield 69, 3) := by decide +kernel
theorem dX8_wants_59 : decode cX8_wants 59 = .ok (.iload_n 3, 1) := by decide +kernel
theorem dX8_wants_60 : decode cX8_wants 60 = .ok (.aload_n 0, 1) := by decide +kernel
theorem dX8_wants_61 : decode cX8_wants 61 = .ok (.iload_n 1, 1) := by decide +kernel
theorem dX8_wants_62 : decode cX8_wants 62 = .ok (.iload 4, 2) := by decide +kernel
theorem dX8_wants_64 : decode cX8_wants 64 = .ok (.iload_n 2, 1) := by decide +kernel
theorem dX8_wants_65 : decode cX8_wants 65 = .ok (.invokevirtual 406, 3) := by decide +kernel
theorem dX8_wants_68 : decode cX8_wants 68 = .ok (.iastore, 1) := by decide +kernel
theorem dX8_wants_69 : decode cX8_wants 69 = .ok (.iinc 3 1, 3) := by decide +kernel
theorem dX8_wants_72 : decode cX8_wants 72 = .ok (.goto 77, 3) := by decide +kernel
theorem dX8_wants_75 : decode cX8_wants 75 = .ok (.aload_n 0, 1) := by decide +kernel
theorem dX8_wants_76 : decode cX8_wants 76 = .ok (.getfield 60, 3) := by decide +kernel
theorem dX8_wants_79 : decode cX8_wants 79 = .ok (.iload 4, 2) := by decide +kernel
theorem dX8_wants_81 : decode cX8_wants 81 = .ok (.iaload, 1) := by decide +kernel
theorem dX8_wants_82 : decode cX8_wants 82 = .ok (.bipush 22, 2) := by decide +kernel
theorem dX8_wants_84 : decode cX8_wants 84 = .ok (.if_icmp .ne 30, 3) := by decide +kernel
theorem dX8_wants_87 : decode cX8_wants 87 = .ok (.aload_n 0, 1) := by decide +kernel
theorem dX8_wants_88 : decode cX8_wants 88 = .ok (.getfield 69, 3) := by decide +kernel
theorem dX8_wants_91 : decode cX8_wants 91 = .ok (.iload_n 3, 1) := by decide +kernel
theorem dX8_wants_92 : decode cX8_wants 92 = .ok (.iconst 1, 1) := by decide +kernel
theorem dX8_wants_93 : decode cX8_wants 93 = .ok (.isub, 1) := by decide +kernel
theorem dX8_wants_94 : decode cX8_wants 94 = .ok (.aload_n 0, 1) := by decide +kernel
theorem dX8_wants_95 : decode cX8_wants 95 = .ok (.getfield 69, 3) := by decide +kernel
theorem dX8_wants_98 : decode cX8_wants 98 = .ok (.iload_n 3, 1) := by decide +kernel
theorem dX8_wants_99 : decode cX8_wants 99 = .ok (.iconst 1, 1) := by decide +kernel
theorem dX8_wants_100 : decode cX8_wants 100 = .ok (.isub, 1) := by decide +kernel
theorem dX8_wants_101 : decode cX8_wants 101 = .ok (.iaload, 1) := by decide +kernel
theorem dX8_wants_102 : decode cX8_wants 102 = .ok (.ifCond .ne 7, 3) := by decide +kernel
theorem dX8_wants_105 : decode cX8_wants 105 = .ok (.iconst 1, 1) := by decide +kernel
theorem dX8_wants_106 : decode cX8_wants 106 = .ok (.goto 4, 3) := by decide +kernel
theorem dX8_wants_109 : decode cX8_wants 109 = .ok (.iconst 0, 1) := by decide +kernel
theorem dX8_wants_110 : decode cX8_wants 110 = .ok (.iastore, 1) := by decide +kernel
theorem dX8_wants_111 : decode cX8_wants 111 = .ok (.goto 38, 3) := by decide +kernel
theorem dX8_wants_114 : decode cX8_wants 114 = .ok (.iinc 3 (-1), 3) := by decide +kernel
theorem dX8_wants_117 : decode cX8_wants 117 = .ok (.aload_n 0, 1) := by decide +kernel
theorem dX8_wants_118 : decode cX8_wants 118 = .ok (.getfield 69, 3) := by decide +kernel
theorem dX8_wants_121 : decode cX8_wants 121 = .ok (.iload_n 3, 1) := by decide +kernel
theorem dX8_wants_122 : decode cX8_wants 122 = .ok (.iconst 1, 1) := by decide +kernel
theorem dX8_wants_123 : decode cX8_wants 123 = .ok (.isub, 1) := by decide +kernel
theorem dX8_wants_124 : decode cX8_wants 124 = .ok (.aload_n 0, 1) := by decide +kernel
theorem dX8_wants_125 : decode cX8_wants 125 = .ok (.getfield 60, 3) := by decide +kernel
theorem dX8_wants_128 : decode cX8_wants 128 = .ok (.iload 4, 2) := by decide +kernel
theorem dX8_wants_130 : decode cX8_wants 130 = .ok (.iaload, 1) := by decide +kernel
theorem dX8_wants_131 : decode cX8_wants 131 = .ok (.aload_n 0, 1) := by decide +kernel
theorem dX8_wants_132 : decode cX8_wants 132 = .ok (.getfield 69, 3) := by decide +kernel
theorem dX8_wants_135 : decode cX8_wants 135 = .ok (.iload_n 3, 1) := by decide +kernel
theorem dX8_wants_136 : decode cX8_wants 136 = .ok (.iconst 1, 1) := by decide +kernel
theorem dX8_wants_137 : decode cX8_wants 137 = .ok (.isub, 1) := by decide +kernel
theorem dX8_wants_138 : decode cX8_wants 138 = .ok (.iaload, 1) := by decide +kernel
theorem dX8_wants_139 : decode cX8_wants 139 = .ok (.aload_n 0, 1) := by decide +kernel
theorem dX8_wants_140 : decode cX8_wants 140 = .ok (.getfield 69, 3) := by decide +kernel
theorem dX8_wants_143 : decode cX8_wants 143 = .ok (.iload_n 3, 1) := by decide +kernel
theorem dX8_wants_144 : decode cX8_wants 144 = .ok (.iaload, 1) := by decide +kernel
theorem dX8_wants_145 : decode cX8_wants 145 = .ok (.invokestatic 410, 3) := by decide +kernel
theorem dX8_wants_148 : decode cX8_wants 148 = .ok (.iastore, 1) := by decide +kernel
theorem dX8_wants_149 : decode cX8_wants 149 = .ok (.iinc 4 1, 3) := by decide +kernel
theorem dX8_wants_152 : decode cX8_wants 152 = .ok (.goto (-118), 3) := by decide +kernel
theorem dX8_wants_155 : decode cX8_wants 155 = .ok (.aload_n 0, 1) := by decide +kernel
theorem dX8_wants_156 : decode cX8_wants 156 = .ok (.getfield 69, 3) := by decide +kernel
theorem dX8_wants_159 : decode cX8_wants 159 = .ok (.iconst 0, 1) := by decide +kernel
theorem dX8_wants_160 : decode cX8_wants 160 = .ok (.iaload, 1) := by decide +kernel
theorem dX8_wants_161 : decode cX8_wants 161 = .ok (.ifCond .eq 7, 3) := by decide +kernel
theorem dX8_wants_164 : decode cX8_wants 164 = .ok (.iconst 1, 1) := by decide +kernel
theorem dX8_wants_165 : decode cX8_wants 165 = .ok (.goto 4, 3) := by decide +kernel
theorem dX8_wants_168 : decode cX8_wants 168 = .ok (.iconst 0, 1) := by decide +kernel
theorem dX8_wants_169 : decode cX8_wants 169 = .ok (.ireturn, 1) := by decide +kernel
theorem dX8_draw_0 : decode cX8_draw 0 = .ok (.aload_n 0, 1) := by decide +kernel
theorem dX8_draw_1 : decode cX8_draw 1 = .ok (.aload_n 0, 1) := by decide +kernel
theorem dX8_draw_2 : decode cX8_draw 2 = .ok (.getfield 96, 3) := by decide +kernel
theorem dX8_draw_5 : decode cX8_draw 5 = .ok (.ldc_w 413, 3) := by decide +kernel
theorem dX8_draw_8 : decode cX8_draw 8 = .ok (.imul, 1) := by decide +kernel
theorem dX8_draw_9 : decode cX8_draw 9 = .ok (.sipush 12345, 3) := by decide +kernel
theorem dX8_draw_12 : decode cX8_draw 12 = .ok (.iadd, 1) := by decide +kernel
theorem dX8_draw_13 : decode cX8_draw 13 = .ok (.putfield 96, 3) := by decide +kernel
theorem dX8_draw_16 : decode cX8_draw 16 = .ok (.aload_n 0, 1) := by decide +kernel
theorem dX8_draw_17 : decode cX8_draw 17 = .ok (.getfield 96, 3) := by decide +kernel
theorem dX8_draw_20 : decode cX8_draw 20 = .ok (.bipush 16, 2) := by decide +kernel
theorem dX8_draw_22 : decode cX8_draw 22 = .ok (.iushr, 1) := by decide +kernel
theorem dX8_draw_23 : decode cX8_draw 23 = .ok (.iload_n 1, 1) := by decide +kernel
theorem dX8_draw_24 : decode cX8_draw 24 = .ok (.irem, 1) := by decide +kernel
theorem dX8_draw_25 : decode cX8_draw 25 = .ok (.ireturn, 1) := by decide +kernel
theorem dX8_behind_0 : decode cX8_behind 0 = .ok (.iload_n 0, 1) := by decide +kernel
theorem dX8_behind_1 : decode cX8_behind 1 = .ok (.invokestatic 393, 3) := by decide +kernel
theorem dX8_behind_4 : decode cX8_behind 4 = .ok (.ifCond .eq 25, 3) := by decide +kernel
theorem dX8_behind_7 : decode cX8_behind 7 = .ok (.iload_n 0, 1) := by decide +kernel
theorem dX8_behind_8 : decode cX8_behind 8 = .ok (.iload_n 1, 1) := by decide +kernel
theorem dX8_behind_9 : decode cX8_behind 9 = .ok (.if_icmp .ge 9, 3) := by decide +kernel
theorem dX8_behind_12 : decode cX8_behind 12 = .ok (.iload_n 0, 1) := by decide +kernel
theorem dX8_behind_13 : decode cX8_behind 13 = .ok (.iconst 1, 1) := by decide +kernel
theorem dX8_behind_14 : decode cX8_behind 14 = .ok (.iadd, 1) := by decide +kernel
theorem dX8_behind_15 : decode cX8_behind 15 = .ok (.goto 13, 3) := by decide +kernel
theorem dX8_behind_18 : decode cX8_behind 18 = .ok (.iload_n 2, 1) := by decide +kernel
theorem dX8_behind_19 : decode cX8_behind 19 = .ok (.ifCond .le 8, 3) := by decide +kernel
theorem dX8_behind_22 : decode cX8_behind 22 = .ok (.bipush 11, 2) := by decide +kernel
theorem dX8_behind_24 : decode cX8_behind 24 = .ok (.goto 4, 3) := by decide +kernel
theorem dX8_behind_27 : decode cX8_behind 27 = .ok (.iconst 0, 1) := by decide +kernel
theorem dX8_behind_28 : decode cX8_behind 28 = .ok (.ireturn, 1) := by decide +kernel
theorem dX8_behind_29 : decode cX8_behind 29 = .ok (.iload_n 0, 1) := by decide +kernel
theorem dX8_behind_30 : decode cX8_behind 30 = .ok (.bipush 10, 2) := by decide +kernel
theorem dX8_behind_32 : decode cX8_behind 32 = .ok (.if_icmp .le 25, 3) := by decide +kernel
theorem dX8_behind_35 : decode cX8_behind 35 = .ok (.iload_n 0, 1) := by decide +kernel
theorem dX8_behind_36 : decode cX8_behind 36 = .ok (.bipush 40, 2) := by decide +kernel
theorem dX8_behind_38 : decode cX8_behind 38 = .ok (.if_icmp .ge 19, 3) := by decide +kernel
theorem dX8_behind_41 : decode cX8_behind 41 = .ok (.iload_n 0, 1) := by decide +kernel
theorem dX8_behind_42 : decode cX8_behind 42 = .ok (.bipush 10, 2) := by decide +kernel
theorem dX8_behind_44 : decode cX8_behind 44 = .ok (.iload_n 2, 1) := by decide +kernel
theorem dX8_behind_45 : decode cX8_behind 45 = .ok (.iadd, 1) := by decide +kernel
theorem dX8_behind_46 : decode cX8_behind 46 = .ok (.if_icmp .ge 9, 3) := by decide +kernel
theorem dX8_behind_49 : decode cX8_behind 49 = .ok (.iload_n 0, 1) := by decide +kernel
theorem dX8_behind_50 : decode cX8_behind 50 = .ok (.iconst 1, 1) := by decide +kernel
theorem dX8_behind_51 : decode cX8_behind 51 = .ok (.iadd, 1) := by decide +kernel
theorem dX8_behind_52 : decode cX8_behind 52 = .ok (.goto 4, 3) := by decide +kernel
theorem dX8_behind_55 : decode cX8_behind 55 = .ok (.iconst 0, 1) := by decide +kernel
theorem dX8_behind_56 : decode cX8_behind 56 = .ok (.ireturn, 1) := by decide +kernel
theorem dX8_behind_57 : decode cX8_behind 57 = .ok (.iload_n 0, 1) := by decide +kernel
theorem dX8_behind_58 : decode cX8_behind 58 = .ok (.ireturn, 1) := by decide +kernel
theorem dX8_step_0 : decode cX8_step 0 = .ok (.aload_n 0, 1) := by decide +kernel
theorem dX8_step_1 : decode cX8_step 1 = .ok (.invokevirtual 414, 3) := by decide +kernel
theorem dX8_step_4 : decode cX8_step 4 = .ok (.istore_n 2, 1) := by decide +kernel
theorem dX8_step_5 : decode cX8_step 5 = .ok (.iconst 0, 1) := by decide +kernel
theorem dX8_step_6 : decode cX8_step 6 = .ok (.istore_n 3, 1) := by decide +kernel
theorem dX8_step_7 : decode cX8_step 7 = .ok (.iconst 0, 1) := by decide +kernel
theorem dX8_step_8 : decode cX8_step 8 = .ok (.istore 4, 2) := by decide +kernel
theorem dX8_step_10 : decode cX8_step 10 = .ok (.iload 4, 2) := by decide +kernel
theorem dX8_step_12 : decode cX8_step 12 = .ok (.aload_n 0, 1) := by decide +kernel
theorem dX8_step_13 : decode cX8_step 13 = .ok (.getfield 151, 3) := by decide +kernel
theorem dX8_step_16 : decode cX8_step 16 = .ok (.if_icmp .ge 183, 3) := by decide +kernel
theorem dX8_step_19 : decode cX8_step 19 = .ok (.aload_n 0, 1) := by decide +kernel
theorem dX8_step_20 : decode cX8_step 20 = .ok (.iload 4, 2) := by decide +kernel
theorem dX8_step_22 : decode cX8_step 22 = .ok (.iload_n 2, 1) := by decide +kernel
theorem dX8_step_23 : decode cX8_step 23 = .ok (.invokevirtual 417, 3) := by decide +kernel
theorem dX8_step_26 : decode cX8_step 26 = .ok (.ifCond .eq 31, 3) := by decide +kernel
theorem dX8_step_29 : decode cX8_step 29 = .ok (.iload_n 1, 1) := by decide +kernel
theorem dX8_step_30 : decode cX8_step 30 = .ok (.ifCond .eq 23, 3) := by decide +kernel
theorem dX8_step_33 : decode cX8_step 33 = .ok (.aload_n 0, 1) := by decide +kernel
theorem dX8_step_34 : decode cX8_step 34 = .ok (.getfield 363, 3) := by decide +kernel
theorem dX8_step_37 : decode cX8_step 37 = .ok (.ifCond .le 16, 3) := by decide +kernel
theorem dX8_step_40 : decode cX8_step 40 = .ok (.aload_n 0, 1) := by decide +kernel
theorem dX8_step_41 : decode cX8_step 41 = .ok (.bipush 10, 2) := by decide +kernel
theorem dX8_step_43 : decode cX8_step 43 = .ok (.invokevirtual 421, 3) := by decide +kernel
theorem dX8_step_46 : decode cX8_step 46 = .ok (.aload_n 0, 1) := by decide +kernel
theorem dX8_step_47 : decode cX8_step 47 = .ok (.getfield 363, 3) := by decide +kernel
theorem dX8_step_50 : decode cX8_step 50 = .ok (.if_icmp .lt 7, 3) := by decide +kernel
theorem dX8_step_53 : decode cX8_step 53 = .ok (.iconst 1, 1) := by decide +kernel
theorem dX8_step_54 : decode cX8_step 54 = .ok (.goto 4, 3) := by decide +kernel
theorem dX8_step_57 : decode cX8_step 57 = .ok (.iconst 0, 1) := by decide +kernel
theorem dX8_step_58 : decode cX8_step 58 = .ok (.istore 5, 2) := by decide +kernel
theorem dX8_step_60 : decode cX8_step 60 = .ok (.aload_n 0, 1) := by decide +kernel
theorem dX8_step_61 : decode cX8_step 61 = .ok (.getfield 78, 3) := by decide +kernel
theorem dX8_step_64 : decode cX8_step 64 = .ok (.iload 4, 2) := by decide +kernel
theorem dX8_step_66 : decode cX8_step 66 = .ok (.iload 5, 2) := by decide +kernel
theorem dX8_step_68 : decode cX8_step 68 = .ok (.ifCond .eq 7, 3) := by decide +kernel
theorem dX8_step_71 : decode cX8_step 71 = .ok (.iconst 1, 1) := by decide +kernel
theorem dX8_step_72 : decode cX8_step 72 = .ok (.goto 21, 3) := by decide +kernel
theorem dX8_step_75 : decode cX8_step 75 = .ok (.aload_n 0, 1) := by decide +kernel
theorem dX8_step_76 : decode cX8_step 76 = .ok (.getfield 72, 3) := by decide +kernel
theorem dX8_step_79 : decode cX8_step 79 = .ok (.iload 4, 2) := by decide +kernel
theorem dX8_step_81 : decode cX8_step 81 = .ok (.iaload, 1) := by decide +kernel
theorem dX8_step_82 : decode cX8_step 82 = .ok (.aload_n 0, 1) := by decide +kernel
theorem dX8_step_83 : decode cX8_step 83 = .ok (.getfield 354, 3) := by decide +kernel
theorem dX8_step_86 : decode cX8_step 86 = .ok (.aload_n 0, 1) := by decide +kernel
theorem dX8_step_87 : decode cX8_step 87 = .ok (.getfield 357, 3) := by decide +kernel
theorem dX8_step_90 : decode cX8_step 90 = .ok (.invokestatic 424, 3) := by decide +kernel
theorem dX8_step_93 : decode cX8_step 93 = .ok (.iastore, 1) := by decide +kernel
theorem dX8_step_94 : decode cX8_step 94 = .ok (.iload 5, 2) := by decide +kernel
theorem dX8_step_96 : decode cX8_step 96 = .ok (.ifCond .ne 6, 3) := by decide +kernel
theorem dX8_step_99 : decode cX8_step 99 = .ok (.goto 94, 3) := by decide +kernel
theorem dX8_step_102 : decode cX8_step 102 = .ok (.iinc 3 1, 3) := by decide +kernel
theorem dX8_step_105 : decode cX8_step 105 = .ok (.aload_n 0, 1) := by decide +kernel
theorem dX8_step_106 : decode cX8_step 106 = .ok (.aload_n 0, 1) := by decide +kernel
theorem dX8_step_107 : decode cX8_step 107 = .ok (.getfield 72, 3) := by decide +kernel
theorem dX8_step_110 : decode cX8_step 110 = .ok (.iload 4, 2) := by decide +kernel
theorem dX8_step_112 : decode cX8_step 112 = .ok (.iconst (-1), 1) := by decide +kernel
theorem dX8_step_113 : decode cX8_step 113 = .ok (.aload_n 0, 1) := by decide +kernel
theorem dX8_step_114 : decode cX8_step 114 = .ok (.getfield 360, 3) := by decide +kernel
theorem dX8_step_117 : decode cX8_step 117 = .ok (.invokevirtual 399, 3) := by decide +kernel
theorem dX8_step_120 : decode cX8_step 120 = .ok (.ifCond .le 7, 3) := by decide +kernel
theorem dX8_step_123 : decode cX8_step 123 = .ok (.iconst 1, 1) := by decide +kernel
theorem dX8_step_124 : decode cX8_step 124 = .ok (.goto 4, 3) := by decide +kernel
theorem dX8_step_127 : decode cX8_step 127 = .ok (.iconst 0, 1) := by decide +kernel
theorem dX8_step_128 : decode cX8_step 128 = .ok (.istore 6, 2) := by decide +kernel
theorem dX8_step_130 : decode cX8_step 130 = .ok (.aload_n 0, 1) := by decide +kernel
theorem dX8_step_131 : decode cX8_step 131 = .ok (.aload_n 0, 1) := by decide +kernel
theorem dX8_step_132 : decode cX8_step 132 = .ok (.getfield 72, 3) := by decide +kernel
theorem dX8_step_135 : decode cX8_step 135 = .ok (.iload 4, 2) := by decide +kernel
theorem dX8_step_137 : decode cX8_step 137 = .ok (.iconst 1, 1) := by decide +kernel
theorem dX8_step_138 : decode cX8_step 138 = .ok (.aload_n 0, 1) := by decide +kernel
theorem dX8_step_139 : decode cX8_step 139 = .ok (.getfield 360, 3) := by decide +kernel
theorem dX8_step_142 : decode cX8_step 142 = .ok (.invokevirtual 399, 3) := by decide +kernel
theorem dX8_step_145 : decode cX8_step 145 = .ok (.ifCond .le 7, 3) := by decide +kernel
theorem dX8_step_148 : decode cX8_step 148 = .ok (.iconst 1, 1) := by decide +kernel
theorem dX8_step_149 : decode cX8_step 149 = .ok (.goto 4, 3) := by decide +kernel
theorem dX8_step_152 : decode cX8_step 152 = .ok (.iconst 0, 1) := by decide +kernel
theorem dX8_step_153 : decode cX8_step 153 = .ok (.istore 7, 2) := by decide +kernel
theorem dX8_step_155 : decode cX8_step 155 = .ok (.aload_n 0, 1) := by decide +kernel
theorem dX8_step_156 : decode cX8_step 156 = .ok (.getfield 87, 3) := by decide +kernel
theorem dX8_step_159 : decode cX8_step 159 = .ok (.iload 6, 2) := by decide +kernel
theorem dX8_step_161 : decode cX8_step 161 = .ok (.ifCond .eq 12, 3) := by decide +kernel
theorem dX8_step_164 : decode cX8_step 164 = .ok (.iload 7, 2) := by decide +kernel
theorem dX8_step_166 : decode cX8_step 166 = .ok (.ifCond .ne 7, 3) := by decide +kernel
theorem dX8_step_169 : decode cX8_step 169 = .ok (.iconst 0, 1) := by decide +kernel
theorem dX8_step_170 : decode cX8_step 170 = .ok (.goto 18, 3) := by decide +kernel
theorem dX8_step_173 : decode cX8_step 173 = .ok (.iload 7, 2) := by decide +kernel
theorem dX8_step_175 : decode cX8_step 175 = .ok (.ifCond .eq 12, 3) := by decide +kernel
theorem dX8_step_178 : decode cX8_step 178 = .ok (.iload 6, 2) := by decide +kernel
theorem dX8_step_180 : decode cX8_step 180 = .ok (.ifCond .ne 7, 3) := by decide +kernel
theorem dX8_step_183 : decode cX8_step 183 = .ok (.iconst 1, 1) := by decide +kernel
theorem dX8_step_184 : decode cX8_step 184 = .ok (.goto 4, 3) := by decide +kernel
theorem dX8_step_187 : decode cX8_step 187 = .ok (.iconst 2, 1) := by decide +kernel
theorem dX8_step_188 : decode cX8_step 188 = .ok (.dup2, 1) := by decide +kernel
theorem dX8_step_189 : decode cX8_step 189 = .ok (.iaload, 1) := by decide +kernel
theorem dX8_step_190 : decode cX8_step 190 = .ok (.iconst 1, 1) := by decide +kernel
theorem dX8_step_191 : decode cX8_step 191 = .ok (.iadd, 1) := by decide +kernel
theorem dX8_step_192 : decode cX8_step 192 = .ok (.iastore, 1) := by decide +kernel
theorem dX8_step_193 : decode cX8_step 193 = .ok (.iinc 4 1, 3) := by decide +kernel
theorem dX8_step_196 : decode cX8_step 196 = .ok (.goto (-186), 3) := by decide +kernel
theorem dX8_step_199 : decode cX8_step 199 = .ok (.iconst 0, 1) := by decide +kernel
theorem dX8_step_200 : decode cX8_step 200 = .ok (.istore 4, 2) := by decide +kernel
theorem dX8_step_202 : decode cX8_step 202 = .ok (.iload 4, 2) := by decide +kernel
theorem dX8_step_204 : decode cX8_step 204 = .ok (.aload_n 0, 1) := by decide +kernel
theorem dX8_step_205 : decode cX8_step 205 = .ok (.getfield 151, 3) := by decide +kernel
theorem dX8_step_208 : decode cX8_step 208 = .ok (.if_icmp .ge 49, 3) := by decide +kernel
theorem dX8_step_211 : decode cX8_step 211 = .ok (.aload_n 0, 1) := by decide +kernel
theorem dX8_step_212 : decode cX8_step 212 = .ok (.getfield 75, 3) := by decide +kernel
theorem dX8_step_215 : decode cX8_step 215 = .ok (.iload 4, 2) := by decide +kernel
theorem dX8_step_217 : decode cX8_step 217 = .ok (.dup2, 1) := by decide +kernel
theorem dX8_step_218 : decode cX8_step 218 = .ok (.iaload, 1) := by decide +kernel
theorem dX8_step_219 : decode cX8_step 219 = .ok (.aload_n 0, 1) := by decide +kernel
theorem dX8_step_220 : decode cX8_step 220 = .ok (.getfield 78, 3) := by decide +kernel
theorem dX8_step_223 : decode cX8_step 223 = .ok (.iload 4, 2) := by decide +kernel
theorem dX8_step_225 : decode cX8_step 225 = .ok (.iaload, 1) := by decide +kernel
theorem dX8_step_226 : decode cX8_step 226 = .ok (.iconst 1, 1) := by decide +kernel
theorem dX8_step_227 : decode cX8_step 227 = .ok (.if_icmp .ne 7, 3) := by decide +kernel
theorem dX8_step_230 : decode cX8_step 230 = .ok (.iconst 1, 1) := by decide +kernel
theorem dX8_step_231 : decode cX8_step 231 = .ok (.goto 4, 3) := by decide +kernel
theorem dX8_step_234 : decode cX8_step 234 = .ok (.iconst 0, 1) := by decide +kernel
theorem dX8_step_235 : decode cX8_step 235 = .ok (.iadd, 1) := by decide +kernel
theorem dX8_step_236 : decode cX8_step 236 = .ok (.iastore, 1) := by decide +kernel
theorem dX8_step_237 : decode cX8_step 237 = .ok (.aload_n 0, 1) := by decide +kernel
theorem dX8_step_238 : decode cX8_step 238 = .ok (.getfield 72, 3) := by decide +kernel
theorem dX8_step_241 : decode cX8_step 241 = .ok (.iload 4, 2) := by decide +kernel
theorem dX8_step_243 : decode cX8_step 243 = .ok (.aload_n 0, 1) := by decide +kernel
theorem dX8_step_244 : decode cX8_step 244 = .ok (.getfield 78, 3) := by decide +kernel
theorem dX8_step_247 : decode cX8_step 247 = .ok (.iload 4, 2) := by decide +kernel
theorem dX8_step_249 : decode cX8_step 249 = .ok (.iaload, 1) := by decide +kernel
theorem dX8_step_250 : decode cX8_step 250 = .ok (.iastore, 1) := by decide +kernel
theorem dX8_step_251 : decode cX8_step 251 = .ok (.iinc 4 1, 3) := by decide +kernel
theorem dX8_step_254 : decode cX8_step 254 = .ok (.goto (-52), 3) := by decide +kernel
theorem dX8_step_257 : decode cX8_step 257 = .ok (.aload_n 0, 1) := by decide +kernel
theorem dX8_step_258 : decode cX8_step 258 = .ok (.dup, 1) := by decide +kernel
theorem dX8_step_259 : decode cX8_step 259 = .ok (.getfield 381, 3) := by decide +kernel
theorem dX8_step_262 : decode cX8_step 262 = .ok (.iconst 1, 1) := by decide +kernel
theorem dX8_step_263 : decode cX8_step 263 = .ok (.iadd, 1) := by decide +kernel
theorem dX8_step_264 : decode cX8_step 264 = .ok (.putfield 381, 3) := by decide +kernel
theorem dX8_step_267 : decode cX8_step 267 = .ok (.iload_n 3, 1) := by decide +kernel
theorem dX8_step_268 : decode cX8_step 268 = .ok (.ireturn, 1) := by decide +kernel
theorem dX8_tries_0 : decode cX8_tries 0 = .ok (.aload_n 0, 1) := by decide +kernel
theorem dX8_tries_1 : decode cX8_tries 1 = .ok (.getfield 72, 3) := by decide +kernel
theorem dX8_tries_4 : decode cX8_tries 4 = .ok (.iload_n 1, 1) := by decide +kernel
theorem dX8_tries_5 : decode cX8_tries 5 = .ok (.iaload, 1) := by decide +kernel
theorem dX8_tries_6 : decode cX8_tries 6 = .ok (.ifCond .eq 5, 3) := by decide +kernel
theorem dX8_tries_9 : decode cX8_tries 9 = .ok (.iconst 0, 1) := by decide +kernel
theorem dX8_tries_10 : decode cX8_tries 10 = .ok (.ireturn, 1) := by decide +kernel
theorem dX8_tries_11 : decode cX8_tries 11 = .ok (.aload_n 0, 1) := by decide +kernel
theorem dX8_tries_12 : decode cX8_tries 12 = .ok (.getfield 72, 3) := by decide +kernel
theorem dX8_tries_15 : decode cX8_tries 15 = .ok (.iload_n 1, 1) := by decide +kernel
theorem dX8_tries_16 : decode cX8_tries 16 = .ok (.iconst 1, 1) := by decide +kernel
theorem dX8_tries_17 : decode cX8_tries 17 = .ok (.iastore, 1) := by decide +kernel
theorem dX8_tries_18 : decode cX8_tries 18 = .ok (.aload_n 0, 1) := by decide +kernel
theorem dX8_tries_19 : decode cX8_tries 19 = .ok (.getfield 75, 3) := by decide +kernel
theorem dX8_tries_22 : decode cX8_tries 22 = .ok (.iload_n 1, 1) := by decide +kernel
theorem dX8_tries_23 : decode cX8_tries 23 = .ok (.dup2, 1) := by decide +kernel
theorem dX8_tries_24 : decode cX8_tries 24 = .ok (.iaload, 1) := by decide +kernel
theorem dX8_tries_25 : decode cX8_tries 25 = .ok (.iconst 1, 1) := by decide +kernel
theorem dX8_tries_26 : decode cX8_tries 26 = .ok (.iadd, 1) := by decide +kernel
theorem dX8_tries_27 : decode cX8_tries 27 = .ok (.iastore, 1) := by decide +kernel
theorem dX8_tries_28 : decode cX8_tries 28 = .ok (.iconst 1, 1) := by decide +kernel
theorem dX8_tries_29 : decode cX8_tries 29 = .ok (.ireturn, 1) := by decide +kernel
theorem dX8_tryNow_0 : decode cX8_tryNow 0 = .ok (.iconst 0, 1) := by decide +kernel
theorem dX8_tryNow_1 : decode cX8_tryNow 1 = .ok (.istore_n 1, 1) := by decide +kernel
theorem dX8_tryNow_2 : decode cX8_tryNow 2 = .ok (.iconst 0, 1) := by decide +kernel
theorem dX8_tryNow_3 : decode cX8_tryNow 3 = .ok (.istore_n 2, 1) := by decide +kernel
theorem dX8_tryNow_4 : decode cX8_tryNow 4 = .ok (.iload_n 2, 1) := by decide +kernel
theorem dX8_tryNow_5 : decode cX8_tryNow 5 = .ok (.aload_n 0, 1) := by decide +kernel
theorem dX8_tryNow_6 : decode cX8_tryNow 6 = .ok (.getfield 151, 3) := by decide +kernel
theorem dX8_tryNow_9 : decode cX8_tryNow 9 = .ok (.if_icmp .ge 34, 3) := by decide +kernel
theorem dX8_tryNow_12 : decode cX8_tryNow 12 = .ok (.iload_n 1, 1) := by decide +kernel
theorem dX8_tryNow_13 : decode cX8_tryNow 13 = .ok (.aload_n 0, 1) := by decide +kernel
theorem dX8_tryNow_14 : decode cX8_tryNow 14 = .ok (.getfield 33, 3) := by decide +kernel
theorem dX8_tryNow_17 : decode cX8_tryNow 17 = .ok (.iload_n 2, 1) := by decide +kernel
theorem dX8_tryNow_18 : decode cX8_tryNow 18 = .ok (.baload, 1) := by decide +kernel
theorem dX8_tryNow_19 : decode cX8_tryNow 19 = .ok (.ifCond .eq 15, 3) := by decide +kernel
theorem dX8_tryNow_22 : decode cX8_tryNow 22 = .ok (.aload_n 0, 1) := by decide +kernel
theorem dX8_tryNow_23 : decode cX8_tryNow 23 = .ok (.iload_n 2, 1) := by decide +kernel
theorem dX8_tryNow_24 : decode cX8_tryNow 24 = .ok (.invokevirtual 427, 3) := by decide +kernel
theorem dX8_tryNow_27 : decode cX8_tryNow 27 = .ok (.ifCond .eq 7, 3) := by decide +kernel
theorem dX8_tryNow_30 : decode cX8_tryNow 30 = .ok (.iconst 1, 1) := by decide +kernel
theorem dX8_tryNow_31 : decode cX8_tryNow 31 = .ok (.goto 4, 3) := by decide +kernel
theorem dX8_tryNow_34 : decode cX8_tryNow 34 = .ok (.iconst 0, 1) := by decide +kernel
theorem dX8_tryNow_35 : decode cX8_tryNow 35 = .ok (.iadd, 1) := by decide +kernel
theorem dX8_tryNow_36 : decode cX8_tryNow 36 = .ok (.istore_n 1, 1) := by decide +kernel
theorem dX8_tryNow_37 : decode cX8_tryNow 37 = .ok (.iinc 2 1, 3) := by decide +kernel
theorem dX8_tryNow_40 : decode cX8_tryNow 40 = .ok (.goto (-36), 3) := by decide +kernel
theorem dX8_tryNow_43 : decode cX8_tryNow 43 = .ok (.aload_n 0, 1) := by decide +kernel
theorem dX8_tryNow_44 : decode cX8_tryNow 44 = .ok (.dup, 1) := by decide +kernel
theorem dX8_tryNow_45 : decode cX8_tryNow 45 = .ok (.getfield 384, 3) := by decide +kernel
theorem dX8_tryNow_48 : decode cX8_tryNow 48 = .ok (.iconst 1, 1) := by decide +kernel
theorem dX8_tryNow_49 : decode cX8_tryNow 49 = .ok (.iadd, 1) := by decide +kernel
theorem dX8_tryNow_50 : decode cX8_tryNow 50 = .ok (.putfield 384, 3) := by decide +kernel
theorem dX8_tryNow_53 : decode cX8_tryNow 53 = .ok (.iload_n 1, 1) := by decide +kernel
theorem dX8_tryNow_54 : decode cX8_tryNow 54 = .ok (.ireturn, 1) := by decide +kernel
theorem dX8_run_0 : decode cX8_run 0 = .ok (.iload_n 1, 1) := by decide +kernel
theorem dX8_run_1 : decode cX8_run 1 = .ok (.ifCond .lt 22, 3) := by decide +kernel
theorem dX8_run_4 : decode cX8_run 4 = .ok (.iload_n 1, 1) := by decide +kernel
theorem dX8_run_5 : decode cX8_run 5 = .ok (.sipush 400, 3) := by decide +kernel
theorem dX8_run_8 : decode cX8_run 8 = .ok (.if_icmp .gt 15, 3) := by decide +kernel
theorem dX8_run_11 : decode cX8_run 11 = .ok (.aload_n 0, 1) := by decide +kernel
theorem dX8_run_12 : decode cX8_run 12 = .ok (.getfield 381, 3) := by decide +kernel
theorem dX8_run_15 : decode cX8_run 15 = .ok (.iload_n 1, 1) := by decide +kernel
theorem dX8_run_16 : decode cX8_run 16 = .ok (.iadd, 1) := by decide +kernel
theorem dX8_run_17 : decode cX8_run 17 = .ok (.ldc_w 430, 3) := by decide +kernel
theorem dX8_run_20 : decode cX8_run 20 = .ok (.if_icmp .le 5, 3) := by decide +kernel
theorem dX8_run_23 : decode cX8_run 23 = .ok (.iconst (-1), 1) := by decide +kernel
theorem dX8_run_24 : decode cX8_run 24 = .ok (.ireturn, 1) := by decide +kernel
theorem dX8_run_25 : decode cX8_run 25 = .ok (.iconst 0, 1) := by decide +kernel
theorem dX8_run_26 : decode cX8_run 26 = .ok (.istore_n 2, 1) := by decide +kernel
theorem dX8_run_27 : decode cX8_run 27 = .ok (.iconst 0, 1) := by decide +kernel
theorem dX8_run_28 : decode cX8_run 28 = .ok (.istore_n 3, 1) := by decide +kernel
theorem dX8_run_29 : decode cX8_run 29 = .ok (.iload_n 3, 1) := by decide +kernel
theorem dX8_run_30 : decode cX8_run 30 = .ok (.iload_n 1, 1) := by decide +kernel
theorem dX8_run_31 : decode cX8_run 31 = .ok (.if_icmp .ge 17, 3) := by decide +kernel
theorem dX8_run_34 : decode cX8_run 34 = .ok (.iload_n 2, 1) := by decide +kernel
theorem dX8_run_35 : decode cX8_run 35 = .ok (.aload_n 0, 1) := by decide +kernel
theorem dX8_run_36 : decode cX8_run 36 = .ok (.iconst 1, 1) := by decide +kernel
theorem dX8_run_37 : decode cX8_run 37 = .ok (.invokevirtual 431, 3) := by decide +kernel
theorem dX8_run_40 : decode cX8_run 40 = .ok (.iadd, 1) := by decide +kernel
theorem dX8_run_41 : decode cX8_run 41 = .ok (.istore_n 2, 1) := by decide +kernel
theorem dX8_run_42 : decode cX8_run 42 = .ok (.iinc 3 1, 3) := by decide +kernel
theorem dX8_run_45 : decode cX8_run 45 = .ok (.goto (-16), 3) := by decide +kernel
theorem dX8_run_48 : decode cX8_run 48 = .ok (.iload_n 2, 1) := by decide +kernel
theorem dX8_run_49 : decode cX8_run 49 = .ok (.ireturn, 1) := by decide +kernel
theorem dX8_isSeat_0 : decode cX8_isSeat 0 = .ok (.iload_n 1, 1) := by decide +kernel
theorem dX8_isSeat_1 : decode cX8_isSeat 1 = .ok (.ifCond .lt 15, 3) := by decide +kernel
theorem dX8_isSeat_4 : decode cX8_isSeat 4 = .ok (.iload_n 1, 1) := by decide +kernel
theorem dX8_isSeat_5 : decode cX8_isSeat 5 = .ok (.aload_n 0, 1) := by decide +kernel
theorem dX8_isSeat_6 : decode cX8_isSeat 6 = .ok (.getfield 151, 3) := by decide +kernel
theorem dX8_isSeat_9 : decode cX8_isSeat 9 = .ok (.if_icmp .ge 7, 3) := by decide +kernel
theorem dX8_isSeat_12 : decode cX8_isSeat 12 = .ok (.iconst 1, 1) := by decide +kernel
theorem dX8_isSeat_13 : decode cX8_isSeat 13 = .ok (.goto 4, 3) := by decide +kernel
theorem dX8_isSeat_16 : decode cX8_isSeat 16 = .ok (.iconst 0, 1) := by decide +kernel
theorem dX8_isSeat_17 : decode cX8_isSeat 17 = .ok (.ireturn, 1) := by decide +kernel
theorem dX8_seat_0 : decode cX8_seat 0 = .ok (.aload_n 0, 1) := by decide +kernel
theorem dX8_seat_1 : decode cX8_seat 1 = .ok (.iload_n 1, 1) := by decide +kernel
theorem dX8_seat_2 : decode cX8_seat 2 = .ok (.invokevirtual 435, 3) := by decide +kernel
theorem dX8_seat_5 : decode cX8_seat 5 = .ok (.ifCond .ne 5, 3) := by decide +kernel
theorem dX8_seat_8 : decode cX8_seat 8 = .ok (.iconst (-1), 1) := by decide +kernel
theorem dX8_seat_9 : decode cX8_seat 9 = .ok (.ireturn, 1) := by decide +kernel
theorem dX8_seat_10 : decode cX8_seat 10 = .ok (.iload_n 2, 1) := by decide +kernel
theorem dX8_seat_11 : decode cX8_seat 11 = .ok (.tableswitch 86 0 3 #[29, 36, 43, 71], 29) := by decide +kernel
theorem dX8_seat_40 : decode cX8_seat 40 = .ok (.aload_n 0, 1) := by decide +kernel
theorem dX8_seat_41 : decode cX8_seat 41 = .ok (.getfield 72, 3) := by decide +kernel
theorem dX8_seat_44 : decode cX8_seat 44 = .ok (.iload_n 1, 1) := by decide +kernel
theorem dX8_seat_45 : decode cX8_seat 45 = .ok (.iaload, 1) := by decide +kernel
theorem dX8_seat_46 : decode cX8_seat 46 = .ok (.ireturn, 1) := by decide +kernel
theorem dX8_seat_47 : decode cX8_seat 47 = .ok (.aload_n 0, 1) := by decide +kernel
theorem dX8_seat_48 : decode cX8_seat 48 = .ok (.getfield 75, 3) := by decide +kernel
theorem dX8_seat_51 : decode cX8_seat 51 = .ok (.iload_n 1, 1) := by decide +kernel
theorem dX8_seat_52 : decode cX8_seat 52 = .ok (.iaload, 1) := by decide +kernel
theorem dX8_seat_53 : decode cX8_seat 53 = .ok (.ireturn, 1) := by decide +kernel
theorem dX8_seat_54 : decode cX8_seat 54 = .ok (.aload_n 0, 1) := by decide +kernel
theorem dX8_seat_55 : decode cX8_seat 55 = .ok (.getfield 30, 3) := by decide +kernel
theorem dX8_seat_58 : decode cX8_seat 58 = .ok (.iload_n 1, 1) := by decide +kernel
theorem dX8_seat_59 : decode cX8_seat 59 = .ok (.baload, 1) := by decide +kernel
theorem dX8_seat_60 : decode cX8_seat 60 = .ok (.ifCond .eq 7, 3) := by decide +kernel
theorem dX8_seat_63 : decode cX8_seat 63 = .ok (.iconst 2, 1) := by decide +kernel
theorem dX8_seat_64 : decode cX8_seat 64 = .ok (.goto 17, 3) := by decide +kernel
theorem dX8_seat_67 : decode cX8_seat 67 = .ok (.aload_n 0, 1) := by decide +kernel
theorem dX8_seat_68 : decode cX8_seat 68 = .ok (.getfield 27, 3) := by decide +kernel
theorem dX8_seat_71 : decode cX8_seat 71 = .ok (.iload_n 1, 1) := by decide +kernel
theorem dX8_seat_72 : decode cX8_seat 72 = .ok (.baload, 1) := by decide +kernel
theorem dX8_seat_73 : decode cX8_seat 73 = .ok (.ifCond .eq 7, 3) := by decide +kernel
theorem dX8_seat_76 : decode cX8_seat 76 = .ok (.iconst 1, 1) := by decide +kernel
theorem dX8_seat_77 : decode cX8_seat 77 = .ok (.goto 4, 3) := by decide +kernel
theorem dX8_seat_80 : decode cX8_seat 80 = .ok (.iconst 0, 1) := by decide +kernel
theorem dX8_seat_81 : decode cX8_seat 81 = .ok (.ireturn, 1) := by decide +kernel
theorem dX8_seat_82 : decode cX8_seat 82 = .ok (.aload_n 0, 1) := by decide +kernel
theorem dX8_seat_83 : decode cX8_seat 83 = .ok (.getfield 33, 3) := by decide +kernel
theorem dX8_seat_86 : decode cX8_seat 86 = .ok (.iload_n 1, 1) := by decide +kernel
theorem dX8_seat_87 : decode cX8_seat 87 = .ok (.baload, 1) := by decide +kernel
theorem dX8_seat_88 : decode cX8_seat 88 = .ok (.ifCond .eq 7, 3) := by decide +kernel
theorem dX8_seat_91 : decode cX8_seat 91 = .ok (.iconst 1, 1) := by decide +kernel
theorem dX8_seat_92 : decode cX8_seat 92 = .ok (.goto 4, 3) := by decide +kernel
theorem dX8_seat_95 : decode cX8_seat 95 = .ok (.iconst 0, 1) := by decide +kernel
theorem dX8_seat_96 : decode cX8_seat 96 = .ok (.ireturn, 1) := by decide +kernel
theorem dX8_seat_97 : decode cX8_seat 97 = .ok (.iconst (-1), 1) := by decide +kernel
theorem dX8_seat_98 : decode cX8_seat 98 = .ok (.ireturn, 1) := by decide +kernel
theorem dX8_wouldRise_0 : decode cX8_wouldRise 0 = .ok (.aload_n 0, 1) := by decide +kernel
theorem dX8_wouldRise_1 : decode cX8_wouldRise 1 = .ok (.invokevirtual 414, 3) := by decide +kernel
theorem dX8_wouldRise_4 : decode cX8_wouldRise 4 = .ok (.istore_n 1, 1) := by decide +kernel
theorem dX8_wouldRise_5 : decode cX8_wouldRise 5 = .ok (.iconst 0, 1) := by decide +kernel
theorem dX8_wouldRise_6 : decode cX8_wouldRise 6 = .ok (.istore_n 2, 1) := by decide +kernel
theorem dX8_wouldRise_7 : decode cX8_wouldRise 7 = .ok (.iconst 0, 1) := by decide +kernel
theorem dX8_wouldRise_8 : decode cX8_wouldRise 8 = .ok (.istore_n 3, 1) := by decide +kernel
theorem dX8_wouldRise_9 : decode cX8_wouldRise 9 = .ok (.iload_n 3, 1) := by decide +kernel
theorem dX8_wouldRise_10 : decode cX8_wouldRise 10 = .ok (.aload_n 0, 1) := by decide +kernel
theorem dX8_wouldRise_11 : decode cX8_wouldRise 11 = .ok (.getfield 151, 3) := by decide +kernel
theorem dX8_wouldRise_14 : decode cX8_wouldRise 14 = .ok (.if_icmp .ge 26, 3) := by decide +kernel
theorem dX8_wouldRise_17 : decode cX8_wouldRise 17 = .ok (.iload_n 2, 1) := by decide +kernel
theorem dX8_wouldRise_18 : decode cX8_wouldRise 18 = .ok (.aload_n 0, 1) := by decide +kernel
theorem dX8_wouldRise_19 : decode cX8_wouldRise 19 = .ok (.iload_n 3, 1) := by decide +kernel
theorem dX8_wouldRise_20 : decode cX8_wouldRise 20 = .ok (.iload_n 1, 1) := by decide +kernel
theorem dX8_wouldRise_21 : decode cX8_wouldRise 21 = .ok (.invokevirtual 417, 3) := by decide +kernel
theorem dX8_wouldRise_24 : decode cX8_wouldRise 24 = .ok (.ifCond .eq 7, 3) := by decide +kernel
theorem dX8_wouldRise_27 : decode cX8_wouldRise 27 = .ok (.iconst 1, 1) := by decide +kernel
theorem dX8_wouldRise_28 : decode cX8_wouldRise 28 = .ok (.goto 4, 3) := by decide +kernel
theorem dX8_wouldRise_31 : decode cX8_wouldRise 31 = .ok (.iconst 0, 1) := by decide +kernel
theorem dX8_wouldRise_32 : decode cX8_wouldRise 32 = .ok (.iadd, 1) := by decide +kernel
theorem dX8_wouldRise_33 : decode cX8_wouldRise 33 = .ok (.istore_n 2, 1) := by decide +kernel
theorem dX8_wouldRise_34 : decode cX8_wouldRise 34 = .ok (.iinc 3 1, 3) := by decide +kernel
theorem dX8_wouldRise_37 : decode cX8_wouldRise 37 = .ok (.goto (-28), 3) := by decide +kernel
theorem dX8_wouldRise_40 : decode cX8_wouldRise 40 = .ok (.iload_n 2, 1) := by decide +kernel
theorem dX8_wouldRise_41 : decode cX8_wouldRise 41 = .ok (.ireturn, 1) := by decide +kernel
theorem dX8_would_0 : decode cX8_would 0 = .ok (.aload_n 0, 1) := by decide +kernel
theorem dX8_would_1 : decode cX8_would 1 = .ok (.invokevirtual 438, 3) := by decide +kernel
theorem dX8_would_4 : decode cX8_would 4 = .ok (.ireturn, 1) := by decide +kernel
theorem dX8_way_0 : decode cX8_way 0 = .ok (.iload_n 1, 1) := by decide +kernel
theorem dX8_way_1 : decode cX8_way 1 = .ok (.ifCond .lt 8, 3) := by decide +kernel
theorem dX8_way_4 : decode cX8_way 4 = .ok (.iload_n 1, 1) := by decide +kernel
theorem dX8_way_5 : decode cX8_way 5 = .ok (.iconst 2, 1) := by decide +kernel
theorem dX8_way_6 : decode cX8_way 6 = .ok (.if_icmp .le 7, 3) := by decide +kernel
theorem dX8_way_9 : decode cX8_way 9 = .ok (.iconst (-1), 1) := by decide +kernel
theorem dX8_way_10 : decode cX8_way 10 = .ok (.goto 9, 3) := by decide +kernel
theorem dX8_way_13 : decode cX8_way 13 = .ok (.aload_n 0, 1) := by decide +kernel
theorem dX8_way_14 : decode cX8_way 14 = .ok (.getfield 87, 3) := by decide +kernel
theorem dX8_way_17 : decode cX8_way 17 = .ok (.iload_n 1, 1) := by decide +kernel
theorem dX8_way_18 : decode cX8_way 18 = .ok (.iaload, 1) := by decide +kernel
theorem dX8_way_19 : decode cX8_way 19 = .ok (.ireturn, 1) := by decide +kernel
theorem dX8_wide_0 : decode cX8_wide 0 = .ok (.iconst 0, 1) := by decide +kernel
theorem dX8_wide_1 : decode cX8_wide 1 = .ok (.istore_n 1, 1) := by decide +kernel
theorem dX8_wide_2 : decode cX8_wide 2 = .ok (.iconst 0, 1) := by decide +kernel
theorem dX8_wide_3 : decode cX8_wide 3 = .ok (.istore_n 2, 1) := by decide +kernel
theorem dX8_wide_4 : decode cX8_wide 4 = .ok (.iconst 0, 1) := by decide +kernel
theorem dX8_wide_5 : decode cX8_wide 5 = .ok (.istore_n 3, 1) := by decide +kernel
theorem dX8_wide_6 : decode cX8_wide 6 = .ok (.iload_n 3, 1) := by decide +kernel
theorem dX8_wide_7 : decode cX8_wide 7 = .ok (.iconst 2, 1) := by decide +kernel
theorem dX8_wide_8 : decode cX8_wide 8 = .ok (.aload_n 0, 1) := by decide +kernel
theorem dX8_wide_9 : decode cX8_wide 9 = .ok (.getfield 151, 3) := by decide +kernel
theorem dX8_wide_12 : decode cX8_wide 12 = .ok (.imul, 1) := by decide +kernel
theorem dX8_wide_13 : decode cX8_wide 13 = .ok (.if_icmp .ge 45, 3) := by decide +kernel
theorem dX8_wide_16 : decode cX8_wide 16 = .ok (.aload_n 0, 1) := by decide +kernel
theorem dX8_wide_17 : decode cX8_wide 17 = .ok (.getfield 72, 3) := by decide +kernel
theorem dX8_wide_20 : decode cX8_wide 20 = .ok (.iload_n 3, 1) := by decide +kernel
theorem dX8_wide_21 : decode cX8_wide 21 = .ok (.aload_n 0, 1) := by decide +kernel
theorem dX8_wide_22 : decode cX8_wide 22 = .ok (.getfield 151, 3) := by decide +kernel
theorem dX8_wide_25 : decode cX8_wide 25 = .ok (.irem, 1) := by decide +kernel
theorem dX8_wide_26 : decode cX8_wide 26 = .ok (.iaload, 1) := by decide +kernel
theorem dX8_wide_27 : decode cX8_wide 27 = .ok (.invokestatic 393, 3) := by decide +kernel
theorem dX8_wide_30 : decode cX8_wide 30 = .ok (.ifCond .eq 9, 3) := by decide +kernel
theorem dX8_wide_33 : decode cX8_wide 33 = .ok (.iload_n 2, 1) := by decide +kernel
theorem dX8_wide_34 : decode cX8_wide 34 = .ok (.iconst 1, 1) := by decide +kernel
theorem dX8_wide_35 : decode cX8_wide 35 = .ok (.iadd, 1) := by decide +kernel
theorem dX8_wide_36 : decode cX8_wide 36 = .ok (.goto 4, 3) := by decide +kernel
theorem dX8_wide_39 : decode cX8_wide 39 = .ok (.iconst 0, 1) := by decide +kernel
theorem dX8_wide_40 : decode cX8_wide 40 = .ok (.istore_n 2, 1) := by decide +kernel
theorem dX8_wide_41 : decode cX8_wide 41 = .ok (.iload_n 2, 1) := by decide +kernel
theorem dX8_wide_42 : decode cX8_wide 42 = .ok (.iload_n 1, 1) := by decide +kernel
theorem dX8_wide_43 : decode cX8_wide 43 = .ok (.if_icmp .le 7, 3) := by decide +kernel
theorem dX8_wide_46 : decode cX8_wide 46 = .ok (.iload_n 2, 1) := by decide +kernel
theorem dX8_wide_47 : decode cX8_wide 47 = .ok (.goto 4, 3) := by decide +kernel
theorem dX8_wide_50 : decode cX8_wide 50 = .ok (.iload_n 1, 1) := by decide +kernel
theorem dX8_wide_51 : decode cX8_wide 51 = .ok (.istore_n 1, 1) := by decide +kernel
theorem dX8_wide_52 : decode cX8_wide 52 = .ok (.iinc 3 1, 3) := by decide +kernel
theorem dX8_wide_55 : decode cX8_wide 55 = .ok (.goto (-49), 3) := by decide +kernel
theorem dX8_wide_58 : decode cX8_wide 58 = .ok (.iload_n 1, 1) := by decide +kernel
theorem dX8_wide_59 : decode cX8_wide 59 = .ok (.aload_n 0, 1) := by decide +kernel
theorem dX8_wide_60 : decode cX8_wide 60 = .ok (.getfield 151, 3) := by decide +kernel
theorem dX8_wide_63 : decode cX8_wide 63 = .ok (.if_icmp .le 10, 3) := by decide +kernel
theorem dX8_wide_66 : decode cX8_wide 66 = .ok (.aload_n 0, 1) := by decide +kernel
theorem dX8_wide_67 : decode cX8_wide 67 = .ok (.getfield 151, 3) := by decide +kernel
theorem dX8_wide_70 : decode cX8_wide 70 = .ok (.goto 4, 3) := by decide +kernel
theorem dX8_wide_73 : decode cX8_wide 73 = .ok (.iload_n 1, 1) := by decide +kernel
theorem dX8_wide_74 : decode cX8_wide 74 = .ok (.ireturn, 1) := by decide +kernel
theorem dX8_waveMany_0 : decode cX8_waveMany 0 = .ok (.iconst 0, 1) := by decide +kernel
theorem dX8_waveMany_1 : decode cX8_waveMany 1 = .ok (.istore_n 1, 1) := by decide +kernel
theorem dX8_waveMany_2 : decode cX8_waveMany 2 = .ok (.iconst 0, 1) := by decide +kernel
theorem dX8_waveMany_3 : decode cX8_waveMany 3 = .ok (.istore_n 2, 1) := by decide +kernel
theorem dX8_waveMany_4 : decode cX8_waveMany 4 = .ok (.iload_n 2, 1) := by decide +kernel
theorem dX8_waveMany_5 : decode cX8_waveMany 5 = .ok (.aload_n 0, 1) := by decide +kernel
theorem dX8_waveMany_6 : decode cX8_waveMany 6 = .ok (.getfield 151, 3) := by decide +kernel
theorem dX8_waveMany_9 : decode cX8_waveMany 9 = .ok (.if_icmp .ge 47, 3) := by decide +kernel
theorem dX8_waveMany_12 : decode cX8_waveMany 12 = .ok (.iload_n 1, 1) := by decide +kernel
theorem dX8_waveMany_13 : decode cX8_waveMany 13 = .ok (.aload_n 0, 1) := by decide +kernel
theorem dX8_waveMany_14 : decode cX8_waveMany 14 = .ok (.getfield 72, 3) := by decide +kernel
theorem dX8_waveMany_17 : decode cX8_waveMany 17 = .ok (.iload_n 2, 1) := by decide +kernel
theorem dX8_waveMany_18 : decode cX8_waveMany 18 = .ok (.iaload, 1) := by decide +kernel
theorem dX8_waveMany_19 : decode cX8_waveMany 19 = .ok (.invokestatic 393, 3) := by decide +kernel
theorem dX8_waveMany_22 : decode cX8_waveMany 22 = .ok (.ifCond .eq 25, 3) := by decide +kernel
theorem dX8_waveMany_25 : decode cX8_waveMany 25 = .ok (.aload_n 0, 1) := by decide +kernel
theorem dX8_waveMany_26 : decode cX8_waveMany 26 = .ok (.getfield 72, 3) := by decide +kernel
theorem dX8_waveMany_29 : decode cX8_waveMany 29 = .ok (.aload_n 0, 1) := by decide +kernel
theorem dX8_waveMany_30 : decode cX8_waveMany 30 = .ok (.iload_n 2, 1) := by decide +kernel
theorem dX8_waveMany_31 : decode cX8_waveMany 31 = .ok (.iconst 1, 1) := by decide +kernel
theorem dX8_waveMany_32 : decode cX8_waveMany 32 = .ok (.isub, 1) := by decide +kernel
theorem dX8_waveMany_33 : decode cX8_waveMany 33 = .ok (.invokevirtual 396, 3) := by decide +kernel
theorem dX8_waveMany_36 : decode cX8_waveMany 36 = .ok (.iaload, 1) := by decide +kernel
theorem dX8_waveMany_37 : decode cX8_waveMany 37 = .ok (.invokestatic 393, 3) := by decide +kernel
theorem dX8_waveMany_40 : decode cX8_waveMany 40 = .ok (.ifCond .ne 7, 3) := by decide +kernel
theorem dX8_waveMany_43 : decode cX8_waveMany 43 = .ok (.iconst 1, 1) := by decide +kernel
theorem dX8_waveMany_44 : decode cX8_waveMany 44 = .ok (.goto 4, 3) := by decide +kernel
theorem dX8_waveMany_47 : decode cX8_waveMany 47 = .ok (.iconst 0, 1) := by decide +kernel
theorem dX8_waveMany_48 : decode cX8_waveMany 48 = .ok (.iadd, 1) := by decide +kernel
theorem dX8_waveMany_49 : decode cX8_waveMany 49 = .ok (.istore_n 1, 1) := by decide +kernel
theorem dX8_waveMany_50 : decode cX8_waveMany 50 = .ok (.iinc 2 1, 3) := by decide +kernel
theorem dX8_waveMany_53 : decode cX8_waveMany 53 = .ok (.goto (-49), 3) := by decide +kernel
theorem dX8_waveMany_56 : decode cX8_waveMany 56 = .ok (.iload_n 1, 1) := by decide +kernel
theorem dX8_waveMany_57 : decode cX8_waveMany 57 = .ok (.ifCond .ne 19, 3) := by decide +kernel
theorem dX8_waveMany_60 : decode cX8_waveMany 60 = .ok (.aload_n 0, 1) := by decide +kernel
theorem dX8_waveMany_61 : decode cX8_waveMany 61 = .ok (.getfield 72, 3) := by decide +kernel
theorem dX8_waveMany_64 : decode cX8_waveMany 64 = .ok (.iconst 0, 1) := by decide +kernel
theorem dX8_waveMany_65 : decode cX8_waveMany 65 = .ok (.iaload, 1) := by decide +kernel
theorem dX8_waveMany_66 : decode cX8_waveMany 66 = .ok (.invokestatic 393, 3) := by decide +kernel
theorem dX8_waveMany_69 : decode cX8_waveMany 69 = .ok (.ifCond .eq 7, 3) := by decide +kernel
theorem dX8_waveMany_72 : decode cX8_waveMany 72 = .ok (.iconst 1, 1) := by decide +kernel
theorem dX8_waveMany_73 : decode cX8_waveMany 73 = .ok (.goto 4, 3) := by decide +kernel
theorem dX8_waveMany_76 : decode cX8_waveMany 76 = .ok (.iload_n 1, 1) := by decide +kernel
theorem dX8_waveMany_77 : decode cX8_waveMany 77 = .ok (.ireturn, 1) := by decide +kernel
theorem dX8_waves_0 : decode cX8_waves 0 = .ok (.aload_n 0, 1) := by decide +kernel
theorem dX8_waves_1 : decode cX8_waves 1 = .ok (.invokevirtual 441, 3) := by decide +kernel
theorem dX8_waves_4 : decode cX8_waves 4 = .ok (.ireturn, 1) := by decide +kernel
theorem dX8_till_0 : decode cX8_till 0 = .ok (.aload_n 0, 1) := by decide +kernel
theorem dX8_till_1 : decode cX8_till 1 = .ok (.iload_n 1, 1) := by decide +kernel
theorem dX8_till_2 : decode cX8_till 2 = .ok (.invokevirtual 435, 3) := by decide +kernel
theorem dX8_till_5 : decode cX8_till 5 = .ok (.ifCond .eq 14, 3) := by decide +kernel
theorem dX8_till_8 : decode cX8_till 8 = .ok (.iload_n 2, 1) := by decide +kernel
theorem dX8_till_9 : decode cX8_till 9 = .ok (.iconst 1, 1) := by decide +kernel
theorem dX8_till_10 : decode cX8_till 10 = .ok (.if_icmp .lt 9, 3) := by decide +kernel
theorem dX8_till_13 : decode cX8_till 13 = .ok (.iload_n 2, 1) := by decide +kernel
theorem dX8_till_14 : decode cX8_till 14 = .ok (.bipush 9, 2) := by decide +kernel
theorem dX8_till_16 : decode cX8_till 16 = .ok (.if_icmp .le 5, 3) := by decide +kernel
theorem dX8_till_19 : decode cX8_till 19 = .ok (.iconst (-1), 1) := by decide +kernel
theorem dX8_till_20 : decode cX8_till 20 = .ok (.ireturn, 1) := by decide +kernel
theorem dX8_till_21 : decode cX8_till 21 = .ok (.aload_n 0, 1) := by decide +kernel
theorem dX8_till_22 : decode cX8_till 22 = .ok (.invokevirtual 444, 3) := by decide +kernel
theorem dX8_till_25 : decode cX8_till 25 = .ok (.iconst 0, 1) := by decide +kernel
theorem dX8_till_26 : decode cX8_till 26 = .ok (.istore_n 3, 1) := by decide +kernel
theorem dX8_till_27 : decode cX8_till 27 = .ok (.aload_n 0, 1) := by decide +kernel
theorem dX8_till_28 : decode cX8_till 28 = .ok (.getfield 75, 3) := by decide +kernel
theorem dX8_till_31 : decode cX8_till 31 = .ok (.iload_n 1, 1) := by decide +kernel
theorem dX8_till_32 : decode cX8_till 32 = .ok (.iaload, 1) := by decide +kernel
theorem dX8_till_33 : decode cX8_till 33 = .ok (.iload_n 2, 1) := by decide +kernel
theorem dX8_till_34 : decode cX8_till 34 = .ok (.iadd, 1) := by decide +kernel
theorem dX8_till_35 : decode cX8_till 35 = .ok (.istore 4, 2) := by decide +kernel
theorem dX8_till_37 : decode cX8_till 37 = .ok (.iconst 0, 1) := by decide +kernel
theorem dX8_till_38 : decode cX8_till 38 = .ok (.istore 5, 2) := by decide +kernel
theorem dX8_till_40 : decode cX8_till 40 = .ok (.iload_n 3, 1) := by decide +kernel
theorem dX8_till_41 : decode cX8_till 41 = .ok (.sipush 400, 3) := by decide +kernel
theorem dX8_till_44 : decode cX8_till 44 = .ok (.if_icmp .ge 27, 3) := by decide +kernel
theorem dX8_till_47 : decode cX8_till 47 = .ok (.aload_n 0, 1) := by decide +kernel
theorem dX8_till_48 : decode cX8_till 48 = .ok (.getfield 75, 3) := by decide +kernel
theorem dX8_till_51 : decode cX8_till 51 = .ok (.iload_n 1, 1) := by decide +kernel
theorem dX8_till_52 : decode cX8_till 52 = .ok (.iaload, 1) := by decide +kernel
theorem dX8_till_53 : decode cX8_till 53 = .ok (.iload 4, 2) := by decide +kernel
theorem dX8_till_55 : decode cX8_till 55 = .ok (.if_icmp .ge 16, 3) := by decide +kernel
theorem dX8_till_58 : decode cX8_till 58 = .ok (.aload_n 0, 1) := by decide +kernel
theorem dX8_till_59 : decode cX8_till 59 = .ok (.iconst 0, 1) := by decide +kernel
theorem dX8_till_60 : decode cX8_till 60 = .ok (.invokevirtual 431, 3) := by decide +kernel
theorem dX8_till_63 : decode cX8_till 63 = .ok (.istore 5, 2) := by decide +kernel
theorem dX8_till_65 : decode cX8_till 65 = .ok (.iinc 3 1, 3) := by decide +kernel
theorem dX8_till_68 : decode cX8_till 68 = .ok (.goto (-28), 3) := by decide +kernel
theorem dX8_till_71 : decode cX8_till 71 = .ok (.aload_n 0, 1) := by decide +kernel
theorem dX8_till_72 : decode cX8_till 72 = .ok (.getfield 75, 3) := by decide +kernel
theorem dX8_till_75 : decode cX8_till 75 = .ok (.iload_n 1, 1) := by decide +kernel
theorem dX8_till_76 : decode cX8_till 76 = .ok (.iaload, 1) := by decide +kernel
theorem dX8_till_77 : decode cX8_till 77 = .ok (.iload 4, 2) := by decide +kernel
theorem dX8_till_79 : decode cX8_till 79 = .ok (.if_icmp .lt 7, 3) := by decide +kernel
theorem dX8_till_82 : decode cX8_till 82 = .ok (.iconst 1, 1) := by decide +kernel
theorem dX8_till_83 : decode cX8_till 83 = .ok (.goto 4, 3) := by decide +kernel
theorem dX8_till_86 : decode cX8_till 86 = .ok (.iconst 0, 1) := by decide +kernel
theorem dX8_till_87 : decode cX8_till 87 = .ok (.istore 6, 2) := by decide +kernel
theorem dX8_till_89 : decode cX8_till 89 = .ok (.aload_n 0, 1) := by decide +kernel
theorem dX8_till_90 : decode cX8_till 90 = .ok (.invokevirtual 447, 3) := by decide +kernel
theorem dX8_till_93 : decode cX8_till 93 = .ok (.iload 6, 2) := by decide +kernel
theorem dX8_till_95 : decode cX8_till 95 = .ok (.ifCond .eq 7, 3) := by decide +kernel
theorem dX8_till_98 : decode cX8_till 98 = .ok (.iload_n 3, 1) := by decide +kernel
theorem dX8_till_99 : decode cX8_till 99 = .ok (.goto 4, 3) := by decide +kernel
theorem dX8_till_102 : decode cX8_till 102 = .ok (.iconst (-1), 1) := by decide +kernel
theorem dX8_till_103 : decode cX8_till 103 = .ok (.ireturn, 1) := by decide +kernel
theorem dX8_dies_0 : decode cX8_dies 0 = .ok (.aload_n 0, 1) := by decide +kernel
theorem dX8_dies_1 : decode cX8_dies 1 = .ok (.invokevirtual 444, 3) := by decide +kernel
theorem dX8_dies_4 : decode cX8_dies 4 = .ok (.iconst 0, 1) := by decide +kernel
theorem dX8_dies_5 : decode cX8_dies 5 = .ok (.istore_n 1, 1) := by decide +kernel
theorem dX8_dies_6 : decode cX8_dies 6 = .ok (.iconst 0, 1) := by decide +kernel
theorem dX8_dies_7 : decode cX8_dies 7 = .ok (.istore_n 2, 1) := by decide +kernel
theorem dX8_dies_8 : decode cX8_dies 8 = .ok (.iload_n 1, 1) := by decide +kernel
theorem dX8_dies_9 : decode cX8_dies 9 = .ok (.sipush 400, 3) := by decide +kernel
theorem dX8_dies_12 : decode cX8_dies 12 = .ok (.if_icmp .ge 22, 3) := by decide +kernel
theorem dX8_dies_15 : decode cX8_dies 15 = .ok (.aload_n 0, 1) := by decide +kernel
theorem dX8_dies_16 : decode cX8_dies 16 = .ok (.invokevirtual 414, 3) := by decide +kernel
theorem dX8_dies_19 : decode cX8_dies 19 = .ok (.ifCond .le 15, 3) := by decide +kernel
theorem dX8_dies_22 : decode cX8_dies 22 = .ok (.aload_n 0, 1) := by decide +kernel
theorem dX8_dies_23 : decode cX8_dies 23 = .ok (.iconst 0, 1) := by decide +kernel
theorem dX8_dies_24 : decode cX8_dies 24 = .ok (.invokevirtual 431, 3) := by decide +kernel
theorem dX8_dies_27 : decode cX8_dies 27 = .ok (.istore_n 2, 1) := by decide +kernel
theorem dX8_dies_28 : decode cX8_dies 28 = .ok (.iinc 1 1, 3) := by decide +kernel
theorem dX8_dies_31 : decode cX8_dies 31 = .ok (.goto (-23), 3) := by decide +kernel
theorem dX8_dies_34 : decode cX8_dies 34 = .ok (.aload_n 0, 1) := by decide +kernel
theorem dX8_dies_35 : decode cX8_dies 35 = .ok (.invokevirtual 414, 3) := by decide +kernel
theorem dX8_dies_38 : decode cX8_dies 38 = .ok (.ifCond .ne 7, 3) := by decide +kernel
theorem dX8_dies_41 : decode cX8_dies 41 = .ok (.iconst 1, 1) := by decide +kernel
theorem dX8_dies_42 : decode cX8_dies 42 = .ok (.goto 4, 3) := by decide +kernel
theorem dX8_dies_45 : decode cX8_dies 45 = .ok (.iconst 0, 1) := by decide +kernel
theorem dX8_dies_46 : decode cX8_dies 46 = .ok (.istore_n 3, 1) := by decide +kernel
theorem dX8_dies_47 : decode cX8_dies 47 = .ok (.aload_n 0, 1) := by decide +kernel
theorem dX8_dies_48 : decode cX8_dies 48 = .ok (.invokevirtual 447, 3) := by decide +kernel
theorem dX8_dies_51 : decode cX8_dies 51 = .ok (.iload_n 3, 1) := by decide +kernel
theorem dX8_dies_52 : decode cX8_dies 52 = .ok (.ifCond .eq 7, 3) := by decide +kernel
theorem dX8_dies_55 : decode cX8_dies 55 = .ok (.iload_n 1, 1) := by decide +kernel
theorem dX8_dies_56 : decode cX8_dies 56 = .ok (.goto 4, 3) := by decide +kernel
theorem dX8_dies_59 : decode cX8_dies 59 = .ok (.iconst (-1), 1) := by decide +kernel
theorem dX8_dies_60 : decode cX8_dies 60 = .ok (.ireturn, 1) := by decide +kernel
theorem dX8_start_0 : decode cX8_start 0 = .ok (.iconst 0, 1) := by decide +kernel
theorem dX8_start_1 : decode cX8_start 1 = .ok (.istore_n 3, 1) := by decide +kernel
theorem dX8_start_2 : decode cX8_start 2 = .ok (.iconst 0, 1) := by decide +kernel
theorem dX8_start_3 : decode cX8_start 3 = .ok (.istore 4, 2) := by decide +kernel
theorem dX8_start_5 : decode cX8_start 5 = .ok (.iload 4, 2) := by decide +kernel
theorem dX8_start_7 : decode cX8_start 7 = .ok (.iload_n 2, 1) := by decide +kernel
theorem dX8_start_8 : decode cX8_start 8 = .ok (.if_icmp .ge 22, 3) := by decide +kernel
theorem dX8_start_11 : decode cX8_start 11 = .ok (.aload_n 0, 1) := by decide +kernel
theorem dX8_start_12 : decode cX8_start 12 = .ok (.aload_n 0, 1) := by decide +kernel
theorem dX8_start_13 : decode cX8_start 13 = .ok (.iload_n 1, 1) := by decide +kernel
theorem dX8_start_14 : decode cX8_start 14 = .ok (.iload 4, 2) := by decide +kernel
theorem dX8_start_16 : decode cX8_start 16 = .ok (.iadd, 1) := by decide +kernel
theorem dX8_start_17 : decode cX8_start 17 = .ok (.invokevirtual 396, 3) := by decide +kernel
theorem dX8_start_20 : decode cX8_start 20 = .ok (.invokevirtual 427, 3) := by decide +kernel
theorem dX8_start_23 : decode cX8_start 23 = .ok (.istore_n 3, 1) := by decide +kernel
theorem dX8_start_24 : decode cX8_start 24 = .ok (.iinc 4 1, 3) := by decide +kernel
theorem dX8_start_27 : decode cX8_start 27 = .ok (.goto (-22), 3) := by decide +kernel
theorem dX8_start_30 : decode cX8_start 30 = .ok (.return_, 1) := by decide +kernel
theorem dX8_life_0 : decode cX8_life 0 = .ok (.iconst 0, 1) := by decide +kernel
theorem dX8_life_1 : decode cX8_life 1 = .ok (.istore_n 1, 1) := by decide +kernel
theorem dX8_life_2 : decode cX8_life 2 = .ok (.iconst 0, 1) := by decide +kernel
theorem dX8_life_3 : decode cX8_life 3 = .ok (.istore_n 2, 1) := by decide +kernel
theorem dX8_life_4 : decode cX8_life 4 = .ok (.iload_n 1, 1) := by decide +kernel
theorem dX8_life_5 : decode cX8_life 5 = .ok (.sipush 200, 3) := by decide +kernel
theorem dX8_life_8 : decode cX8_life 8 = .ok (.if_icmp .ge 22, 3) := by decide +kernel
theorem dX8_life_11 : decode cX8_life 11 = .ok (.aload_n 0, 1) := by decide +kernel
theorem dX8_life_12 : decode cX8_life 12 = .ok (.invokevirtual 414, 3) := by decide +kernel
theorem dX8_life_15 : decode cX8_life 15 = .ok (.ifCond .le 15, 3) := by decide +kernel
theorem dX8_life_18 : decode cX8_life 18 = .ok (.aload_n 0, 1) := by decide +kernel
theorem dX8_life_19 : decode cX8_life 19 = .ok (.iconst 0, 1) := by decide +kernel
theorem dX8_life_20 : decode cX8_life 20 = .ok (.invokevirtual 431, 3) := by decide +kernel
theorem dX8_life_23 : decode cX8_life 23 = .ok (.istore_n 2, 1) := by decide +kernel
theorem dX8_life_24 : decode cX8_life 24 = .ok (.iinc 1 1, 3) := by decide +kernel
theorem dX8_life_27 : decode cX8_life 27 = .ok (.goto (-23), 3) := by decide +kernel
theorem dX8_life_30 : decode cX8_life 30 = .ok (.iload_n 1, 1) := by decide +kernel
end
section
theorem dX8_life_31 : decode cX8_life 31 = .ok (.ireturn, 1) := by decide +kernel
theorem dX8_livesBy_0 : decode cX8_livesBy 0 = .ok (.aload_n 0, 1) := by decide +kernel
theorem dX8_livesBy_1 : decode cX8_livesBy 1 = .ok (.invokevirtual 444, 3) := by decide +kernel
theorem dX8_livesBy_4 : decode cX8_livesBy 4 = .ok (.aload_n 0, 1) := by decide +kernel
theorem dX8_livesBy_5 : decode cX8_livesBy 5 = .ok (.invokevirtual 157, 3) := by decide +kernel
theorem dX8_livesBy_8 : decode cX8_livesBy 8 = .ok (.aload_n 0, 1) := by decide +kernel
theorem dX8_livesBy_9 : decode cX8_livesBy 9 = .ok (.iload_n 1, 1) := by decide +kernel
theorem dX8_livesBy_10 : decode cX8_livesBy 10 = .ok (.iload_n 2, 1) := by decide +kernel
theorem dX8_livesBy_11 : decode cX8_livesBy 11 = .ok (.invokevirtual 450, 3) := by decide +kernel
theorem dX8_livesBy_14 : decode cX8_livesBy 14 = .ok (.aload_n 0, 1) := by decide +kernel
theorem dX8_livesBy_15 : decode cX8_livesBy 15 = .ok (.iconst 1, 1) := by decide +kernel
theorem dX8_livesBy_16 : decode cX8_livesBy 16 = .ok (.putfield 384, 3) := by decide +kernel
theorem dX8_livesBy_19 : decode cX8_livesBy 19 = .ok (.iconst 0, 1) := by decide +kernel
theorem dX8_livesBy_20 : decode cX8_livesBy 20 = .ok (.istore 5, 2) := by decide +kernel
theorem dX8_livesBy_22 : decode cX8_livesBy 22 = .ok (.iload 5, 2) := by decide +kernel
theorem dX8_livesBy_24 : decode cX8_livesBy 24 = .ok (.iload 4, 2) := by decide +kernel
theorem dX8_livesBy_26 : decode cX8_livesBy 26 = .ok (.if_icmp .ge 23, 3) := by decide +kernel
theorem dX8_livesBy_29 : decode cX8_livesBy 29 = .ok (.aload_n 0, 1) := by decide +kernel
theorem dX8_livesBy_30 : decode cX8_livesBy 30 = .ok (.getfield 93, 3) := by decide +kernel
theorem dX8_livesBy_33 : decode cX8_livesBy 33 = .ok (.aload_n 0, 1) := by decide +kernel
theorem dX8_livesBy_34 : decode cX8_livesBy 34 = .ok (.iload_n 3, 1) := by decide +kernel
theorem dX8_livesBy_35 : decode cX8_livesBy 35 = .ok (.iload 5, 2) := by decide +kernel
theorem dX8_livesBy_37 : decode cX8_livesBy 37 = .ok (.iadd, 1) := by decide +kernel
theorem dX8_livesBy_38 : decode cX8_livesBy 38 = .ok (.invokevirtual 396, 3) := by decide +kernel
theorem dX8_livesBy_41 : decode cX8_livesBy 41 = .ok (.iconst 1, 1) := by decide +kernel
theorem dX8_livesBy_42 : decode cX8_livesBy 42 = .ok (.bastore, 1) := by decide +kernel
theorem dX8_livesBy_43 : decode cX8_livesBy 43 = .ok (.iinc 5 1, 3) := by decide +kernel
theorem dX8_livesBy_46 : decode cX8_livesBy 46 = .ok (.goto (-24), 3) := by decide +kernel
theorem dX8_livesBy_49 : decode cX8_livesBy 49 = .ok (.aload_n 0, 1) := by decide +kernel
theorem dX8_livesBy_50 : decode cX8_livesBy 50 = .ok (.invokevirtual 453, 3) := by decide +kernel
theorem dX8_livesBy_53 : decode cX8_livesBy 53 = .ok (.istore 5, 2) := by decide +kernel
theorem dX8_livesBy_55 : decode cX8_livesBy 55 = .ok (.aload_n 0, 1) := by decide +kernel
theorem dX8_livesBy_56 : decode cX8_livesBy 56 = .ok (.invokevirtual 447, 3) := by decide +kernel
theorem dX8_livesBy_59 : decode cX8_livesBy 59 = .ok (.iload 5, 2) := by decide +kernel
theorem dX8_livesBy_61 : decode cX8_livesBy 61 = .ok (.ireturn, 1) := by decide +kernel
theorem dX8_isMany_0 : decode cX8_isMany 0 = .ok (.iload_n 1, 1) := by decide +kernel
theorem dX8_isMany_1 : decode cX8_isMany 1 = .ok (.iconst 1, 1) := by decide +kernel
theorem dX8_isMany_2 : decode cX8_isMany 2 = .ok (.if_icmp .lt 21, 3) := by decide +kernel
theorem dX8_isMany_5 : decode cX8_isMany 5 = .ok (.iload_n 1, 1) := by decide +kernel
theorem dX8_isMany_6 : decode cX8_isMany 6 = .ok (.bipush 12, 2) := by decide +kernel
theorem dX8_isMany_8 : decode cX8_isMany 8 = .ok (.if_icmp .gt 15, 3) := by decide +kernel
theorem dX8_isMany_11 : decode cX8_isMany 11 = .ok (.iload_n 1, 1) := by decide +kernel
theorem dX8_isMany_12 : decode cX8_isMany 12 = .ok (.aload_n 0, 1) := by decide +kernel
theorem dX8_isMany_13 : decode cX8_isMany 13 = .ok (.getfield 151, 3) := by decide +kernel
theorem dX8_isMany_16 : decode cX8_isMany 16 = .ok (.if_icmp .gt 7, 3) := by decide +kernel
theorem dX8_isMany_19 : decode cX8_isMany 19 = .ok (.iconst 1, 1) := by decide +kernel
theorem dX8_isMany_20 : decode cX8_isMany 20 = .ok (.goto 4, 3) := by decide +kernel
theorem dX8_isMany_23 : decode cX8_isMany 23 = .ok (.iconst 0, 1) := by decide +kernel
theorem dX8_isMany_24 : decode cX8_isMany 24 = .ok (.ireturn, 1) := by decide +kernel
theorem dX8_lives_0 : decode cX8_lives 0 = .ok (.aload_n 0, 1) := by decide +kernel
theorem dX8_lives_1 : decode cX8_lives 1 = .ok (.iload_n 1, 1) := by decide +kernel
theorem dX8_lives_2 : decode cX8_lives 2 = .ok (.invokevirtual 435, 3) := by decide +kernel
theorem dX8_lives_5 : decode cX8_lives 5 = .ok (.ifCond .eq 22, 3) := by decide +kernel
theorem dX8_lives_8 : decode cX8_lives 8 = .ok (.aload_n 0, 1) := by decide +kernel
theorem dX8_lives_9 : decode cX8_lives 9 = .ok (.iload_n 2, 1) := by decide +kernel
theorem dX8_lives_10 : decode cX8_lives 10 = .ok (.invokevirtual 456, 3) := by decide +kernel
theorem dX8_lives_13 : decode cX8_lives 13 = .ok (.ifCond .eq 14, 3) := by decide +kernel
theorem dX8_lives_16 : decode cX8_lives 16 = .ok (.aload_n 0, 1) := by decide +kernel
theorem dX8_lives_17 : decode cX8_lives 17 = .ok (.iload_n 1, 1) := by decide +kernel
theorem dX8_lives_18 : decode cX8_lives 18 = .ok (.iload_n 2, 1) := by decide +kernel
theorem dX8_lives_19 : decode cX8_lives 19 = .ok (.iconst 0, 1) := by decide +kernel
theorem dX8_lives_20 : decode cX8_lives 20 = .ok (.iconst 0, 1) := by decide +kernel
theorem dX8_lives_21 : decode cX8_lives 21 = .ok (.invokevirtual 459, 3) := by decide +kernel
theorem dX8_lives_24 : decode cX8_lives 24 = .ok (.goto 4, 3) := by decide +kernel
theorem dX8_lives_27 : decode cX8_lives 27 = .ok (.iconst (-1), 1) := by decide +kernel
theorem dX8_lives_28 : decode cX8_lives 28 = .ok (.ireturn, 1) := by decide +kernel
theorem dX8_fewest_0 : decode cX8_fewest 0 = .ok (.aload_n 0, 1) := by decide +kernel
theorem dX8_fewest_1 : decode cX8_fewest 1 = .ok (.iload_n 1, 1) := by decide +kernel
theorem dX8_fewest_2 : decode cX8_fewest 2 = .ok (.invokevirtual 435, 3) := by decide +kernel
theorem dX8_fewest_5 : decode cX8_fewest 5 = .ok (.ifCond .ne 5, 3) := by decide +kernel
theorem dX8_fewest_8 : decode cX8_fewest 8 = .ok (.iconst (-1), 1) := by decide +kernel
theorem dX8_fewest_9 : decode cX8_fewest 9 = .ok (.ireturn, 1) := by decide +kernel
theorem dX8_fewest_10 : decode cX8_fewest 10 = .ok (.iconst 1, 1) := by decide +kernel
theorem dX8_fewest_11 : decode cX8_fewest 11 = .ok (.istore_n 2, 1) := by decide +kernel
theorem dX8_fewest_12 : decode cX8_fewest 12 = .ok (.aload_n 0, 1) := by decide +kernel
theorem dX8_fewest_13 : decode cX8_fewest 13 = .ok (.iload_n 2, 1) := by decide +kernel
theorem dX8_fewest_14 : decode cX8_fewest 14 = .ok (.invokevirtual 456, 3) := by decide +kernel
theorem dX8_fewest_17 : decode cX8_fewest 17 = .ok (.ifCond .eq 25, 3) := by decide +kernel
theorem dX8_fewest_20 : decode cX8_fewest 20 = .ok (.aload_n 0, 1) := by decide +kernel
theorem dX8_fewest_21 : decode cX8_fewest 21 = .ok (.iload_n 1, 1) := by decide +kernel
theorem dX8_fewest_22 : decode cX8_fewest 22 = .ok (.iload_n 2, 1) := by decide +kernel
theorem dX8_fewest_23 : decode cX8_fewest 23 = .ok (.iconst 0, 1) := by decide +kernel
theorem dX8_fewest_24 : decode cX8_fewest 24 = .ok (.iconst 0, 1) := by decide +kernel
theorem dX8_fewest_25 : decode cX8_fewest 25 = .ok (.invokevirtual 459, 3) := by decide +kernel
theorem dX8_fewest_28 : decode cX8_fewest 28 = .ok (.sipush 200, 3) := by decide +kernel
theorem dX8_fewest_31 : decode cX8_fewest 31 = .ok (.if_icmp .ne 5, 3) := by decide +kernel
theorem dX8_fewest_34 : decode cX8_fewest 34 = .ok (.iload_n 2, 1) := by decide +kernel
theorem dX8_fewest_35 : decode cX8_fewest 35 = .ok (.ireturn, 1) := by decide +kernel
theorem dX8_fewest_36 : decode cX8_fewest 36 = .ok (.iinc 2 1, 3) := by decide +kernel
theorem dX8_fewest_39 : decode cX8_fewest 39 = .ok (.goto (-27), 3) := by decide +kernel
theorem dX8_fewest_42 : decode cX8_fewest 42 = .ok (.iconst (-1), 1) := by decide +kernel
theorem dX8_fewest_43 : decode cX8_fewest 43 = .ok (.ireturn, 1) := by decide +kernel
theorem dX8_best_0 : decode cX8_best 0 = .ok (.aload_n 0, 1) := by decide +kernel
theorem dX8_best_1 : decode cX8_best 1 = .ok (.iload_n 1, 1) := by decide +kernel
theorem dX8_best_2 : decode cX8_best 2 = .ok (.invokevirtual 456, 3) := by decide +kernel
theorem dX8_best_5 : decode cX8_best 5 = .ok (.ifCond .eq 12, 3) := by decide +kernel
theorem dX8_best_8 : decode cX8_best 8 = .ok (.iload_n 2, 1) := by decide +kernel
theorem dX8_best_9 : decode cX8_best 9 = .ok (.ifCond .lt 8, 3) := by decide +kernel
theorem dX8_best_12 : decode cX8_best 12 = .ok (.iload_n 2, 1) := by decide +kernel
theorem dX8_best_13 : decode cX8_best 13 = .ok (.iconst 1, 1) := by decide +kernel
theorem dX8_best_14 : decode cX8_best 14 = .ok (.if_icmp .le 5, 3) := by decide +kernel
theorem dX8_best_17 : decode cX8_best 17 = .ok (.iconst (-1), 1) := by decide +kernel
theorem dX8_best_18 : decode cX8_best 18 = .ok (.ireturn, 1) := by decide +kernel
theorem dX8_best_19 : decode cX8_best 19 = .ok (.iconst 0, 1) := by decide +kernel
theorem dX8_best_20 : decode cX8_best 20 = .ok (.istore_n 3, 1) := by decide +kernel
theorem dX8_best_21 : decode cX8_best 21 = .ok (.iconst (-1), 1) := by decide +kernel
theorem dX8_best_22 : decode cX8_best 22 = .ok (.istore 4, 2) := by decide +kernel
theorem dX8_best_24 : decode cX8_best 24 = .ok (.iconst 0, 1) := by decide +kernel
theorem dX8_best_25 : decode cX8_best 25 = .ok (.istore 5, 2) := by decide +kernel
theorem dX8_best_27 : decode cX8_best 27 = .ok (.iload 5, 2) := by decide +kernel
theorem dX8_best_29 : decode cX8_best 29 = .ok (.aload_n 0, 1) := by decide +kernel
theorem dX8_best_30 : decode cX8_best 30 = .ok (.getfield 151, 3) := by decide +kernel
theorem dX8_best_33 : decode cX8_best 33 = .ok (.if_icmp .ge 37, 3) := by decide +kernel
theorem dX8_best_36 : decode cX8_best 36 = .ok (.aload_n 0, 1) := by decide +kernel
theorem dX8_best_37 : decode cX8_best 37 = .ok (.iload 5, 2) := by decide +kernel
theorem dX8_best_39 : decode cX8_best 39 = .ok (.iload_n 1, 1) := by decide +kernel
theorem dX8_best_40 : decode cX8_best 40 = .ok (.iconst 0, 1) := by decide +kernel
theorem dX8_best_41 : decode cX8_best 41 = .ok (.iconst 0, 1) := by decide +kernel
theorem dX8_best_42 : decode cX8_best 42 = .ok (.invokevirtual 459, 3) := by decide +kernel
theorem dX8_best_45 : decode cX8_best 45 = .ok (.istore 6, 2) := by decide +kernel
theorem dX8_best_47 : decode cX8_best 47 = .ok (.iload 6, 2) := by decide +kernel
theorem dX8_best_49 : decode cX8_best 49 = .ok (.iload 4, 2) := by decide +kernel
theorem dX8_best_51 : decode cX8_best 51 = .ok (.if_icmp .gt 6, 3) := by decide +kernel
theorem dX8_best_54 : decode cX8_best 54 = .ok (.goto 10, 3) := by decide +kernel
theorem dX8_best_57 : decode cX8_best 57 = .ok (.iload 6, 2) := by decide +kernel
theorem dX8_best_59 : decode cX8_best 59 = .ok (.istore 4, 2) := by decide +kernel
theorem dX8_best_61 : decode cX8_best 61 = .ok (.iload 5, 2) := by decide +kernel
theorem dX8_best_63 : decode cX8_best 63 = .ok (.istore_n 3, 1) := by decide +kernel
theorem dX8_best_64 : decode cX8_best 64 = .ok (.iinc 5 1, 3) := by decide +kernel
theorem dX8_best_67 : decode cX8_best 67 = .ok (.goto (-40), 3) := by decide +kernel
theorem dX8_best_70 : decode cX8_best 70 = .ok (.iload_n 2, 1) := by decide +kernel
theorem dX8_best_71 : decode cX8_best 71 = .ok (.ifCond .ne 7, 3) := by decide +kernel
theorem dX8_best_74 : decode cX8_best 74 = .ok (.iload_n 3, 1) := by decide +kernel
theorem dX8_best_75 : decode cX8_best 75 = .ok (.goto 5, 3) := by decide +kernel
theorem dX8_best_78 : decode cX8_best 78 = .ok (.iload 4, 2) := by decide +kernel
theorem dX8_best_80 : decode cX8_best 80 = .ok (.ireturn, 1) := by decide +kernel
theorem dX8_jumps_0 : decode cX8_jumps 0 = .ok (.aload_n 0, 1) := by decide +kernel
theorem dX8_jumps_1 : decode cX8_jumps 1 = .ok (.iload_n 1, 1) := by decide +kernel
theorem dX8_jumps_2 : decode cX8_jumps 2 = .ok (.invokevirtual 435, 3) := by decide +kernel
theorem dX8_jumps_5 : decode cX8_jumps 5 = .ok (.ifCond .eq 33, 3) := by decide +kernel
theorem dX8_jumps_8 : decode cX8_jumps 8 = .ok (.aload_n 0, 1) := by decide +kernel
theorem dX8_jumps_9 : decode cX8_jumps 9 = .ok (.iload_n 3, 1) := by decide +kernel
theorem dX8_jumps_10 : decode cX8_jumps 10 = .ok (.invokevirtual 435, 3) := by decide +kernel
theorem dX8_jumps_13 : decode cX8_jumps 13 = .ok (.ifCond .eq 25, 3) := by decide +kernel
theorem dX8_jumps_16 : decode cX8_jumps 16 = .ok (.aload_n 0, 1) := by decide +kernel
theorem dX8_jumps_17 : decode cX8_jumps 17 = .ok (.iload_n 2, 1) := by decide +kernel
theorem dX8_jumps_18 : decode cX8_jumps 18 = .ok (.invokevirtual 456, 3) := by decide +kernel
theorem dX8_jumps_21 : decode cX8_jumps 21 = .ok (.ifCond .eq 17, 3) := by decide +kernel
theorem dX8_jumps_24 : decode cX8_jumps 24 = .ok (.aload_n 0, 1) := by decide +kernel
theorem dX8_jumps_25 : decode cX8_jumps 25 = .ok (.iload_n 1, 1) := by decide +kernel
theorem dX8_jumps_26 : decode cX8_jumps 26 = .ok (.iload_n 2, 1) := by decide +kernel
theorem dX8_jumps_27 : decode cX8_jumps 27 = .ok (.iload_n 3, 1) := by decide +kernel
theorem dX8_jumps_28 : decode cX8_jumps 28 = .ok (.iconst 0, 1) := by decide +kernel
theorem dX8_jumps_29 : decode cX8_jumps 29 = .ok (.invokevirtual 459, 3) := by decide +kernel
theorem dX8_jumps_32 : decode cX8_jumps 32 = .ok (.sipush 200, 3) := by decide +kernel
theorem dX8_jumps_35 : decode cX8_jumps 35 = .ok (.if_icmp .ge 5, 3) := by decide +kernel
theorem dX8_jumps_38 : decode cX8_jumps 38 = .ok (.iconst (-1), 1) := by decide +kernel
theorem dX8_jumps_39 : decode cX8_jumps 39 = .ok (.ireturn, 1) := by decide +kernel
theorem dX8_jumps_40 : decode cX8_jumps 40 = .ok (.bipush 9, 2) := by decide +kernel
theorem dX8_jumps_42 : decode cX8_jumps 42 = .ok (.istore 4, 2) := by decide +kernel
theorem dX8_jumps_44 : decode cX8_jumps 44 = .ok (.iload 4, 2) := by decide +kernel
theorem dX8_jumps_46 : decode cX8_jumps 46 = .ok (.ifCond .le 24, 3) := by decide +kernel
theorem dX8_jumps_49 : decode cX8_jumps 49 = .ok (.aload_n 0, 1) := by decide +kernel
theorem dX8_jumps_50 : decode cX8_jumps 50 = .ok (.iload_n 1, 1) := by decide +kernel
theorem dX8_jumps_51 : decode cX8_jumps 51 = .ok (.iload_n 2, 1) := by decide +kernel
theorem dX8_jumps_52 : decode cX8_jumps 52 = .ok (.iload_n 3, 1) := by decide +kernel
theorem dX8_jumps_53 : decode cX8_jumps 53 = .ok (.iload 4, 2) := by decide +kernel
theorem dX8_jumps_55 : decode cX8_jumps 55 = .ok (.invokevirtual 459, 3) := by decide +kernel
theorem dX8_jumps_58 : decode cX8_jumps 58 = .ok (.sipush 200, 3) := by decide +kernel
theorem dX8_jumps_61 : decode cX8_jumps 61 = .ok (.if_icmp .ge 9, 3) := by decide +kernel
theorem dX8_jumps_64 : decode cX8_jumps 64 = .ok (.iinc 4 (-1), 3) := by decide +kernel
theorem dX8_jumps_67 : decode cX8_jumps 67 = .ok (.goto (-23), 3) := by decide +kernel
theorem dX8_jumps_70 : decode cX8_jumps 70 = .ok (.iload 4, 2) := by decide +kernel
theorem dX8_jumps_72 : decode cX8_jumps 72 = .ok (.ireturn, 1) := by decide +kernel
theorem dX8_meet_0 : decode cX8_meet 0 = .ok (.aload_n 0, 1) := by decide +kernel
theorem dX8_meet_1 : decode cX8_meet 1 = .ok (.iload_n 1, 1) := by decide +kernel
theorem dX8_meet_2 : decode cX8_meet 2 = .ok (.invokevirtual 435, 3) := by decide +kernel
theorem dX8_meet_5 : decode cX8_meet 5 = .ok (.ifCond .eq 19, 3) := by decide +kernel
theorem dX8_meet_8 : decode cX8_meet 8 = .ok (.aload_n 0, 1) := by decide +kernel
theorem dX8_meet_9 : decode cX8_meet 9 = .ok (.iload_n 2, 1) := by decide +kernel
theorem dX8_meet_10 : decode cX8_meet 10 = .ok (.invokevirtual 435, 3) := by decide +kernel
theorem dX8_meet_13 : decode cX8_meet 13 = .ok (.ifCond .eq 11, 3) := by decide +kernel
theorem dX8_meet_16 : decode cX8_meet 16 = .ok (.aload_n 0, 1) := by decide +kernel
theorem dX8_meet_17 : decode cX8_meet 17 = .ok (.iload_n 3, 1) := by decide +kernel
theorem dX8_meet_18 : decode cX8_meet 18 = .ok (.invokevirtual 456, 3) := by decide +kernel
theorem dX8_meet_21 : decode cX8_meet 21 = .ok (.ifCond .ne 5, 3) := by decide +kernel
theorem dX8_meet_24 : decode cX8_meet 24 = .ok (.iconst (-1), 1) := by decide +kernel
theorem dX8_meet_25 : decode cX8_meet 25 = .ok (.ireturn, 1) := by decide +kernel
theorem dX8_meet_26 : decode cX8_meet 26 = .ok (.aload_n 0, 1) := by decide +kernel
theorem dX8_meet_27 : decode cX8_meet 27 = .ok (.invokevirtual 444, 3) := by decide +kernel
theorem dX8_meet_30 : decode cX8_meet 30 = .ok (.aload_n 0, 1) := by decide +kernel
theorem dX8_meet_31 : decode cX8_meet 31 = .ok (.invokevirtual 157, 3) := by decide +kernel
theorem dX8_meet_34 : decode cX8_meet 34 = .ok (.aload_n 0, 1) := by decide +kernel
theorem dX8_meet_35 : decode cX8_meet 35 = .ok (.iload_n 1, 1) := by decide +kernel
theorem dX8_meet_36 : decode cX8_meet 36 = .ok (.iload_n 3, 1) := by decide +kernel
theorem dX8_meet_37 : decode cX8_meet 37 = .ok (.invokevirtual 450, 3) := by decide +kernel
theorem dX8_meet_40 : decode cX8_meet 40 = .ok (.aload_n 0, 1) := by decide +kernel
theorem dX8_meet_41 : decode cX8_meet 41 = .ok (.iload_n 2, 1) := by decide +kernel
theorem dX8_meet_42 : decode cX8_meet 42 = .ok (.iload_n 3, 1) := by decide +kernel
theorem dX8_meet_43 : decode cX8_meet 43 = .ok (.invokevirtual 450, 3) := by decide +kernel
theorem dX8_meet_46 : decode cX8_meet 46 = .ok (.aload_n 0, 1) := by decide +kernel
theorem dX8_meet_47 : decode cX8_meet 47 = .ok (.iconst 1, 1) := by decide +kernel
theorem dX8_meet_48 : decode cX8_meet 48 = .ok (.putfield 384, 3) := by decide +kernel
theorem dX8_meet_51 : decode cX8_meet 51 = .ok (.iconst 0, 1) := by decide +kernel
theorem dX8_meet_52 : decode cX8_meet 52 = .ok (.istore 4, 2) := by decide +kernel
theorem dX8_meet_54 : decode cX8_meet 54 = .ok (.iconst 0, 1) := by decide +kernel
theorem dX8_meet_55 : decode cX8_meet 55 = .ok (.istore 5, 2) := by decide +kernel
theorem dX8_meet_57 : decode cX8_meet 57 = .ok (.iload 5, 2) := by decide +kernel
theorem dX8_meet_59 : decode cX8_meet 59 = .ok (.bipush 60, 2) := by decide +kernel
theorem dX8_meet_61 : decode cX8_meet 61 = .ok (.if_icmp .ge 16, 3) := by decide +kernel
theorem dX8_meet_64 : decode cX8_meet 64 = .ok (.aload_n 0, 1) := by decide +kernel
theorem dX8_meet_65 : decode cX8_meet 65 = .ok (.iconst 0, 1) := by decide +kernel
theorem dX8_meet_66 : decode cX8_meet 66 = .ok (.invokevirtual 431, 3) := by decide +kernel
theorem dX8_meet_69 : decode cX8_meet 69 = .ok (.istore 4, 2) := by decide +kernel
theorem dX8_meet_71 : decode cX8_meet 71 = .ok (.iinc 5 1, 3) := by decide +kernel
theorem dX8_meet_74 : decode cX8_meet 74 = .ok (.goto (-17), 3) := by decide +kernel
theorem dX8_meet_77 : decode cX8_meet 77 = .ok (.aload_n 0, 1) := by decide +kernel
theorem dX8_meet_78 : decode cX8_meet 78 = .ok (.invokevirtual 441, 3) := by decide +kernel
theorem dX8_meet_81 : decode cX8_meet 81 = .ok (.istore 5, 2) := by decide +kernel
theorem dX8_meet_83 : decode cX8_meet 83 = .ok (.aload_n 0, 1) := by decide +kernel
theorem dX8_meet_84 : decode cX8_meet 84 = .ok (.invokevirtual 447, 3) := by decide +kernel
theorem dX8_meet_87 : decode cX8_meet 87 = .ok (.iload 5, 2) := by decide +kernel
theorem dX8_meet_89 : decode cX8_meet 89 = .ok (.ireturn, 1) := by decide +kernel
theorem dX8_common_0 : decode cX8_common 0 = .ok (.lload_n 0, 1) := by decide +kernel
theorem dX8_common_1 : decode cX8_common 1 = .ok (.lstore 4, 2) := by decide +kernel
theorem dX8_common_3 : decode cX8_common 3 = .ok (.lload_n 2, 1) := by decide +kernel
theorem dX8_common_4 : decode cX8_common 4 = .ok (.lstore 6, 2) := by decide +kernel
theorem dX8_common_6 : decode cX8_common 6 = .ok (.lload 6, 2) := by decide +kernel
theorem dX8_common_8 : decode cX8_common 8 = .ok (.lconst 0, 1) := by decide +kernel
theorem dX8_common_9 : decode cX8_common 9 = .ok (.lcmp, 1) := by decide +kernel
theorem dX8_common_10 : decode cX8_common 10 = .ok (.ifCond .le 21, 3) := by decide +kernel
theorem dX8_common_13 : decode cX8_common 13 = .ok (.lload 4, 2) := by decide +kernel
theorem dX8_common_15 : decode cX8_common 15 = .ok (.lload 6, 2) := by decide +kernel
theorem dX8_common_17 : decode cX8_common 17 = .ok (.lrem, 1) := by decide +kernel
theorem dX8_common_18 : decode cX8_common 18 = .ok (.lstore 8, 2) := by decide +kernel
theorem dX8_common_20 : decode cX8_common 20 = .ok (.lload 6, 2) := by decide +kernel
theorem dX8_common_22 : decode cX8_common 22 = .ok (.lstore 4, 2) := by decide +kernel
theorem dX8_common_24 : decode cX8_common 24 = .ok (.lload 8, 2) := by decide +kernel
theorem dX8_common_26 : decode cX8_common 26 = .ok (.lstore 6, 2) := by decide +kernel
theorem dX8_common_28 : decode cX8_common 28 = .ok (.goto (-22), 3) := by decide +kernel
theorem dX8_common_31 : decode cX8_common 31 = .ok (.lload 4, 2) := by decide +kernel
theorem dX8_common_33 : decode cX8_common 33 = .ok (.lreturn, 1) := by decide +kernel
theorem dX8_odds_0 : decode cX8_odds 0 = .ok (.iload_n 1, 1) := by decide +kernel
theorem dX8_odds_1 : decode cX8_odds 1 = .ok (.ifCond .lt 18, 3) := by decide +kernel
theorem dX8_odds_4 : decode cX8_odds 4 = .ok (.iload_n 1, 1) := by decide +kernel
theorem dX8_odds_5 : decode cX8_odds 5 = .ok (.bipush 40, 2) := by decide +kernel
theorem dX8_odds_7 : decode cX8_odds 7 = .ok (.if_icmp .gt 12, 3) := by decide +kernel
theorem dX8_odds_10 : decode cX8_odds 10 = .ok (.iload_n 2, 1) := by decide +kernel
theorem dX8_odds_11 : decode cX8_odds 11 = .ok (.ifCond .lt 8, 3) := by decide +kernel
theorem dX8_odds_14 : decode cX8_odds 14 = .ok (.iload_n 2, 1) := by decide +kernel
theorem dX8_odds_15 : decode cX8_odds 15 = .ok (.iconst 1, 1) := by decide +kernel
theorem dX8_odds_16 : decode cX8_odds 16 = .ok (.if_icmp .le 7, 3) := by decide +kernel
theorem dX8_odds_19 : decode cX8_odds 19 = .ok (.ldc2_w 463, 3) := by decide +kernel
theorem dX8_odds_22 : decode cX8_odds 22 = .ok (.lreturn, 1) := by decide +kernel
theorem dX8_odds_23 : decode cX8_odds 23 = .ok (.aload_n 0, 1) := by decide +kernel
theorem dX8_odds_24 : decode cX8_odds 24 = .ok (.invokevirtual 438, 3) := by decide +kernel
theorem dX8_odds_27 : decode cX8_odds 27 = .ok (.istore_n 3, 1) := by decide +kernel
theorem dX8_odds_28 : decode cX8_odds 28 = .ok (.iload_n 3, 1) := by decide +kernel
theorem dX8_odds_29 : decode cX8_odds 29 = .ok (.bipush 15, 2) := by decide +kernel
theorem dX8_odds_31 : decode cX8_odds 31 = .ok (.if_icmp .le 7, 3) := by decide +kernel
theorem dX8_odds_34 : decode cX8_odds 34 = .ok (.ldc2_w 465, 3) := by decide +kernel
theorem dX8_odds_37 : decode cX8_odds 37 = .ok (.lreturn, 1) := by decide +kernel
theorem dX8_odds_38 : decode cX8_odds 38 = .ok (.lconst 1, 1) := by decide +kernel
theorem dX8_odds_39 : decode cX8_odds 39 = .ok (.lstore 4, 2) := by decide +kernel
theorem dX8_odds_41 : decode cX8_odds 41 = .ok (.iconst 0, 1) := by decide +kernel
theorem dX8_odds_42 : decode cX8_odds 42 = .ok (.istore 6, 2) := by decide +kernel
theorem dX8_odds_44 : decode cX8_odds 44 = .ok (.iload 6, 2) := by decide +kernel
theorem dX8_odds_46 : decode cX8_odds 46 = .ok (.iload_n 3, 1) := by decide +kernel
theorem dX8_odds_47 : decode cX8_odds 47 = .ok (.if_icmp .ge 17, 3) := by decide +kernel
theorem dX8_odds_50 : decode cX8_odds 50 = .ok (.lload 4, 2) := by decide +kernel
theorem dX8_odds_52 : decode cX8_odds 52 = .ok (.ldc2_w 467, 3) := by decide +kernel
theorem dX8_odds_55 : decode cX8_odds 55 = .ok (.lmul, 1) := by decide +kernel
theorem dX8_odds_56 : decode cX8_odds 56 = .ok (.lstore 4, 2) := by decide +kernel
theorem dX8_odds_58 : decode cX8_odds 58 = .ok (.iinc 6 1, 3) := by decide +kernel
theorem dX8_odds_61 : decode cX8_odds 61 = .ok (.goto (-17), 3) := by decide +kernel
theorem dX8_odds_64 : decode cX8_odds 64 = .ok (.lconst 0, 1) := by decide +kernel
theorem dX8_odds_65 : decode cX8_odds 65 = .ok (.lstore 6, 2) := by decide +kernel
theorem dX8_odds_67 : decode cX8_odds 67 = .ok (.lconst 1, 1) := by decide +kernel
theorem dX8_odds_68 : decode cX8_odds 68 = .ok (.lstore 8, 2) := by decide +kernel
theorem dX8_odds_70 : decode cX8_odds 70 = .ok (.iconst 0, 1) := by decide +kernel
theorem dX8_odds_71 : decode cX8_odds 71 = .ok (.istore 10, 2) := by decide +kernel
theorem dX8_odds_73 : decode cX8_odds 73 = .ok (.iload 10, 2) := by decide +kernel
theorem dX8_odds_75 : decode cX8_odds 75 = .ok (.iload_n 3, 1) := by decide +kernel
theorem dX8_odds_76 : decode cX8_odds 76 = .ok (.if_icmp .gt 85, 3) := by decide +kernel
theorem dX8_odds_79 : decode cX8_odds 79 = .ok (.lload 8, 2) := by decide +kernel
theorem dX8_odds_81 : decode cX8_odds 81 = .ok (.lstore 11, 2) := by decide +kernel
theorem dX8_odds_83 : decode cX8_odds 83 = .ok (.iconst 0, 1) := by decide +kernel
theorem dX8_odds_84 : decode cX8_odds 84 = .ok (.istore 13, 2) := by decide +kernel
theorem dX8_odds_86 : decode cX8_odds 86 = .ok (.iload 13, 2) := by decide +kernel
theorem dX8_odds_88 : decode cX8_odds 88 = .ok (.iload_n 3, 1) := by decide +kernel
theorem dX8_odds_89 : decode cX8_odds 89 = .ok (.if_icmp .ge 37, 3) := by decide +kernel
theorem dX8_odds_92 : decode cX8_odds 92 = .ok (.lload 11, 2) := by decide +kernel
theorem dX8_odds_94 : decode cX8_odds 94 = .ok (.iload 13, 2) := by decide +kernel
theorem dX8_odds_96 : decode cX8_odds 96 = .ok (.iload 10, 2) := by decide +kernel
theorem dX8_odds_98 : decode cX8_odds 98 = .ok (.if_icmp .ge 14, 3) := by decide +kernel
theorem dX8_odds_101 : decode cX8_odds 101 = .ok (.bipush 10, 2) := by decide +kernel
theorem dX8_odds_103 : decode cX8_odds 103 = .ok (.aload_n 0, 1) := by decide +kernel
theorem dX8_odds_104 : decode cX8_odds 104 = .ok (.getfield 363, 3) := by decide +kernel
theorem dX8_odds_107 : decode cX8_odds 107 = .ok (.isub, 1) := by decide +kernel
theorem dX8_odds_108 : decode cX8_odds 108 = .ok (.i2l, 1) := by decide +kernel
theorem dX8_odds_109 : decode cX8_odds 109 = .ok (.goto 8, 3) := by decide +kernel
theorem dX8_odds_112 : decode cX8_odds 112 = .ok (.aload_n 0, 1) := by decide +kernel
theorem dX8_odds_113 : decode cX8_odds 113 = .ok (.getfield 363, 3) := by decide +kernel
theorem dX8_odds_116 : decode cX8_odds 116 = .ok (.i2l, 1) := by decide +kernel
theorem dX8_odds_117 : decode cX8_odds 117 = .ok (.lmul, 1) := by decide +kernel
theorem dX8_odds_118 : decode cX8_odds 118 = .ok (.lstore 11, 2) := by decide +kernel
theorem dX8_odds_120 : decode cX8_odds 120 = .ok (.iinc 13 1, 3) := by decide +kernel
theorem dX8_odds_123 : decode cX8_odds 123 = .ok (.goto (-37), 3) := by decide +kernel
theorem dX8_odds_126 : decode cX8_odds 126 = .ok (.iload 10, 2) := by decide +kernel
theorem dX8_odds_128 : decode cX8_odds 128 = .ok (.iload_n 1, 1) := by decide +kernel
theorem dX8_odds_129 : decode cX8_odds 129 = .ok (.if_icmp .lt 10, 3) := by decide +kernel
theorem dX8_odds_132 : decode cX8_odds 132 = .ok (.lload 6, 2) := by decide +kernel
theorem dX8_odds_134 : decode cX8_odds 134 = .ok (.lload 11, 2) := by decide +kernel
theorem dX8_odds_136 : decode cX8_odds 136 = .ok (.ladd, 1) := by decide +kernel
theorem dX8_odds_137 : decode cX8_odds 137 = .ok (.lstore 6, 2) := by decide +kernel
theorem dX8_odds_139 : decode cX8_odds 139 = .ok (.lload 8, 2) := by decide +kernel
theorem dX8_odds_141 : decode cX8_odds 141 = .ok (.iload_n 3, 1) := by decide +kernel
theorem dX8_odds_142 : decode cX8_odds 142 = .ok (.iload 10, 2) := by decide +kernel
theorem dX8_odds_144 : decode cX8_odds 144 = .ok (.isub, 1) := by decide +kernel
theorem dX8_odds_145 : decode cX8_odds 145 = .ok (.i2l, 1) := by decide +kernel
theorem dX8_odds_146 : decode cX8_odds 146 = .ok (.lmul, 1) := by decide +kernel
theorem dX8_odds_147 : decode cX8_odds 147 = .ok (.iload 10, 2) := by decide +kernel
theorem dX8_odds_149 : decode cX8_odds 149 = .ok (.iconst 1, 1) := by decide +kernel
theorem dX8_odds_150 : decode cX8_odds 150 = .ok (.iadd, 1) := by decide +kernel
theorem dX8_odds_151 : decode cX8_odds 151 = .ok (.i2l, 1) := by decide +kernel
theorem dX8_odds_152 : decode cX8_odds 152 = .ok (.ldiv, 1) := by decide +kernel
theorem dX8_odds_153 : decode cX8_odds 153 = .ok (.lstore 8, 2) := by decide +kernel
theorem dX8_odds_155 : decode cX8_odds 155 = .ok (.iinc 10 1, 3) := by decide +kernel
theorem dX8_odds_158 : decode cX8_odds 158 = .ok (.goto (-85), 3) := by decide +kernel
theorem dX8_odds_161 : decode cX8_odds 161 = .ok (.lload 4, 2) := by decide +kernel
theorem dX8_odds_163 : decode cX8_odds 163 = .ok (.lload 6, 2) := by decide +kernel
theorem dX8_odds_165 : decode cX8_odds 165 = .ok (.invokestatic 469, 3) := by decide +kernel
theorem dX8_odds_168 : decode cX8_odds 168 = .ok (.lstore 10, 2) := by decide +kernel
theorem dX8_odds_170 : decode cX8_odds 170 = .ok (.iload_n 2, 1) := by decide +kernel
theorem dX8_odds_171 : decode cX8_odds 171 = .ok (.ifCond .ne 11, 3) := by decide +kernel
theorem dX8_odds_174 : decode cX8_odds 174 = .ok (.lload 6, 2) := by decide +kernel
theorem dX8_odds_176 : decode cX8_odds 176 = .ok (.lload 10, 2) := by decide +kernel
theorem dX8_odds_178 : decode cX8_odds 178 = .ok (.ldiv, 1) := by decide +kernel
theorem dX8_odds_179 : decode cX8_odds 179 = .ok (.goto 8, 3) := by decide +kernel
theorem dX8_odds_182 : decode cX8_odds 182 = .ok (.lload 4, 2) := by decide +kernel
theorem dX8_odds_184 : decode cX8_odds 184 = .ok (.lload 10, 2) := by decide +kernel
theorem dX8_odds_186 : decode cX8_odds 186 = .ok (.ldiv, 1) := by decide +kernel
theorem dX8_odds_187 : decode cX8_odds 187 = .ok (.lreturn, 1) := by decide +kernel
theorem dX8_film_0 : decode cX8_film 0 = .ok (.iload_n 1, 1) := by decide +kernel
theorem dX8_film_1 : decode cX8_film 1 = .ok (.ifCond .lt 29, 3) := by decide +kernel
theorem dX8_film_4 : decode cX8_film 4 = .ok (.iload_n 1, 1) := by decide +kernel
theorem dX8_film_5 : decode cX8_film 5 = .ok (.bipush 40, 2) := by decide +kernel
theorem dX8_film_7 : decode cX8_film 7 = .ok (.if_icmp .ge 23, 3) := by decide +kernel
theorem dX8_film_10 : decode cX8_film 10 = .ok (.lload_n 2, 1) := by decide +kernel
theorem dX8_film_11 : decode cX8_film 11 = .ok (.aload_n 0, 1) := by decide +kernel
theorem dX8_film_12 : decode cX8_film 12 = .ok (.getfield 151, 3) := by decide +kernel
theorem dX8_film_15 : decode cX8_film 15 = .ok (.lshr, 1) := by decide +kernel
theorem dX8_film_16 : decode cX8_film 16 = .ok (.lconst 0, 1) := by decide +kernel
theorem dX8_film_17 : decode cX8_film 17 = .ok (.lcmp, 1) := by decide +kernel
theorem dX8_film_18 : decode cX8_film 18 = .ok (.ifCond .ne 12, 3) := by decide +kernel
theorem dX8_film_21 : decode cX8_film 21 = .ok (.aload_n 0, 1) := by decide +kernel
theorem dX8_film_22 : decode cX8_film 22 = .ok (.getfield 378, 3) := by decide +kernel
theorem dX8_film_25 : decode cX8_film 25 = .ok (.bipush 60, 2) := by decide +kernel
theorem dX8_film_27 : decode cX8_film 27 = .ok (.if_icmp .ne 5, 3) := by decide +kernel
theorem dX8_film_30 : decode cX8_film 30 = .ok (.iconst (-1), 1) := by decide +kernel
theorem dX8_film_31 : decode cX8_film 31 = .ok (.ireturn, 1) := by decide +kernel
theorem dX8_film_32 : decode cX8_film 32 = .ok (.aload_n 0, 1) := by decide +kernel
theorem dX8_film_33 : decode cX8_film 33 = .ok (.getfield 99, 3) := by decide +kernel
theorem dX8_film_36 : decode cX8_film 36 = .ok (.aload_n 0, 1) := by decide +kernel
theorem dX8_film_37 : decode cX8_film 37 = .ok (.getfield 378, 3) := by decide +kernel
theorem dX8_film_40 : decode cX8_film 40 = .ok (.iload_n 1, 1) := by decide +kernel
theorem dX8_film_41 : decode cX8_film 41 = .ok (.iastore, 1) := by decide +kernel
theorem dX8_film_42 : decode cX8_film 42 = .ok (.aload_n 0, 1) := by decide +kernel
theorem dX8_film_43 : decode cX8_film 43 = .ok (.getfield 108, 3) := by decide +kernel
theorem dX8_film_46 : decode cX8_film 46 = .ok (.aload_n 0, 1) := by decide +kernel
theorem dX8_film_47 : decode cX8_film 47 = .ok (.getfield 378, 3) := by decide +kernel
theorem dX8_film_50 : decode cX8_film 50 = .ok (.lload_n 2, 1) := by decide +kernel
theorem dX8_film_51 : decode cX8_film 51 = .ok (.lastore, 1) := by decide +kernel
theorem dX8_film_52 : decode cX8_film 52 = .ok (.aload_n 0, 1) := by decide +kernel
theorem dX8_film_53 : decode cX8_film 53 = .ok (.getfield 102, 3) := by decide +kernel
theorem dX8_film_56 : decode cX8_film 56 = .ok (.aload_n 0, 1) := by decide +kernel
theorem dX8_film_57 : decode cX8_film 57 = .ok (.getfield 378, 3) := by decide +kernel
theorem dX8_film_60 : decode cX8_film 60 = .ok (.aload_n 0, 1) := by decide +kernel
theorem dX8_film_61 : decode cX8_film 61 = .ok (.getfield 473, 3) := by decide +kernel
theorem dX8_film_64 : decode cX8_film 64 = .ok (.iastore, 1) := by decide +kernel
theorem dX8_film_65 : decode cX8_film 65 = .ok (.aload_n 0, 1) := by decide +kernel
theorem dX8_film_66 : decode cX8_film 66 = .ok (.getfield 105, 3) := by decide +kernel
theorem dX8_film_69 : decode cX8_film 69 = .ok (.aload_n 0, 1) := by decide +kernel
theorem dX8_film_70 : decode cX8_film 70 = .ok (.getfield 378, 3) := by decide +kernel
theorem dX8_film_73 : decode cX8_film 73 = .ok (.iconst (-1), 1) := by decide +kernel
theorem dX8_film_74 : decode cX8_film 74 = .ok (.iastore, 1) := by decide +kernel
theorem dX8_film_75 : decode cX8_film 75 = .ok (.aload_n 0, 1) := by decide +kernel
theorem dX8_film_76 : decode cX8_film 76 = .ok (.dup, 1) := by decide +kernel
theorem dX8_film_77 : decode cX8_film 77 = .ok (.getfield 378, 3) := by decide +kernel
theorem dX8_film_80 : decode cX8_film 80 = .ok (.iconst 1, 1) := by decide +kernel
theorem dX8_film_81 : decode cX8_film 81 = .ok (.iadd, 1) := by decide +kernel
theorem dX8_film_82 : decode cX8_film 82 = .ok (.putfield 378, 3) := by decide +kernel
theorem dX8_film_85 : decode cX8_film 85 = .ok (.aload_n 0, 1) := by decide +kernel
theorem dX8_film_86 : decode cX8_film 86 = .ok (.getfield 378, 3) := by decide +kernel
theorem dX8_film_89 : decode cX8_film 89 = .ok (.iconst 1, 1) := by decide +kernel
theorem dX8_film_90 : decode cX8_film 90 = .ok (.isub, 1) := by decide +kernel
theorem dX8_film_91 : decode cX8_film 91 = .ok (.ireturn, 1) := by decide +kernel
theorem dX8_untell_0 : decode cX8_untell 0 = .ok (.iload_n 1, 1) := by decide +kernel
theorem dX8_untell_1 : decode cX8_untell 1 = .ok (.ifCond .lt 20, 3) := by decide +kernel
theorem dX8_untell_4 : decode cX8_untell 4 = .ok (.iload_n 1, 1) := by decide +kernel
theorem dX8_untell_5 : decode cX8_untell 5 = .ok (.aload_n 0, 1) := by decide +kernel
theorem dX8_untell_6 : decode cX8_untell 6 = .ok (.getfield 378, 3) := by decide +kernel
theorem dX8_untell_9 : decode cX8_untell 9 = .ok (.if_icmp .ge 12, 3) := by decide +kernel
theorem dX8_untell_12 : decode cX8_untell 12 = .ok (.aload_n 0, 1) := by decide +kernel
theorem dX8_untell_13 : decode cX8_untell 13 = .ok (.getfield 105, 3) := by decide +kernel
theorem dX8_untell_16 : decode cX8_untell 16 = .ok (.iload_n 1, 1) := by decide +kernel
theorem dX8_untell_17 : decode cX8_untell 17 = .ok (.iaload, 1) := by decide +kernel
theorem dX8_untell_18 : decode cX8_untell 18 = .ok (.ifCond .lt 5, 3) := by decide +kernel
theorem dX8_untell_21 : decode cX8_untell 21 = .ok (.iconst 0, 1) := by decide +kernel
theorem dX8_untell_22 : decode cX8_untell 22 = .ok (.ireturn, 1) := by decide +kernel
theorem dX8_untell_23 : decode cX8_untell 23 = .ok (.aload_n 0, 1) := by decide +kernel
theorem dX8_untell_24 : decode cX8_untell 24 = .ok (.getfield 105, 3) := by decide +kernel
theorem dX8_untell_27 : decode cX8_untell 27 = .ok (.iload_n 1, 1) := by decide +kernel
theorem dX8_untell_28 : decode cX8_untell 28 = .ok (.aload_n 0, 1) := by decide +kernel
theorem dX8_untell_29 : decode cX8_untell 29 = .ok (.getfield 473, 3) := by decide +kernel
theorem dX8_untell_32 : decode cX8_untell 32 = .ok (.iastore, 1) := by decide +kernel
theorem dX8_untell_33 : decode cX8_untell 33 = .ok (.iconst 1, 1) := by decide +kernel
theorem dX8_untell_34 : decode cX8_untell 34 = .ok (.ireturn, 1) := by decide +kernel
theorem dX8_later_0 : decode cX8_later 0 = .ok (.iload_n 1, 1) := by decide +kernel
theorem dX8_later_1 : decode cX8_later 1 = .ok (.ifCond .lt 22, 3) := by decide +kernel
theorem dX8_later_4 : decode cX8_later 4 = .ok (.iload_n 1, 1) := by decide +kernel
theorem dX8_later_5 : decode cX8_later 5 = .ok (.sipush 1000, 3) := by decide +kernel
theorem dX8_later_8 : decode cX8_later 8 = .ok (.if_icmp .gt 15, 3) := by decide +kernel
theorem dX8_later_11 : decode cX8_later 11 = .ok (.aload_n 0, 1) := by decide +kernel
theorem dX8_later_12 : decode cX8_later 12 = .ok (.getfield 473, 3) := by decide +kernel
theorem dX8_later_15 : decode cX8_later 15 = .ok (.iload_n 1, 1) := by decide +kernel
theorem dX8_later_16 : decode cX8_later 16 = .ok (.iadd, 1) := by decide +kernel
theorem dX8_later_17 : decode cX8_later 17 = .ok (.ldc_w 476, 3) := by decide +kernel
theorem dX8_later_20 : decode cX8_later 20 = .ok (.if_icmp .le 5, 3) := by decide +kernel
theorem dX8_later_23 : decode cX8_later 23 = .ok (.iconst (-1), 1) := by decide +kernel
theorem dX8_later_24 : decode cX8_later 24 = .ok (.ireturn, 1) := by decide +kernel
theorem dX8_later_25 : decode cX8_later 25 = .ok (.aload_n 0, 1) := by decide +kernel
theorem dX8_later_26 : decode cX8_later 26 = .ok (.dup, 1) := by decide +kernel
theorem dX8_later_27 : decode cX8_later 27 = .ok (.getfield 473, 3) := by decide +kernel
theorem dX8_later_30 : decode cX8_later 30 = .ok (.iload_n 1, 1) := by decide +kernel
theorem dX8_later_31 : decode cX8_later 31 = .ok (.iadd, 1) := by decide +kernel
theorem dX8_later_32 : decode cX8_later 32 = .ok (.putfield 473, 3) := by decide +kernel
theorem dX8_later_35 : decode cX8_later 35 = .ok (.aload_n 0, 1) := by decide +kernel
theorem dX8_later_36 : decode cX8_later 36 = .ok (.getfield 473, 3) := by decide +kernel
theorem dX8_later_39 : decode cX8_later 39 = .ok (.ireturn, 1) := by decide +kernel
theorem dX8_layOut_0 : decode cX8_layOut 0 = .ok (.iconst 1, 1) := by decide +kernel
theorem dX8_layOut_1 : decode cX8_layOut 1 = .ok (.istore_n 2, 1) := by decide +kernel
theorem dX8_layOut_2 : decode cX8_layOut 2 = .ok (.aload_n 0, 1) := by decide +kernel
theorem dX8_layOut_3 : decode cX8_layOut 3 = .ok (.iconst (-1), 1) := by decide +kernel
theorem dX8_layOut_4 : decode cX8_layOut 4 = .ok (.putfield 477, 3) := by decide +kernel
theorem dX8_layOut_7 : decode cX8_layOut 7 = .ok (.iconst 0, 1) := by decide +kernel
theorem dX8_layOut_8 : decode cX8_layOut 8 = .ok (.istore_n 3, 1) := by decide +kernel
theorem dX8_layOut_9 : decode cX8_layOut 9 = .ok (.iload_n 3, 1) := by decide +kernel
theorem dX8_layOut_10 : decode cX8_layOut 10 = .ok (.bipush 40, 2) := by decide +kernel
theorem dX8_layOut_12 : decode cX8_layOut 12 = .ok (.if_icmp .ge 16, 3) := by decide +kernel
theorem dX8_layOut_15 : decode cX8_layOut 15 = .ok (.aload_n 0, 1) := by decide +kernel
theorem dX8_layOut_16 : decode cX8_layOut 16 = .ok (.getfield 115, 3) := by decide +kernel
theorem dX8_layOut_19 : decode cX8_layOut 19 = .ok (.iload_n 3, 1) := by decide +kernel
theorem dX8_layOut_20 : decode cX8_layOut 20 = .ok (.iconst 0, 1) := by decide +kernel
theorem dX8_layOut_21 : decode cX8_layOut 21 = .ok (.bastore, 1) := by decide +kernel
theorem dX8_layOut_22 : decode cX8_layOut 22 = .ok (.iinc 3 1, 3) := by decide +kernel
theorem dX8_layOut_25 : decode cX8_layOut 25 = .ok (.goto (-16), 3) := by decide +kernel
theorem dX8_layOut_28 : decode cX8_layOut 28 = .ok (.iconst 0, 1) := by decide +kernel
theorem dX8_layOut_29 : decode cX8_layOut 29 = .ok (.istore_n 3, 1) := by decide +kernel
theorem dX8_layOut_30 : decode cX8_layOut 30 = .ok (.iload_n 3, 1) := by decide +kernel
theorem dX8_layOut_31 : decode cX8_layOut 31 = .ok (.aload_n 0, 1) := by decide +kernel
theorem dX8_layOut_32 : decode cX8_layOut 32 = .ok (.getfield 378, 3) := by decide +kernel
theorem dX8_layOut_35 : decode cX8_layOut 35 = .ok (.if_icmp .ge 70, 3) := by decide +kernel
theorem dX8_layOut_38 : decode cX8_layOut 38 = .ok (.aload_n 0, 1) := by decide +kernel
theorem dX8_layOut_39 : decode cX8_layOut 39 = .ok (.getfield 102, 3) := by decide +kernel
theorem dX8_layOut_42 : decode cX8_layOut 42 = .ok (.iload_n 3, 1) := by decide +kernel
theorem dX8_layOut_43 : decode cX8_layOut 43 = .ok (.iaload, 1) := by decide +kernel
theorem dX8_layOut_44 : decode cX8_layOut 44 = .ok (.iload_n 1, 1) := by decide +kernel
theorem dX8_layOut_45 : decode cX8_layOut 45 = .ok (.if_icmp .gt 54, 3) := by decide +kernel
theorem dX8_layOut_48 : decode cX8_layOut 48 = .ok (.aload_n 0, 1) := by decide +kernel
theorem dX8_layOut_49 : decode cX8_layOut 49 = .ok (.getfield 105, 3) := by decide +kernel
theorem dX8_layOut_52 : decode cX8_layOut 52 = .ok (.iload_n 3, 1) := by decide +kernel
theorem dX8_layOut_53 : decode cX8_layOut 53 = .ok (.iaload, 1) := by decide +kernel
theorem dX8_layOut_54 : decode cX8_layOut 54 = .ok (.ifCond .lt 16, 3) := by decide +kernel
theorem dX8_layOut_57 : decode cX8_layOut 57 = .ok (.aload_n 0, 1) := by decide +kernel
theorem dX8_layOut_58 : decode cX8_layOut 58 = .ok (.getfield 105, 3) := by decide +kernel
theorem dX8_layOut_61 : decode cX8_layOut 61 = .ok (.iload_n 3, 1) := by decide +kernel
theorem dX8_layOut_62 : decode cX8_layOut 62 = .ok (.iaload, 1) := by decide +kernel
theorem dX8_layOut_63 : decode cX8_layOut 63 = .ok (.iload_n 1, 1) := by decide +kernel
theorem dX8_layOut_64 : decode cX8_layOut 64 = .ok (.if_icmp .gt 6, 3) := by decide +kernel
theorem dX8_layOut_67 : decode cX8_layOut 67 = .ok (.goto 32, 3) := by decide +kernel
theorem dX8_layOut_70 : decode cX8_layOut 70 = .ok (.aload_n 0, 1) := by decide +kernel
theorem dX8_layOut_71 : decode cX8_layOut 71 = .ok (.getfield 115, 3) := by decide +kernel
theorem dX8_layOut_74 : decode cX8_layOut 74 = .ok (.aload_n 0, 1) := by decide +kernel
theorem dX8_layOut_75 : decode cX8_layOut 75 = .ok (.getfield 99, 3) := by decide +kernel
theorem dX8_layOut_78 : decode cX8_layOut 78 = .ok (.iload_n 3, 1) := by decide +kernel
theorem dX8_layOut_79 : decode cX8_layOut 79 = .ok (.iaload, 1) := by decide +kernel
theorem dX8_layOut_80 : decode cX8_layOut 80 = .ok (.iconst 1, 1) := by decide +kernel
theorem dX8_layOut_81 : decode cX8_layOut 81 = .ok (.bastore, 1) := by decide +kernel
theorem dX8_layOut_82 : decode cX8_layOut 82 = .ok (.aload_n 0, 1) := by decide +kernel
theorem dX8_layOut_83 : decode cX8_layOut 83 = .ok (.getfield 112, 3) := by decide +kernel
theorem dX8_layOut_86 : decode cX8_layOut 86 = .ok (.aload_n 0, 1) := by decide +kernel
theorem dX8_layOut_87 : decode cX8_layOut 87 = .ok (.getfield 99, 3) := by decide +kernel
theorem dX8_layOut_90 : decode cX8_layOut 90 = .ok (.iload_n 3, 1) := by decide +kernel
theorem dX8_layOut_91 : decode cX8_layOut 91 = .ok (.iaload, 1) := by decide +kernel
theorem dX8_layOut_92 : decode cX8_layOut 92 = .ok (.aload_n 0, 1) := by decide +kernel
theorem dX8_layOut_93 : decode cX8_layOut 93 = .ok (.getfield 108, 3) := by decide +kernel
theorem dX8_layOut_96 : decode cX8_layOut 96 = .ok (.iload_n 3, 1) := by decide +kernel
theorem dX8_layOut_97 : decode cX8_layOut 97 = .ok (.laload, 1) := by decide +kernel
theorem dX8_layOut_98 : decode cX8_layOut 98 = .ok (.lastore, 1) := by decide +kernel
theorem dX8_layOut_99 : decode cX8_layOut 99 = .ok (.iinc 3 1, 3) := by decide +kernel
theorem dX8_layOut_102 : decode cX8_layOut 102 = .ok (.goto (-72), 3) := by decide +kernel
theorem dX8_layOut_105 : decode cX8_layOut 105 = .ok (.bipush 39, 2) := by decide +kernel
theorem dX8_layOut_107 : decode cX8_layOut 107 = .ok (.istore_n 3, 1) := by decide +kernel
theorem dX8_layOut_108 : decode cX8_layOut 108 = .ok (.iload_n 3, 1) := by decide +kernel
theorem dX8_layOut_109 : decode cX8_layOut 109 = .ok (.ifCond .lt 93, 3) := by decide +kernel
theorem dX8_layOut_112 : decode cX8_layOut 112 = .ok (.aload_n 0, 1) := by decide +kernel
theorem dX8_layOut_113 : decode cX8_layOut 113 = .ok (.aload_n 0, 1) := by decide +kernel
theorem dX8_layOut_114 : decode cX8_layOut 114 = .ok (.getfield 115, 3) := by decide +kernel
theorem dX8_layOut_117 : decode cX8_layOut 117 = .ok (.iload_n 3, 1) := by decide +kernel
theorem dX8_layOut_118 : decode cX8_layOut 118 = .ok (.baload, 1) := by decide +kernel
theorem dX8_layOut_119 : decode cX8_layOut 119 = .ok (.ifCond .eq 7, 3) := by decide +kernel
theorem dX8_layOut_122 : decode cX8_layOut 122 = .ok (.iload_n 3, 1) := by decide +kernel
theorem dX8_layOut_123 : decode cX8_layOut 123 = .ok (.goto 7, 3) := by decide +kernel
theorem dX8_layOut_126 : decode cX8_layOut 126 = .ok (.aload_n 0, 1) := by decide +kernel
theorem dX8_layOut_127 : decode cX8_layOut 127 = .ok (.getfield 477, 3) := by decide +kernel
theorem dX8_layOut_130 : decode cX8_layOut 130 = .ok (.putfield 477, 3) := by decide +kernel
theorem dX8_layOut_133 : decode cX8_layOut 133 = .ok (.iconst 0, 1) := by decide +kernel
theorem dX8_layOut_134 : decode cX8_layOut 134 = .ok (.istore 4, 2) := by decide +kernel
theorem dX8_layOut_136 : decode cX8_layOut 136 = .ok (.iload 4, 2) := by decide +kernel
theorem dX8_layOut_138 : decode cX8_layOut 138 = .ok (.aload_n 0, 1) := by decide +kernel
theorem dX8_layOut_139 : decode cX8_layOut 139 = .ok (.getfield 151, 3) := by decide +kernel
theorem dX8_layOut_142 : decode cX8_layOut 142 = .ok (.if_icmp .ge 54, 3) := by decide +kernel
theorem dX8_layOut_145 : decode cX8_layOut 145 = .ok (.aload_n 0, 1) := by decide +kernel
theorem dX8_layOut_146 : decode cX8_layOut 146 = .ok (.getfield 115, 3) := by decide +kernel
theorem dX8_layOut_149 : decode cX8_layOut 149 = .ok (.iload_n 3, 1) := by decide +kernel
theorem dX8_layOut_150 : decode cX8_layOut 150 = .ok (.baload, 1) := by decide +kernel
theorem dX8_layOut_151 : decode cX8_layOut 151 = .ok (.ifCond .eq 45, 3) := by decide +kernel
theorem dX8_layOut_154 : decode cX8_layOut 154 = .ok (.iload_n 2, 1) := by decide +kernel
theorem dX8_layOut_155 : decode cX8_layOut 155 = .ok (.ifCond .eq 33, 3) := by decide +kernel
theorem dX8_layOut_158 : decode cX8_layOut 158 = .ok (.aload_n 0, 1) := by decide +kernel
theorem dX8_layOut_159 : decode cX8_layOut 159 = .ok (.getfield 30, 3) := by decide +kernel
theorem dX8_layOut_162 : decode cX8_layOut 162 = .ok (.iload 4, 2) := by decide +kernel
theorem dX8_layOut_164 : decode cX8_layOut 164 = .ok (.baload, 1) := by decide +kernel
theorem dX8_layOut_165 : decode cX8_layOut 165 = .ok (.ifCond .eq 19, 3) := by decide +kernel
theorem dX8_layOut_168 : decode cX8_layOut 168 = .ok (.aload_n 0, 1) := by decide +kernel
theorem dX8_layOut_169 : decode cX8_layOut 169 = .ok (.getfield 112, 3) := by decide +kernel
theorem dX8_layOut_172 : decode cX8_layOut 172 = .ok (.iload_n 3, 1) := by decide +kernel
theorem dX8_layOut_173 : decode cX8_layOut 173 = .ok (.laload, 1) := by decide +kernel
theorem dX8_layOut_174 : decode cX8_layOut 174 = .ok (.iload 4, 2) := by decide +kernel
theorem dX8_layOut_176 : decode cX8_layOut 176 = .ok (.lshr, 1) := by decide +kernel
theorem dX8_layOut_177 : decode cX8_layOut 177 = .ok (.lconst 1, 1) := by decide +kernel
theorem dX8_layOut_178 : decode cX8_layOut 178 = .ok (.land, 1) := by decide +kernel
theorem dX8_layOut_179 : decode cX8_layOut 179 = .ok (.lconst 1, 1) := by decide +kernel
theorem dX8_layOut_180 : decode cX8_layOut 180 = .ok (.lcmp, 1) := by decide +kernel
theorem dX8_layOut_181 : decode cX8_layOut 181 = .ok (.ifCond .eq 7, 3) := by decide +kernel
theorem dX8_layOut_184 : decode cX8_layOut 184 = .ok (.iconst 1, 1) := by decide +kernel
theorem dX8_layOut_185 : decode cX8_layOut 185 = .ok (.goto 4, 3) := by decide +kernel
theorem dX8_layOut_188 : decode cX8_layOut 188 = .ok (.iconst 0, 1) := by decide +kernel
theorem dX8_layOut_189 : decode cX8_layOut 189 = .ok (.istore_n 2, 1) := by decide +kernel
theorem dX8_layOut_190 : decode cX8_layOut 190 = .ok (.iinc 4 1, 3) := by decide +kernel
theorem dX8_layOut_193 : decode cX8_layOut 193 = .ok (.goto (-57), 3) := by decide +kernel
theorem dX8_layOut_196 : decode cX8_layOut 196 = .ok (.iinc 3 (-1), 3) := by decide +kernel
theorem dX8_layOut_199 : decode cX8_layOut 199 = .ok (.goto (-91), 3) := by decide +kernel
theorem dX8_layOut_202 : decode cX8_layOut 202 = .ok (.iload_n 2, 1) := by decide +kernel
theorem dX8_layOut_203 : decode cX8_layOut 203 = .ok (.ireturn, 1) := by decide +kernel
theorem dX8_startPlain_0 : decode cX8_startPlain 0 = .ok (.iconst 0, 1) := by decide +kernel
theorem dX8_startPlain_1 : decode cX8_startPlain 1 = .ok (.istore 4, 2) := by decide +kernel
theorem dX8_startPlain_3 : decode cX8_startPlain 3 = .ok (.iload 4, 2) := by decide +kernel
theorem dX8_startPlain_5 : decode cX8_startPlain 5 = .ok (.aload_n 0, 1) := by decide +kernel
theorem dX8_startPlain_6 : decode cX8_startPlain 6 = .ok (.getfield 151, 3) := by decide +kernel
theorem dX8_startPlain_9 : decode cX8_startPlain 9 = .ok (.if_icmp .ge 52, 3) := by decide +kernel
theorem dX8_startPlain_12 : decode cX8_startPlain 12 = .ok (.aload_n 0, 1) := by decide +kernel
theorem dX8_startPlain_13 : decode cX8_startPlain 13 = .ok (.getfield 121, 3) := by decide +kernel
theorem dX8_startPlain_16 : decode cX8_startPlain 16 = .ok (.bipush 40, 2) := by decide +kernel
theorem dX8_startPlain_18 : decode cX8_startPlain 18 = .ok (.iload_n 1, 1) := by decide +kernel
theorem dX8_startPlain_19 : decode cX8_startPlain 19 = .ok (.imul, 1) := by decide +kernel
theorem dX8_startPlain_20 : decode cX8_startPlain 20 = .ok (.iload 4, 2) := by decide +kernel
theorem dX8_startPlain_22 : decode cX8_startPlain 22 = .ok (.iadd, 1) := by decide +kernel
theorem dX8_startPlain_23 : decode cX8_startPlain 23 = .ok (.aload_n 0, 1) := by decide +kernel
theorem dX8_startPlain_24 : decode cX8_startPlain 24 = .ok (.getfield 30, 3) := by decide +kernel
theorem dX8_startPlain_27 : decode cX8_startPlain 27 = .ok (.iload 4, 2) := by decide +kernel
theorem dX8_startPlain_29 : decode cX8_startPlain 29 = .ok (.baload, 1) := by decide +kernel
theorem dX8_startPlain_30 : decode cX8_startPlain 30 = .ok (.ifCond .eq 8, 3) := by decide +kernel
theorem dX8_startPlain_33 : decode cX8_startPlain 33 = .ok (.bipush 40, 2) := by decide +kernel
theorem dX8_startPlain_35 : decode cX8_startPlain 35 = .ok (.goto 19, 3) := by decide +kernel
theorem dX8_startPlain_38 : decode cX8_startPlain 38 = .ok (.lload_n 2, 1) := by decide +kernel
theorem dX8_startPlain_39 : decode cX8_startPlain 39 = .ok (.iload 4, 2) := by decide +kernel
theorem dX8_startPlain_41 : decode cX8_startPlain 41 = .ok (.lshr, 1) := by decide +kernel
theorem dX8_startPlain_42 : decode cX8_startPlain 42 = .ok (.lconst 1, 1) := by decide +kernel
theorem dX8_startPlain_43 : decode cX8_startPlain 43 = .ok (.land, 1) := by decide +kernel
theorem dX8_startPlain_44 : decode cX8_startPlain 44 = .ok (.lconst 1, 1) := by decide +kernel
theorem dX8_startPlain_45 : decode cX8_startPlain 45 = .ok (.lcmp, 1) := by decide +kernel
theorem dX8_startPlain_46 : decode cX8_startPlain 46 = .ok (.ifCond .ne 7, 3) := by decide +kernel
theorem dX8_startPlain_49 : decode cX8_startPlain 49 = .ok (.iconst 1, 1) := by decide +kernel
theorem dX8_startPlain_50 : decode cX8_startPlain 50 = .ok (.goto 4, 3) := by decide +kernel
theorem dX8_startPlain_53 : decode cX8_startPlain 53 = .ok (.iconst 0, 1) := by decide +kernel
theorem dX8_startPlain_54 : decode cX8_startPlain 54 = .ok (.iastore, 1) := by decide +kernel
theorem dX8_startPlain_55 : decode cX8_startPlain 55 = .ok (.iinc 4 1, 3) := by decide +kernel
theorem dX8_startPlain_58 : decode cX8_startPlain 58 = .ok (.goto (-55), 3) := by decide +kernel
theorem dX8_startPlain_61 : decode cX8_startPlain 61 = .ok (.return_, 1) := by decide +kernel
theorem dX8_stepPlain_0 : decode cX8_stepPlain 0 = .ok (.iload_n 2, 1) := by decide +kernel
theorem dX8_stepPlain_1 : decode cX8_stepPlain 1 = .ok (.iconst 4, 1) := by decide +kernel
theorem dX8_stepPlain_2 : decode cX8_stepPlain 2 = .ok (.irem, 1) := by decide +kernel
theorem dX8_stepPlain_3 : decode cX8_stepPlain 3 = .ok (.istore_n 3, 1) := by decide +kernel
theorem dX8_stepPlain_4 : decode cX8_stepPlain 4 = .ok (.iload_n 2, 1) := by decide +kernel
theorem dX8_stepPlain_5 : decode cX8_stepPlain 5 = .ok (.iconst 4, 1) := by decide +kernel
theorem dX8_stepPlain_6 : decode cX8_stepPlain 6 = .ok (.idiv, 1) := by decide +kernel
theorem dX8_stepPlain_7 : decode cX8_stepPlain 7 = .ok (.iconst 3, 1) := by decide +kernel
theorem dX8_stepPlain_8 : decode cX8_stepPlain 8 = .ok (.irem, 1) := by decide +kernel
theorem dX8_stepPlain_9 : decode cX8_stepPlain 9 = .ok (.iconst 1, 1) := by decide +kernel
theorem dX8_stepPlain_10 : decode cX8_stepPlain 10 = .ok (.iadd, 1) := by decide +kernel
theorem dX8_stepPlain_11 : decode cX8_stepPlain 11 = .ok (.istore 4, 2) := by decide +kernel
theorem dX8_stepPlain_13 : decode cX8_stepPlain 13 = .ok (.iload_n 2, 1) := by decide +kernel
theorem dX8_stepPlain_14 : decode cX8_stepPlain 14 = .ok (.bipush 12, 2) := by decide +kernel
theorem dX8_stepPlain_16 : decode cX8_stepPlain 16 = .ok (.idiv, 1) := by decide +kernel
theorem dX8_stepPlain_17 : decode cX8_stepPlain 17 = .ok (.iconst 3, 1) := by decide +kernel
theorem dX8_stepPlain_18 : decode cX8_stepPlain 18 = .ok (.irem, 1) := by decide +kernel
theorem dX8_stepPlain_19 : decode cX8_stepPlain 19 = .ok (.iconst 1, 1) := by decide +kernel
theorem dX8_stepPlain_20 : decode cX8_stepPlain 20 = .ok (.iadd, 1) := by decide +kernel
theorem dX8_stepPlain_21 : decode cX8_stepPlain 21 = .ok (.istore 5, 2) := by decide +kernel
theorem dX8_stepPlain_23 : decode cX8_stepPlain 23 = .ok (.iload_n 2, 1) := by decide +kernel
theorem dX8_stepPlain_24 : decode cX8_stepPlain 24 = .ok (.bipush 36, 2) := by decide +kernel
theorem dX8_stepPlain_26 : decode cX8_stepPlain 26 = .ok (.idiv, 1) := by decide +kernel
theorem dX8_stepPlain_27 : decode cX8_stepPlain 27 = .ok (.iconst 3, 1) := by decide +kernel
theorem dX8_stepPlain_28 : decode cX8_stepPlain 28 = .ok (.irem, 1) := by decide +kernel
theorem dX8_stepPlain_29 : decode cX8_stepPlain 29 = .ok (.iconst 1, 1) := by decide +kernel
theorem dX8_stepPlain_30 : decode cX8_stepPlain 30 = .ok (.iadd, 1) := by decide +kernel
theorem dX8_stepPlain_31 : decode cX8_stepPlain 31 = .ok (.istore 6, 2) := by decide +kernel
theorem dX8_stepPlain_33 : decode cX8_stepPlain 33 = .ok (.iload_n 2, 1) := by decide +kernel
theorem dX8_stepPlain_34 : decode cX8_stepPlain 34 = .ok (.bipush 108, 2) := by decide +kernel
theorem dX8_stepPlain_36 : decode cX8_stepPlain 36 = .ok (.idiv, 1) := by decide +kernel
theorem dX8_stepPlain_37 : decode cX8_stepPlain 37 = .ok (.istore 7, 2) := by decide +kernel
theorem dX8_stepPlain_39 : decode cX8_stepPlain 39 = .ok (.iconst 0, 1) := by decide +kernel
theorem dX8_stepPlain_40 : decode cX8_stepPlain 40 = .ok (.istore 8, 2) := by decide +kernel
theorem dX8_stepPlain_42 : decode cX8_stepPlain 42 = .ok (.iload 8, 2) := by decide +kernel
theorem dX8_stepPlain_44 : decode cX8_stepPlain 44 = .ok (.aload_n 0, 1) := by decide +kernel
theorem dX8_stepPlain_45 : decode cX8_stepPlain 45 = .ok (.getfield 151, 3) := by decide +kernel
theorem dX8_stepPlain_48 : decode cX8_stepPlain 48 = .ok (.if_icmp .ge 28, 3) := by decide +kernel
theorem dX8_stepPlain_51 : decode cX8_stepPlain 51 = .ok (.aload_n 0, 1) := by decide +kernel
theorem dX8_stepPlain_52 : decode cX8_stepPlain 52 = .ok (.getfield 127, 3) := by decide +kernel
theorem dX8_stepPlain_55 : decode cX8_stepPlain 55 = .ok (.iload 8, 2) := by decide +kernel
theorem dX8_stepPlain_57 : decode cX8_stepPlain 57 = .ok (.aload_n 0, 1) := by decide +kernel
theorem dX8_stepPlain_58 : decode cX8_stepPlain 58 = .ok (.getfield 121, 3) := by decide +kernel
theorem dX8_stepPlain_61 : decode cX8_stepPlain 61 = .ok (.bipush 40, 2) := by decide +kernel
theorem dX8_stepPlain_63 : decode cX8_stepPlain 63 = .ok (.iload_n 1, 1) := by decide +kernel
theorem dX8_stepPlain_64 : decode cX8_stepPlain 64 = .ok (.imul, 1) := by decide +kernel
theorem dX8_stepPlain_65 : decode cX8_stepPlain 65 = .ok (.iload 8, 2) := by decide +kernel
theorem dX8_stepPlain_67 : decode cX8_stepPlain 67 = .ok (.iadd, 1) := by decide +kernel
theorem dX8_stepPlain_68 : decode cX8_stepPlain 68 = .ok (.iaload, 1) := by decide +kernel
theorem dX8_stepPlain_69 : decode cX8_stepPlain 69 = .ok (.iastore, 1) := by decide +kernel
theorem dX8_stepPlain_70 : decode cX8_stepPlain 70 = .ok (.iinc 8 1, 3) := by decide +kernel
theorem dX8_stepPlain_73 : decode cX8_stepPlain 73 = .ok (.goto (-31), 3) := by decide +kernel
theorem dX8_stepPlain_76 : decode cX8_stepPlain 76 = .ok (.iconst 0, 1) := by decide +kernel
theorem dX8_stepPlain_77 : decode cX8_stepPlain 77 = .ok (.istore 8, 2) := by decide +kernel
theorem dX8_stepPlain_79 : decode cX8_stepPlain 79 = .ok (.iload 8, 2) := by decide +kernel
theorem dX8_stepPlain_81 : decode cX8_stepPlain 81 = .ok (.aload_n 0, 1) := by decide +kernel
theorem dX8_stepPlain_82 : decode cX8_stepPlain 82 = .ok (.getfield 151, 3) := by decide +kernel
theorem dX8_stepPlain_85 : decode cX8_stepPlain 85 = .ok (.if_icmp .ge 112, 3) := by decide +kernel
theorem dX8_stepPlain_88 : decode cX8_stepPlain 88 = .ok (.iload 7, 2) := by decide +kernel
theorem dX8_stepPlain_90 : decode cX8_stepPlain 90 = .ok (.iconst 1, 1) := by decide +kernel
theorem dX8_stepPlain_91 : decode cX8_stepPlain 91 = .ok (.if_icmp .ne 7, 3) := by decide +kernel
theorem dX8_stepPlain_94 : decode cX8_stepPlain 94 = .ok (.iconst 0, 1) := by decide +kernel
theorem dX8_stepPlain_95 : decode cX8_stepPlain 95 = .ok (.goto 16, 3) := by decide +kernel
theorem dX8_stepPlain_98 : decode cX8_stepPlain 98 = .ok (.aload_n 0, 1) := by decide +kernel
theorem dX8_stepPlain_99 : decode cX8_stepPlain 99 = .ok (.aload_n 0, 1) := by decide +kernel
theorem dX8_stepPlain_100 : decode cX8_stepPlain 100 = .ok (.getfield 127, 3) := by decide +kernel
theorem dX8_stepPlain_103 : decode cX8_stepPlain 103 = .ok (.iload 8, 2) := by decide +kernel
theorem dX8_stepPlain_105 : decode cX8_stepPlain 105 = .ok (.iconst (-1), 1) := by decide +kernel
theorem dX8_stepPlain_106 : decode cX8_stepPlain 106 = .ok (.iload 6, 2) := by decide +kernel
theorem dX8_stepPlain_108 : decode cX8_stepPlain 108 = .ok (.invokevirtual 399, 3) := by decide +kernel
theorem dX8_stepPlain_111 : decode cX8_stepPlain 111 = .ok (.istore 9, 2) := by decide +kernel
theorem dX8_stepPlain_113 : decode cX8_stepPlain 113 = .ok (.iload 9, 2) := by decide +kernel
theorem dX8_stepPlain_115 : decode cX8_stepPlain 115 = .ok (.iload 7, 2) := by decide +kernel
theorem dX8_stepPlain_117 : decode cX8_stepPlain 117 = .ok (.ifCond .ne 7, 3) := by decide +kernel
theorem dX8_stepPlain_120 : decode cX8_stepPlain 120 = .ok (.iconst 0, 1) := by decide +kernel
theorem dX8_stepPlain_121 : decode cX8_stepPlain 121 = .ok (.goto 16, 3) := by decide +kernel
theorem dX8_stepPlain_124 : decode cX8_stepPlain 124 = .ok (.aload_n 0, 1) := by decide +kernel
theorem dX8_stepPlain_125 : decode cX8_stepPlain 125 = .ok (.aload_n 0, 1) := by decide +kernel
theorem dX8_stepPlain_126 : decode cX8_stepPlain 126 = .ok (.getfield 127, 3) := by decide +kernel
theorem dX8_stepPlain_129 : decode cX8_stepPlain 129 = .ok (.iload 8, 2) := by decide +kernel
theorem dX8_stepPlain_131 : decode cX8_stepPlain 131 = .ok (.iconst 1, 1) := by decide +kernel
theorem dX8_stepPlain_132 : decode cX8_stepPlain 132 = .ok (.iload 6, 2) := by decide +kernel
theorem dX8_stepPlain_134 : decode cX8_stepPlain 134 = .ok (.invokevirtual 399, 3) := by decide +kernel
theorem dX8_stepPlain_137 : decode cX8_stepPlain 137 = .ok (.iadd, 1) := by decide +kernel
theorem dX8_stepPlain_138 : decode cX8_stepPlain 138 = .ok (.istore 9, 2) := by decide +kernel
theorem dX8_stepPlain_140 : decode cX8_stepPlain 140 = .ok (.aload_n 0, 1) := by decide +kernel
theorem dX8_stepPlain_141 : decode cX8_stepPlain 141 = .ok (.getfield 124, 3) := by decide +kernel
theorem dX8_stepPlain_144 : decode cX8_stepPlain 144 = .ok (.iload 8, 2) := by decide +kernel
theorem dX8_stepPlain_146 : decode cX8_stepPlain 146 = .ok (.aload_n 0, 1) := by decide +kernel
theorem dX8_stepPlain_147 : decode cX8_stepPlain 147 = .ok (.getfield 127, 3) := by decide +kernel
theorem dX8_stepPlain_150 : decode cX8_stepPlain 150 = .ok (.iload 8, 2) := by decide +kernel
theorem dX8_stepPlain_152 : decode cX8_stepPlain 152 = .ok (.iaload, 1) := by decide +kernel
theorem dX8_stepPlain_153 : decode cX8_stepPlain 153 = .ok (.ifCond .ne 24, 3) := by decide +kernel
theorem dX8_stepPlain_156 : decode cX8_stepPlain 156 = .ok (.aload_n 0, 1) := by decide +kernel
theorem dX8_stepPlain_157 : decode cX8_stepPlain 157 = .ok (.getfield 27, 3) := by decide +kernel
theorem dX8_stepPlain_160 : decode cX8_stepPlain 160 = .ok (.iload 8, 2) := by decide +kernel
theorem dX8_stepPlain_162 : decode cX8_stepPlain 162 = .ok (.baload, 1) := by decide +kernel
theorem dX8_stepPlain_163 : decode cX8_stepPlain 163 = .ok (.ifCond .ne 14, 3) := by decide +kernel
theorem dX8_stepPlain_166 : decode cX8_stepPlain 166 = .ok (.iload 9, 2) := by decide +kernel
theorem dX8_stepPlain_168 : decode cX8_stepPlain 168 = .ok (.iload 5, 2) := by decide +kernel
theorem dX8_stepPlain_170 : decode cX8_stepPlain 170 = .ok (.if_icmp .lt 7, 3) := by decide +kernel
theorem dX8_stepPlain_173 : decode cX8_stepPlain 173 = .ok (.iconst 1, 1) := by decide +kernel
theorem dX8_stepPlain_174 : decode cX8_stepPlain 174 = .ok (.goto 16, 3) := by decide +kernel
theorem dX8_stepPlain_177 : decode cX8_stepPlain 177 = .ok (.aload_n 0, 1) := by decide +kernel
theorem dX8_stepPlain_178 : decode cX8_stepPlain 178 = .ok (.getfield 127, 3) := by decide +kernel
theorem dX8_stepPlain_181 : decode cX8_stepPlain 181 = .ok (.iload 8, 2) := by decide +kernel
theorem dX8_stepPlain_183 : decode cX8_stepPlain 183 = .ok (.iaload, 1) := by decide +kernel
theorem dX8_stepPlain_184 : decode cX8_stepPlain 184 = .ok (.iload 4, 2) := by decide +kernel
theorem dX8_stepPlain_186 : decode cX8_stepPlain 186 = .ok (.iload_n 3, 1) := by decide +kernel
theorem dX8_stepPlain_187 : decode cX8_stepPlain 187 = .ok (.invokestatic 424, 3) := by decide +kernel
theorem dX8_stepPlain_190 : decode cX8_stepPlain 190 = .ok (.iastore, 1) := by decide +kernel
theorem dX8_stepPlain_191 : decode cX8_stepPlain 191 = .ok (.iinc 8 1, 3) := by decide +kernel
theorem dX8_stepPlain_194 : decode cX8_stepPlain 194 = .ok (.goto (-115), 3) := by decide +kernel
theorem dX8_stepPlain_197 : decode cX8_stepPlain 197 = .ok (.iconst 0, 1) := by decide +kernel
theorem dX8_stepPlain_198 : decode cX8_stepPlain 198 = .ok (.istore 8, 2) := by decide +kernel
theorem dX8_stepPlain_200 : decode cX8_stepPlain 200 = .ok (.iload 8, 2) := by decide +kernel
theorem dX8_stepPlain_202 : decode cX8_stepPlain 202 = .ok (.aload_n 0, 1) := by decide +kernel
theorem dX8_stepPlain_203 : decode cX8_stepPlain 203 = .ok (.getfield 151, 3) := by decide +kernel
theorem dX8_stepPlain_206 : decode cX8_stepPlain 206 = .ok (.if_icmp .ge 28, 3) := by decide +kernel
theorem dX8_stepPlain_209 : decode cX8_stepPlain 209 = .ok (.aload_n 0, 1) := by decide +kernel
theorem dX8_stepPlain_210 : decode cX8_stepPlain 210 = .ok (.getfield 121, 3) := by decide +kernel
theorem dX8_stepPlain_213 : decode cX8_stepPlain 213 = .ok (.bipush 40, 2) := by decide +kernel
theorem dX8_stepPlain_215 : decode cX8_stepPlain 215 = .ok (.iload_n 1, 1) := by decide +kernel
theorem dX8_stepPlain_216 : decode cX8_stepPlain 216 = .ok (.imul, 1) := by decide +kernel
theorem dX8_stepPlain_217 : decode cX8_stepPlain 217 = .ok (.iload 8, 2) := by decide +kernel
theorem dX8_stepPlain_219 : decode cX8_stepPlain 219 = .ok (.iadd, 1) := by decide +kernel
theorem dX8_stepPlain_220 : decode cX8_stepPlain 220 = .ok (.aload_n 0, 1) := by decide +kernel
theorem dX8_stepPlain_221 : decode cX8_stepPlain 221 = .ok (.getfield 124, 3) := by decide +kernel
theorem dX8_stepPlain_224 : decode cX8_stepPlain 224 = .ok (.iload 8, 2) := by decide +kernel
theorem dX8_stepPlain_226 : decode cX8_stepPlain 226 = .ok (.iaload, 1) := by decide +kernel
theorem dX8_stepPlain_227 : decode cX8_stepPlain 227 = .ok (.iastore, 1) := by decide +kernel
theorem dX8_stepPlain_228 : decode cX8_stepPlain 228 = .ok (.iinc 8 1, 3) := by decide +kernel
theorem dX8_stepPlain_231 : decode cX8_stepPlain 231 = .ok (.goto (-31), 3) := by decide +kernel
theorem dX8_stepPlain_234 : decode cX8_stepPlain 234 = .ok (.return_, 1) := by decide +kernel
theorem dX8_upsOf_0 : decode cX8_upsOf 0 = .ok (.lconst 0, 1) := by decide +kernel
theorem dX8_upsOf_1 : decode cX8_upsOf 1 = .ok (.lstore_n 2, 1) := by decide +kernel
theorem dX8_upsOf_2 : decode cX8_upsOf 2 = .ok (.iconst 0, 1) := by decide +kernel
theorem dX8_upsOf_3 : decode cX8_upsOf 3 = .ok (.istore 4, 2) := by decide +kernel
theorem dX8_upsOf_5 : decode cX8_upsOf 5 = .ok (.iload 4, 2) := by decide +kernel
theorem dX8_upsOf_7 : decode cX8_upsOf 7 = .ok (.aload_n 0, 1) := by decide +kernel
theorem dX8_upsOf_8 : decode cX8_upsOf 8 = .ok (.getfield 151, 3) := by decide +kernel
theorem dX8_upsOf_11 : decode cX8_upsOf 11 = .ok (.if_icmp .ge 38, 3) := by decide +kernel
theorem dX8_upsOf_14 : decode cX8_upsOf 14 = .ok (.lload_n 2, 1) := by decide +kernel
theorem dX8_upsOf_15 : decode cX8_upsOf 15 = .ok (.aload_n 0, 1) := by decide +kernel
theorem dX8_upsOf_16 : decode cX8_upsOf 16 = .ok (.getfield 121, 3) := by decide +kernel
theorem dX8_upsOf_19 : decode cX8_upsOf 19 = .ok (.bipush 40, 2) := by decide +kernel
theorem dX8_upsOf_21 : decode cX8_upsOf 21 = .ok (.iload_n 1, 1) := by decide +kernel
theorem dX8_upsOf_22 : decode cX8_upsOf 22 = .ok (.imul, 1) := by decide +kernel
theorem dX8_upsOf_23 : decode cX8_upsOf 23 = .ok (.iload 4, 2) := by decide +kernel
theorem dX8_upsOf_25 : decode cX8_upsOf 25 = .ok (.iadd, 1) := by decide +kernel
theorem dX8_upsOf_26 : decode cX8_upsOf 26 = .ok (.iaload, 1) := by decide +kernel
theorem dX8_upsOf_27 : decode cX8_upsOf 27 = .ok (.invokestatic 393, 3) := by decide +kernel
theorem dX8_upsOf_30 : decode cX8_upsOf 30 = .ok (.ifCond .eq 10, 3) := by decide +kernel
theorem dX8_upsOf_33 : decode cX8_upsOf 33 = .ok (.lconst 1, 1) := by decide +kernel
theorem dX8_upsOf_34 : decode cX8_upsOf 34 = .ok (.iload 4, 2) := by decide +kernel
theorem dX8_upsOf_36 : decode cX8_upsOf 36 = .ok (.lshl, 1) := by decide +kernel
theorem dX8_upsOf_37 : decode cX8_upsOf 37 = .ok (.goto 4, 3) := by decide +kernel
theorem dX8_upsOf_40 : decode cX8_upsOf 40 = .ok (.lconst 0, 1) := by decide +kernel
theorem dX8_upsOf_41 : decode cX8_upsOf 41 = .ok (.lor, 1) := by decide +kernel
theorem dX8_upsOf_42 : decode cX8_upsOf 42 = .ok (.lstore_n 2, 1) := by decide +kernel
theorem dX8_upsOf_43 : decode cX8_upsOf 43 = .ok (.iinc 4 1, 3) := by decide +kernel
theorem dX8_upsOf_46 : decode cX8_upsOf 46 = .ok (.goto (-41), 3) := by decide +kernel
theorem dX8_upsOf_49 : decode cX8_upsOf 49 = .ok (.lload_n 2, 1) := by decide +kernel
theorem dX8_upsOf_50 : decode cX8_upsOf 50 = .ok (.lreturn, 1) := by decide +kernel
theorem dX8_fitsAll_0 : decode cX8_fitsAll 0 = .ok (.aload_n 0, 1) := by decide +kernel
theorem dX8_fitsAll_1 : decode cX8_fitsAll 1 = .ok (.iconst 0, 1) := by decide +kernel
theorem dX8_fitsAll_2 : decode cX8_fitsAll 2 = .ok (.aload_n 0, 1) := by decide +kernel
theorem dX8_fitsAll_3 : decode cX8_fitsAll 3 = .ok (.getfield 112, 3) := by decide +kernel
theorem dX8_fitsAll_6 : decode cX8_fitsAll 6 = .ok (.aload_n 0, 1) := by decide +kernel
theorem dX8_fitsAll_7 : decode cX8_fitsAll 7 = .ok (.getfield 477, 3) := by decide +kernel
theorem dX8_fitsAll_10 : decode cX8_fitsAll 10 = .ok (.laload, 1) := by decide +kernel
theorem dX8_fitsAll_11 : decode cX8_fitsAll 11 = .ok (.invokevirtual 480, 3) := by decide +kernel
theorem dX8_fitsAll_14 : decode cX8_fitsAll 14 = .ok (.aload_n 0, 1) := by decide +kernel
theorem dX8_fitsAll_15 : decode cX8_fitsAll 15 = .ok (.getfield 477, 3) := by decide +kernel
theorem dX8_fitsAll_18 : decode cX8_fitsAll 18 = .ok (.iconst 1, 1) := by decide +kernel
theorem dX8_fitsAll_19 : decode cX8_fitsAll 19 = .ok (.iadd, 1) := by decide +kernel
theorem dX8_fitsAll_20 : decode cX8_fitsAll 20 = .ok (.istore_n 2, 1) := by decide +kernel
theorem dX8_fitsAll_21 : decode cX8_fitsAll 21 = .ok (.iload_n 2, 1) := by decide +kernel
theorem dX8_fitsAll_22 : decode cX8_fitsAll 22 = .ok (.bipush 40, 2) := by decide +kernel
theorem dX8_fitsAll_24 : decode cX8_fitsAll 24 = .ok (.if_icmp .ge 41, 3) := by decide +kernel
theorem dX8_fitsAll_27 : decode cX8_fitsAll 27 = .ok (.aload_n 0, 1) := by decide +kernel
theorem dX8_fitsAll_28 : decode cX8_fitsAll 28 = .ok (.iconst 0, 1) := by decide +kernel
theorem dX8_fitsAll_29 : decode cX8_fitsAll 29 = .ok (.iload_n 1, 1) := by decide +kernel
theorem dX8_fitsAll_30 : decode cX8_fitsAll 30 = .ok (.invokevirtual 484, 3) := by decide +kernel
theorem dX8_fitsAll_33 : decode cX8_fitsAll 33 = .ok (.aload_n 0, 1) := by decide +kernel
theorem dX8_fitsAll_34 : decode cX8_fitsAll 34 = .ok (.getfield 115, 3) := by decide +kernel
theorem dX8_fitsAll_37 : decode cX8_fitsAll 37 = .ok (.iload_n 2, 1) := by decide +kernel
theorem dX8_fitsAll_38 : decode cX8_fitsAll 38 = .ok (.baload, 1) := by decide +kernel
theorem dX8_fitsAll_39 : decode cX8_fitsAll 39 = .ok (.ifCond .eq 20, 3) := by decide +kernel
theorem dX8_fitsAll_42 : decode cX8_fitsAll 42 = .ok (.aload_n 0, 1) := by decide +kernel
theorem dX8_fitsAll_43 : decode cX8_fitsAll 43 = .ok (.iconst 0, 1) := by decide +kernel
theorem dX8_fitsAll_44 : decode cX8_fitsAll 44 = .ok (.invokevirtual 487, 3) := by decide +kernel
theorem dX8_fitsAll_47 : decode cX8_fitsAll 47 = .ok (.aload_n 0, 1) := by decide +kernel
theorem dX8_fitsAll_48 : decode cX8_fitsAll 48 = .ok (.getfield 112, 3) := by decide +kernel
theorem dX8_fitsAll_51 : decode cX8_fitsAll 51 = .ok (.iload_n 2, 1) := by decide +kernel
theorem dX8_fitsAll_52 : decode cX8_fitsAll 52 = .ok (.laload, 1) := by decide +kernel
theorem dX8_fitsAll_53 : decode cX8_fitsAll 53 = .ok (.lcmp, 1) := by decide +kernel
theorem dX8_fitsAll_54 : decode cX8_fitsAll 54 = .ok (.ifCond .eq 5, 3) := by decide +kernel
theorem dX8_fitsAll_57 : decode cX8_fitsAll 57 = .ok (.iconst 0, 1) := by decide +kernel
theorem dX8_fitsAll_58 : decode cX8_fitsAll 58 = .ok (.ireturn, 1) := by decide +kernel
theorem dX8_fitsAll_59 : decode cX8_fitsAll 59 = .ok (.iinc 2 1, 3) := by decide +kernel
theorem dX8_fitsAll_62 : decode cX8_fitsAll 62 = .ok (.goto (-41), 3) := by decide +kernel
theorem dX8_fitsAll_65 : decode cX8_fitsAll 65 = .ok (.iconst 1, 1) := by decide +kernel
theorem dX8_fitsAll_66 : decode cX8_fitsAll 66 = .ok (.ireturn, 1) := by decide +kernel
theorem dX8_seekFits_0 : decode cX8_seekFits 0 = .ok (.aload_n 0, 1) := by decide +kernel
theorem dX8_seekFits_1 : decode cX8_seekFits 1 = .ok (.iload_n 1, 1) := by decide +kernel
theorem dX8_seekFits_2 : decode cX8_seekFits 2 = .ok (.invokevirtual 491, 3) := by decide +kernel
theorem dX8_seekFits_5 : decode cX8_seekFits 5 = .ok (.istore_n 2, 1) := by decide +kernel
theorem dX8_seekFits_6 : decode cX8_seekFits 6 = .ok (.iconst 0, 1) := by decide +kernel
theorem dX8_seekFits_7 : decode cX8_seekFits 7 = .ok (.istore_n 3, 1) := by decide +kernel
theorem dX8_seekFits_8 : decode cX8_seekFits 8 = .ok (.iconst 0, 1) := by decide +kernel
theorem dX8_seekFits_9 : decode cX8_seekFits 9 = .ok (.istore 4, 2) := by decide +kernel
theorem dX8_seekFits_11 : decode cX8_seekFits 11 = .ok (.iload 4, 2) := by decide +kernel
theorem dX8_seekFits_13 : decode cX8_seekFits 13 = .ok (.sipush 324, 3) := by decide +kernel
theorem dX8_seekFits_16 : decode cX8_seekFits 16 = .ok (.if_icmp .ge 59, 3) := by decide +kernel
theorem dX8_seekFits_19 : decode cX8_seekFits 19 = .ok (.aload_n 0, 1) := by decide +kernel
theorem dX8_seekFits_20 : decode cX8_seekFits 20 = .ok (.getfield 118, 3) := by decide +kernel
theorem dX8_seekFits_23 : decode cX8_seekFits 23 = .ok (.iload 4, 2) := by decide +kernel
theorem dX8_seekFits_25 : decode cX8_seekFits 25 = .ok (.iload_n 2, 1) := by decide +kernel
theorem dX8_seekFits_26 : decode cX8_seekFits 26 = .ok (.ifCond .eq 23, 3) := by decide +kernel
theorem dX8_seekFits_29 : decode cX8_seekFits 29 = .ok (.aload_n 0, 1) := by decide +kernel
theorem dX8_seekFits_30 : decode cX8_seekFits 30 = .ok (.getfield 477, 3) := by decide +kernel
theorem dX8_seekFits_33 : decode cX8_seekFits 33 = .ok (.ifCond .lt 12, 3) := by decide +kernel
theorem dX8_seekFits_36 : decode cX8_seekFits 36 = .ok (.aload_n 0, 1) := by decide +kernel
theorem dX8_seekFits_37 : decode cX8_seekFits 37 = .ok (.iload 4, 2) := by decide +kernel
theorem dX8_seekFits_39 : decode cX8_seekFits 39 = .ok (.invokevirtual 494, 3) := by decide +kernel
theorem dX8_seekFits_42 : decode cX8_seekFits 42 = .ok (.ifCond .eq 7, 3) := by decide +kernel
theorem dX8_seekFits_45 : decode cX8_seekFits 45 = .ok (.iconst 1, 1) := by decide +kernel
theorem dX8_seekFits_46 : decode cX8_seekFits 46 = .ok (.goto 4, 3) := by decide +kernel
theorem dX8_seekFits_49 : decode cX8_seekFits 49 = .ok (.iconst 0, 1) := by decide +kernel
theorem dX8_seekFits_50 : decode cX8_seekFits 50 = .ok (.bastore, 1) := by decide +kernel
theorem dX8_seekFits_51 : decode cX8_seekFits 51 = .ok (.iload_n 3, 1) := by decide +kernel
theorem dX8_seekFits_52 : decode cX8_seekFits 52 = .ok (.aload_n 0, 1) := by decide +kernel
theorem dX8_seekFits_53 : decode cX8_seekFits 53 = .ok (.getfield 118, 3) := by decide +kernel
theorem dX8_seekFits_56 : decode cX8_seekFits 56 = .ok (.iload 4, 2) := by decide +kernel
theorem dX8_seekFits_58 : decode cX8_seekFits 58 = .ok (.baload, 1) := by decide +kernel
theorem dX8_seekFits_59 : decode cX8_seekFits 59 = .ok (.ifCond .eq 7, 3) := by decide +kernel
theorem dX8_seekFits_62 : decode cX8_seekFits 62 = .ok (.iconst 1, 1) := by decide +kernel
theorem dX8_seekFits_63 : decode cX8_seekFits 63 = .ok (.goto 4, 3) := by decide +kernel
theorem dX8_seekFits_66 : decode cX8_seekFits 66 = .ok (.iconst 0, 1) := by decide +kernel
theorem dX8_seekFits_67 : decode cX8_seekFits 67 = .ok (.iadd, 1) := by decide +kernel
theorem dX8_seekFits_68 : decode cX8_seekFits 68 = .ok (.istore_n 3, 1) := by decide +kernel
theorem dX8_seekFits_69 : decode cX8_seekFits 69 = .ok (.iinc 4 1, 3) := by decide +kernel
theorem dX8_seekFits_72 : decode cX8_seekFits 72 = .ok (.goto (-61), 3) := by decide +kernel
theorem dX8_seekFits_75 : decode cX8_seekFits 75 = .ok (.iload_n 3, 1) := by decide +kernel
theorem dX8_seekFits_76 : decode cX8_seekFits 76 = .ok (.ireturn, 1) := by decide +kernel
theorem dX8_fits_0 : decode cX8_fits 0 = .ok (.aload_n 0, 1) := by decide +kernel
theorem dX8_fits_1 : decode cX8_fits 1 = .ok (.iload_n 1, 1) := by decide +kernel
theorem dX8_fits_2 : decode cX8_fits 2 = .ok (.invokevirtual 497, 3) := by decide +kernel
theorem dX8_fits_5 : decode cX8_fits 5 = .ok (.ireturn, 1) := by decide +kernel
theorem dX8_fit_0 : decode cX8_fit 0 = .ok (.iload_n 1, 1) := by decide +kernel
theorem dX8_fit_1 : decode cX8_fit 1 = .ok (.ifCond .lt 12, 3) := by decide +kernel
theorem dX8_fit_4 : decode cX8_fit 4 = .ok (.iload_n 1, 1) := by decide +kernel
theorem dX8_fit_5 : decode cX8_fit 5 = .ok (.aload_n 0, 1) := by decide +kernel
theorem dX8_fit_6 : decode cX8_fit 6 = .ok (.iload_n 2, 1) := by decide +kernel
theorem dX8_fit_7 : decode cX8_fit 7 = .ok (.invokevirtual 497, 3) := by decide +kernel
theorem dX8_fit_10 : decode cX8_fit 10 = .ok (.if_icmp .lt 5, 3) := by decide +kernel
theorem dX8_fit_13 : decode cX8_fit 13 = .ok (.iconst (-1), 1) := by decide +kernel
theorem dX8_fit_14 : decode cX8_fit 14 = .ok (.ireturn, 1) := by decide +kernel
theorem dX8_fit_15 : decode cX8_fit 15 = .ok (.iload_n 1, 1) := by decide +kernel
theorem dX8_fit_16 : decode cX8_fit 16 = .ok (.istore_n 3, 1) := by decide +kernel
theorem dX8_fit_17 : decode cX8_fit 17 = .ok (.iconst 0, 1) := by decide +kernel
theorem dX8_fit_18 : decode cX8_fit 18 = .ok (.istore 4, 2) := by decide +kernel
theorem dX8_fit_20 : decode cX8_fit 20 = .ok (.aload_n 0, 1) := by decide +kernel
theorem dX8_fit_21 : decode cX8_fit 21 = .ok (.getfield 118, 3) := by decide +kernel
theorem dX8_fit_24 : decode cX8_fit 24 = .ok (.iload 4, 2) := by decide +kernel
theorem dX8_fit_26 : decode cX8_fit 26 = .ok (.baload, 1) := by decide +kernel
theorem dX8_fit_27 : decode cX8_fit 27 = .ok (.ifCond .eq 7, 3) := by decide +kernel
theorem dX8_fit_30 : decode cX8_fit 30 = .ok (.iload_n 3, 1) := by decide +kernel
theorem dX8_fit_31 : decode cX8_fit 31 = .ok (.ifCond .le 27, 3) := by decide +kernel
theorem dX8_fit_34 : decode cX8_fit 34 = .ok (.iload_n 3, 1) := by decide +kernel
theorem dX8_fit_35 : decode cX8_fit 35 = .ok (.aload_n 0, 1) := by decide +kernel
theorem dX8_fit_36 : decode cX8_fit 36 = .ok (.getfield 118, 3) := by decide +kernel
theorem dX8_fit_39 : decode cX8_fit 39 = .ok (.iload 4, 2) := by decide +kernel
theorem dX8_fit_41 : decode cX8_fit 41 = .ok (.baload, 1) := by decide +kernel
theorem dX8_fit_42 : decode cX8_fit 42 = .ok (.ifCond .eq 7, 3) := by decide +kernel
theorem dX8_fit_45 : decode cX8_fit 45 = .ok (.iconst 1, 1) := by decide +kernel
theorem dX8_fit_46 : decode cX8_fit 46 = .ok (.goto 4, 3) := by decide +kernel
theorem dX8_fit_49 : decode cX8_fit 49 = .ok (.iconst 0, 1) := by decide +kernel
theorem dX8_fit_50 : decode cX8_fit 50 = .ok (.isub, 1) := by decide +kernel
theorem dX8_fit_51 : decode cX8_fit 51 = .ok (.istore_n 3, 1) := by decide +kernel
theorem dX8_fit_52 : decode cX8_fit 52 = .ok (.iinc 4 1, 3) := by decide +kernel
theorem dX8_fit_55 : decode cX8_fit 55 = .ok (.goto (-35), 3) := by decide +kernel
theorem dX8_fit_58 : decode cX8_fit 58 = .ok (.iload 4, 2) := by decide +kernel
theorem dX8_fit_60 : decode cX8_fit 60 = .ok (.ireturn, 1) := by decide +kernel
theorem dX8_sure_0 : decode cX8_sure 0 = .ok (.aload_n 0, 1) := by decide +kernel
theorem dX8_sure_1 : decode cX8_sure 1 = .ok (.iload_n 1, 1) := by decide +kernel
theorem dX8_sure_2 : decode cX8_sure 2 = .ok (.invokevirtual 435, 3) := by decide +kernel
theorem dX8_sure_5 : decode cX8_sure 5 = .ok (.ifCond .eq 36, 3) := by decide +kernel
theorem dX8_sure_8 : decode cX8_sure 8 = .ok (.iload_n 2, 1) := by decide +kernel
theorem dX8_sure_9 : decode cX8_sure 9 = .ok (.ifCond .lt 32, 3) := by decide +kernel
theorem dX8_sure_12 : decode cX8_sure 12 = .ok (.iload_n 2, 1) := by decide +kernel
theorem dX8_sure_13 : decode cX8_sure 13 = .ok (.bipush 40, 2) := by decide +kernel
theorem dX8_sure_15 : decode cX8_sure 15 = .ok (.if_icmp .ge 26, 3) := by decide +kernel
theorem dX8_sure_18 : decode cX8_sure 18 = .ok (.aload_n 0, 1) := by decide +kernel
theorem dX8_sure_19 : decode cX8_sure 19 = .ok (.iload_n 3, 1) := by decide +kernel
theorem dX8_sure_20 : decode cX8_sure 20 = .ok (.invokevirtual 497, 3) := by decide +kernel
theorem dX8_sure_23 : decode cX8_sure 23 = .ok (.ifCond .eq 18, 3) := by decide +kernel
theorem dX8_sure_26 : decode cX8_sure 26 = .ok (.aload_n 0, 1) := by decide +kernel
theorem dX8_sure_27 : decode cX8_sure 27 = .ok (.getfield 477, 3) := by decide +kernel
theorem dX8_sure_30 : decode cX8_sure 30 = .ok (.ifCond .lt 11, 3) := by decide +kernel
theorem dX8_sure_33 : decode cX8_sure 33 = .ok (.iload_n 2, 1) := by decide +kernel
theorem dX8_sure_34 : decode cX8_sure 34 = .ok (.aload_n 0, 1) := by decide +kernel
theorem dX8_sure_35 : decode cX8_sure 35 = .ok (.getfield 477, 3) := by decide +kernel
theorem dX8_sure_38 : decode cX8_sure 38 = .ok (.if_icmp .ge 5, 3) := by decide +kernel
theorem dX8_sure_41 : decode cX8_sure 41 = .ok (.iconst (-1), 1) := by decide +kernel
theorem dX8_sure_42 : decode cX8_sure 42 = .ok (.ireturn, 1) := by decide +kernel
theorem dX8_sure_43 : decode cX8_sure 43 = .ok (.iconst 0, 1) := by decide +kernel
theorem dX8_sure_44 : decode cX8_sure 44 = .ok (.istore 4, 2) := by decide +kernel
theorem dX8_sure_46 : decode cX8_sure 46 = .ok (.iconst 1, 1) := by decide +kernel
theorem dX8_sure_47 : decode cX8_sure 47 = .ok (.istore 5, 2) := by decide +kernel
theorem dX8_sure_49 : decode cX8_sure 49 = .ok (.iconst 0, 1) := by decide +kernel
theorem dX8_sure_50 : decode cX8_sure 50 = .ok (.istore 6, 2) := by decide +kernel
theorem dX8_sure_52 : decode cX8_sure 52 = .ok (.iload 6, 2) := by decide +kernel
theorem dX8_sure_54 : decode cX8_sure 54 = .ok (.sipush 324, 3) := by decide +kernel
theorem dX8_sure_57 : decode cX8_sure 57 = .ok (.if_icmp .ge 116, 3) := by decide +kernel
theorem dX8_sure_60 : decode cX8_sure 60 = .ok (.aload_n 0, 1) := by decide +kernel
theorem dX8_sure_61 : decode cX8_sure 61 = .ok (.getfield 118, 3) := by decide +kernel
theorem dX8_sure_64 : decode cX8_sure 64 = .ok (.iload 6, 2) := by decide +kernel
theorem dX8_sure_66 : decode cX8_sure 66 = .ok (.baload, 1) := by decide +kernel
theorem dX8_sure_67 : decode cX8_sure 67 = .ok (.ifCond .ne 6, 3) := by decide +kernel
theorem dX8_sure_70 : decode cX8_sure 70 = .ok (.goto 97, 3) := by decide +kernel
theorem dX8_sure_73 : decode cX8_sure 73 = .ok (.aload_n 0, 1) := by decide +kernel
theorem dX8_sure_74 : decode cX8_sure 74 = .ok (.iconst 0, 1) := by decide +kernel
theorem dX8_sure_75 : decode cX8_sure 75 = .ok (.aload_n 0, 1) := by decide +kernel
theorem dX8_sure_76 : decode cX8_sure 76 = .ok (.getfield 112, 3) := by decide +kernel
theorem dX8_sure_79 : decode cX8_sure 79 = .ok (.aload_n 0, 1) := by decide +kernel
theorem dX8_sure_80 : decode cX8_sure 80 = .ok (.getfield 477, 3) := by decide +kernel
theorem dX8_sure_83 : decode cX8_sure 83 = .ok (.laload, 1) := by decide +kernel
theorem dX8_sure_84 : decode cX8_sure 84 = .ok (.invokevirtual 480, 3) := by decide +kernel
theorem dX8_sure_87 : decode cX8_sure 87 = .ok (.aload_n 0, 1) := by decide +kernel
theorem dX8_sure_88 : decode cX8_sure 88 = .ok (.getfield 477, 3) := by decide +kernel
theorem dX8_sure_91 : decode cX8_sure 91 = .ok (.istore 7, 2) := by decide +kernel
theorem dX8_sure_93 : decode cX8_sure 93 = .ok (.iload 7, 2) := by decide +kernel
theorem dX8_sure_95 : decode cX8_sure 95 = .ok (.iload_n 2, 1) := by decide +kernel
theorem dX8_sure_96 : decode cX8_sure 96 = .ok (.if_icmp .ge 16, 3) := by decide +kernel
theorem dX8_sure_99 : decode cX8_sure 99 = .ok (.aload_n 0, 1) := by decide +kernel
theorem dX8_sure_100 : decode cX8_sure 100 = .ok (.iconst 0, 1) := by decide +kernel
theorem dX8_sure_101 : decode cX8_sure 101 = .ok (.iload 6, 2) := by decide +kernel
theorem dX8_sure_103 : decode cX8_sure 103 = .ok (.invokevirtual 484, 3) := by decide +kernel
theorem dX8_sure_106 : decode cX8_sure 106 = .ok (.iinc 7 1, 3) := by decide +kernel
theorem dX8_sure_109 : decode cX8_sure 109 = .ok (.goto (-16), 3) := by decide +kernel
theorem dX8_sure_112 : decode cX8_sure 112 = .ok (.aload_n 0, 1) := by decide +kernel
theorem dX8_sure_113 : decode cX8_sure 113 = .ok (.iconst 0, 1) := by decide +kernel
theorem dX8_sure_114 : decode cX8_sure 114 = .ok (.invokevirtual 487, 3) := by decide +kernel
theorem dX8_sure_117 : decode cX8_sure 117 = .ok (.iload_n 1, 1) := by decide +kernel
theorem dX8_sure_118 : decode cX8_sure 118 = .ok (.lshr, 1) := by decide +kernel
theorem dX8_sure_119 : decode cX8_sure 119 = .ok (.lconst 1, 1) := by decide +kernel
theorem dX8_sure_120 : decode cX8_sure 120 = .ok (.land, 1) := by decide +kernel
theorem dX8_sure_121 : decode cX8_sure 121 = .ok (.lconst 1, 1) := by decide +kernel
theorem dX8_sure_122 : decode cX8_sure 122 = .ok (.lcmp, 1) := by decide +kernel
theorem dX8_sure_123 : decode cX8_sure 123 = .ok (.ifCond .ne 7, 3) := by decide +kernel
theorem dX8_sure_126 : decode cX8_sure 126 = .ok (.iconst 1, 1) := by decide +kernel
theorem dX8_sure_127 : decode cX8_sure 127 = .ok (.goto 4, 3) := by decide +kernel
theorem dX8_sure_130 : decode cX8_sure 130 = .ok (.iconst 0, 1) := by decide +kernel
theorem dX8_sure_131 : decode cX8_sure 131 = .ok (.istore 7, 2) := by decide +kernel
theorem dX8_sure_133 : decode cX8_sure 133 = .ok (.iload 4, 2) := by decide +kernel
theorem dX8_sure_135 : decode cX8_sure 135 = .ok (.ifCond .ne 8, 3) := by decide +kernel
theorem dX8_sure_138 : decode cX8_sure 138 = .ok (.iload 7, 2) := by decide +kernel
theorem dX8_sure_140 : decode cX8_sure 140 = .ok (.ifCond .eq 7, 3) := by decide +kernel
theorem dX8_sure_143 : decode cX8_sure 143 = .ok (.iconst 1, 1) := by decide +kernel
theorem dX8_sure_144 : decode cX8_sure 144 = .ok (.goto 4, 3) := by decide +kernel
theorem dX8_sure_147 : decode cX8_sure 147 = .ok (.iconst 0, 1) := by decide +kernel
theorem dX8_sure_148 : decode cX8_sure 148 = .ok (.istore 4, 2) := by decide +kernel
theorem dX8_sure_150 : decode cX8_sure 150 = .ok (.iload 5, 2) := by decide +kernel
theorem dX8_sure_152 : decode cX8_sure 152 = .ok (.ifCond .eq 12, 3) := by decide +kernel
theorem dX8_sure_155 : decode cX8_sure 155 = .ok (.iload 7, 2) := by decide +kernel
theorem dX8_sure_157 : decode cX8_sure 157 = .ok (.ifCond .eq 7, 3) := by decide +kernel
theorem dX8_sure_160 : decode cX8_sure 160 = .ok (.iconst 1, 1) := by decide +kernel
theorem dX8_sure_161 : decode cX8_sure 161 = .ok (.goto 4, 3) := by decide +kernel
theorem dX8_sure_164 : decode cX8_sure 164 = .ok (.iconst 0, 1) := by decide +kernel
theorem dX8_sure_165 : decode cX8_sure 165 = .ok (.istore 5, 2) := by decide +kernel
theorem dX8_sure_167 : decode cX8_sure 167 = .ok (.iinc 6 1, 3) := by decide +kernel
theorem dX8_sure_170 : decode cX8_sure 170 = .ok (.goto (-118), 3) := by decide +kernel
theorem dX8_sure_173 : decode cX8_sure 173 = .ok (.iload 5, 2) := by decide +kernel
theorem dX8_sure_175 : decode cX8_sure 175 = .ok (.ifCond .eq 7, 3) := by decide +kernel
theorem dX8_sure_178 : decode cX8_sure 178 = .ok (.iconst 1, 1) := by decide +kernel
theorem dX8_sure_179 : decode cX8_sure 179 = .ok (.goto 13, 3) := by decide +kernel
theorem dX8_sure_182 : decode cX8_sure 182 = .ok (.iload 4, 2) := by decide +kernel
theorem dX8_sure_184 : decode cX8_sure 184 = .ok (.ifCond .eq 7, 3) := by decide +kernel
theorem dX8_sure_187 : decode cX8_sure 187 = .ok (.iconst 2, 1) := by decide +kernel
theorem dX8_sure_188 : decode cX8_sure 188 = .ok (.goto 4, 3) := by decide +kernel
theorem dX8_sure_191 : decode cX8_sure 191 = .ok (.iconst 0, 1) := by decide +kernel
theorem dX8_sure_192 : decode cX8_sure 192 = .ok (.ireturn, 1) := by decide +kernel
theorem dX8_isLaw_0 : decode cX8_isLaw 0 = .ok (.iload_n 0, 1) := by decide +kernel
theorem dX8_isLaw_1 : decode cX8_isLaw 1 = .ok (.ifCond .lt 14, 3) := by decide +kernel
theorem dX8_isLaw_4 : decode cX8_isLaw 4 = .ok (.iload_n 0, 1) := by decide +kernel
theorem dX8_isLaw_5 : decode cX8_isLaw 5 = .ok (.sipush 324, 3) := by decide +kernel
theorem dX8_isLaw_8 : decode cX8_isLaw 8 = .ok (.if_icmp .ge 7, 3) := by decide +kernel
theorem dX8_isLaw_11 : decode cX8_isLaw 11 = .ok (.iconst 1, 1) := by decide +kernel
theorem dX8_isLaw_12 : decode cX8_isLaw 12 = .ok (.goto 4, 3) := by decide +kernel
theorem dX8_isLaw_15 : decode cX8_isLaw 15 = .ok (.iconst 0, 1) := by decide +kernel
theorem dX8_isLaw_16 : decode cX8_isLaw 16 = .ok (.ireturn, 1) := by decide +kernel
theorem dX8_same_0 : decode cX8_same 0 = .ok (.iload_n 1, 1) := by decide +kernel
theorem dX8_same_1 : decode cX8_same 1 = .ok (.invokestatic 500, 3) := by decide +kernel
theorem dX8_same_4 : decode cX8_same 4 = .ok (.ifCond .eq 10, 3) := by decide +kernel
theorem dX8_same_7 : decode cX8_same 7 = .ok (.iload_n 2, 1) := by decide +kernel
theorem dX8_same_8 : decode cX8_same 8 = .ok (.invokestatic 500, 3) := by decide +kernel
theorem dX8_same_11 : decode cX8_same 11 = .ok (.ifCond .ne 5, 3) := by decide +kernel
theorem dX8_same_14 : decode cX8_same 14 = .ok (.iconst (-1), 1) := by decide +kernel
theorem dX8_same_15 : decode cX8_same 15 = .ok (.ireturn, 1) := by decide +kernel
theorem dX8_same_16 : decode cX8_same 16 = .ok (.iconst 0, 1) := by decide +kernel
theorem dX8_same_17 : decode cX8_same 17 = .ok (.istore_n 3, 1) := by decide +kernel
theorem dX8_same_18 : decode cX8_same 18 = .ok (.iload_n 3, 1) := by decide +kernel
theorem dX8_same_19 : decode cX8_same 19 = .ok (.aload_n 0, 1) := by decide +kernel
theorem dX8_same_20 : decode cX8_same 20 = .ok (.getfield 151, 3) := by decide +kernel
theorem dX8_same_23 : decode cX8_same 23 = .ok (.if_icmp .ge 100, 3) := by decide +kernel
theorem dX8_same_26 : decode cX8_same 26 = .ok (.lconst 0, 1) := by decide +kernel
theorem dX8_same_27 : decode cX8_same 27 = .ok (.lstore 4, 2) := by decide +kernel
theorem dX8_same_29 : decode cX8_same 29 = .ok (.iconst 0, 1) := by decide +kernel
theorem dX8_same_30 : decode cX8_same 30 = .ok (.istore 6, 2) := by decide +kernel
theorem dX8_same_32 : decode cX8_same 32 = .ok (.iload 6, 2) := by decide +kernel
theorem dX8_same_34 : decode cX8_same 34 = .ok (.iconst 3, 1) := by decide +kernel
theorem dX8_same_35 : decode cX8_same 35 = .ok (.if_icmp .ge 82, 3) := by decide +kernel
theorem dX8_same_38 : decode cX8_same 38 = .ok (.lload 4, 2) := by decide +kernel
theorem dX8_same_40 : decode cX8_same 40 = .ok (.lconst 1, 1) := by decide +kernel
theorem dX8_same_41 : decode cX8_same 41 = .ok (.aload_n 0, 1) := by decide +kernel
theorem dX8_same_42 : decode cX8_same 42 = .ok (.iload_n 3, 1) := by decide +kernel
theorem dX8_same_43 : decode cX8_same 43 = .ok (.iload 6, 2) := by decide +kernel
theorem dX8_same_45 : decode cX8_same 45 = .ok (.iadd, 1) := by decide +kernel
theorem dX8_same_46 : decode cX8_same 46 = .ok (.invokevirtual 396, 3) := by decide +kernel
theorem dX8_same_49 : decode cX8_same 49 = .ok (.lshl, 1) := by decide +kernel
theorem dX8_same_50 : decode cX8_same 50 = .ok (.lor, 1) := by decide +kernel
theorem dX8_same_51 : decode cX8_same 51 = .ok (.lstore 4, 2) := by decide +kernel
theorem dX8_same_53 : decode cX8_same 53 = .ok (.aload_n 0, 1) := by decide +kernel
theorem dX8_same_54 : decode cX8_same 54 = .ok (.iconst 0, 1) := by decide +kernel
theorem dX8_same_55 : decode cX8_same 55 = .ok (.lload 4, 2) := by decide +kernel
theorem dX8_same_57 : decode cX8_same 57 = .ok (.invokevirtual 480, 3) := by decide +kernel
theorem dX8_same_60 : decode cX8_same 60 = .ok (.aload_n 0, 1) := by decide +kernel
theorem dX8_same_61 : decode cX8_same 61 = .ok (.iconst 1, 1) := by decide +kernel
theorem dX8_same_62 : decode cX8_same 62 = .ok (.lload 4, 2) := by decide +kernel
theorem dX8_same_64 : decode cX8_same 64 = .ok (.invokevirtual 480, 3) := by decide +kernel
theorem dX8_same_67 : decode cX8_same 67 = .ok (.iconst 0, 1) := by decide +kernel
theorem dX8_same_68 : decode cX8_same 68 = .ok (.istore 7, 2) := by decide +kernel
theorem dX8_same_70 : decode cX8_same 70 = .ok (.iload 7, 2) := by decide +kernel
theorem dX8_same_72 : decode cX8_same 72 = .ok (.bipush 60, 2) := by decide +kernel
theorem dX8_same_74 : decode cX8_same 74 = .ok (.if_icmp .ge 37, 3) := by decide +kernel
theorem dX8_same_77 : decode cX8_same 77 = .ok (.aload_n 0, 1) := by decide +kernel
theorem dX8_same_78 : decode cX8_same 78 = .ok (.iconst 0, 1) := by decide +kernel
theorem dX8_same_79 : decode cX8_same 79 = .ok (.iload_n 1, 1) := by decide +kernel
theorem dX8_same_80 : decode cX8_same 80 = .ok (.invokevirtual 484, 3) := by decide +kernel
theorem dX8_same_83 : decode cX8_same 83 = .ok (.aload_n 0, 1) := by decide +kernel
theorem dX8_same_84 : decode cX8_same 84 = .ok (.iconst 1, 1) := by decide +kernel
theorem dX8_same_85 : decode cX8_same 85 = .ok (.iload_n 2, 1) := by decide +kernel
theorem dX8_same_86 : decode cX8_same 86 = .ok (.invokevirtual 484, 3) := by decide +kernel
theorem dX8_same_89 : decode cX8_same 89 = .ok (.aload_n 0, 1) := by decide +kernel
theorem dX8_same_90 : decode cX8_same 90 = .ok (.iconst 0, 1) := by decide +kernel
theorem dX8_same_91 : decode cX8_same 91 = .ok (.invokevirtual 487, 3) := by decide +kernel
theorem dX8_same_94 : decode cX8_same 94 = .ok (.aload_n 0, 1) := by decide +kernel
theorem dX8_same_95 : decode cX8_same 95 = .ok (.iconst 1, 1) := by decide +kernel
theorem dX8_same_96 : decode cX8_same 96 = .ok (.invokevirtual 487, 3) := by decide +kernel
theorem dX8_same_99 : decode cX8_same 99 = .ok (.lcmp, 1) := by decide +kernel
theorem dX8_same_100 : decode cX8_same 100 = .ok (.ifCond .eq 5, 3) := by decide +kernel
theorem dX8_same_103 : decode cX8_same 103 = .ok (.iconst 0, 1) := by decide +kernel
theorem dX8_same_104 : decode cX8_same 104 = .ok (.ireturn, 1) := by decide +kernel
theorem dX8_same_105 : decode cX8_same 105 = .ok (.iinc 7 1, 3) := by decide +kernel
theorem dX8_same_108 : decode cX8_same 108 = .ok (.goto (-38), 3) := by decide +kernel
theorem dX8_same_111 : decode cX8_same 111 = .ok (.iinc 6 1, 3) := by decide +kernel
theorem dX8_same_114 : decode cX8_same 114 = .ok (.goto (-82), 3) := by decide +kernel
theorem dX8_same_117 : decode cX8_same 117 = .ok (.iinc 3 1, 3) := by decide +kernel
theorem dX8_same_120 : decode cX8_same 120 = .ok (.goto (-102), 3) := by decide +kernel
theorem dX8_same_123 : decode cX8_same 123 = .ok (.iconst 1, 1) := by decide +kernel
theorem dX8_same_124 : decode cX8_same 124 = .ok (.ireturn, 1) := by decide +kernel
theorem dX8_isBox_0 : decode cX8_isBox 0 = .ok (.iload_n 0, 1) := by decide +kernel
theorem dX8_isBox_1 : decode cX8_isBox 1 = .ok (.ifCond .lt 12, 3) := by decide +kernel
theorem dX8_isBox_4 : decode cX8_isBox 4 = .ok (.iload_n 0, 1) := by decide +kernel
theorem dX8_isBox_5 : decode cX8_isBox 5 = .ok (.iconst 3, 1) := by decide +kernel
theorem dX8_isBox_6 : decode cX8_isBox 6 = .ok (.if_icmp .ge 7, 3) := by decide +kernel
theorem dX8_isBox_9 : decode cX8_isBox 9 = .ok (.iconst 1, 1) := by decide +kernel
theorem dX8_isBox_10 : decode cX8_isBox 10 = .ok (.goto 4, 3) := by decide +kernel
theorem dX8_isBox_13 : decode cX8_isBox 13 = .ok (.iconst 0, 1) := by decide +kernel
theorem dX8_isBox_14 : decode cX8_isBox 14 = .ok (.ireturn, 1) := by decide +kernel
theorem dX8_image_0 : decode cX8_image 0 = .ok (.iload_n 1, 1) := by decide +kernel
theorem dX8_image_1 : decode cX8_image 1 = .ok (.invokestatic 503, 3) := by decide +kernel
theorem dX8_image_4 : decode cX8_image 4 = .ok (.ifCond .ne 5, 3) := by decide +kernel
theorem dX8_image_7 : decode cX8_image 7 = .ok (.iconst (-1), 1) := by decide +kernel
theorem dX8_image_8 : decode cX8_image 8 = .ok (.ireturn, 1) := by decide +kernel
theorem dX8_image_9 : decode cX8_image 9 = .ok (.aload_n 0, 1) := by decide +kernel
theorem dX8_image_10 : decode cX8_image 10 = .ok (.getfield 130, 3) := by decide +kernel
theorem dX8_image_13 : decode cX8_image 13 = .ok (.iload_n 1, 1) := by decide +kernel
theorem dX8_image_14 : decode cX8_image 14 = .ok (.iconst 1, 1) := by decide +kernel
theorem dX8_image_15 : decode cX8_image 15 = .ok (.bastore, 1) := by decide +kernel
theorem dX8_image_16 : decode cX8_image 16 = .ok (.iconst 0, 1) := by decide +kernel
theorem dX8_image_17 : decode cX8_image 17 = .ok (.istore_n 2, 1) := by decide +kernel
theorem dX8_image_18 : decode cX8_image 18 = .ok (.iload_n 2, 1) := by decide +kernel
theorem dX8_image_19 : decode cX8_image 19 = .ok (.bipush 40, 2) := by decide +kernel
theorem dX8_image_21 : decode cX8_image 21 = .ok (.if_icmp .ge 43, 3) := by decide +kernel
theorem dX8_image_24 : decode cX8_image 24 = .ok (.aload_n 0, 1) := by decide +kernel
theorem dX8_image_25 : decode cX8_image 25 = .ok (.getfield 133, 3) := by decide +kernel
theorem dX8_image_28 : decode cX8_image 28 = .ok (.bipush 40, 2) := by decide +kernel
theorem dX8_image_30 : decode cX8_image 30 = .ok (.iload_n 1, 1) := by decide +kernel
theorem dX8_image_31 : decode cX8_image 31 = .ok (.imul, 1) := by decide +kernel
theorem dX8_image_32 : decode cX8_image 32 = .ok (.iload_n 2, 1) := by decide +kernel
theorem dX8_image_33 : decode cX8_image 33 = .ok (.iadd, 1) := by decide +kernel
theorem dX8_image_34 : decode cX8_image 34 = .ok (.aload_n 0, 1) := by decide +kernel
theorem dX8_image_35 : decode cX8_image 35 = .ok (.getfield 72, 3) := by decide +kernel
theorem dX8_image_38 : decode cX8_image 38 = .ok (.iload_n 2, 1) := by decide +kernel
theorem dX8_image_39 : decode cX8_image 39 = .ok (.iaload, 1) := by decide +kernel
theorem dX8_image_40 : decode cX8_image 40 = .ok (.iastore, 1) := by decide +kernel
theorem dX8_image_41 : decode cX8_image 41 = .ok (.aload_n 0, 1) := by decide +kernel
theorem dX8_image_42 : decode cX8_image 42 = .ok (.getfield 136, 3) := by decide +kernel
theorem dX8_image_45 : decode cX8_image 45 = .ok (.bipush 40, 2) := by decide +kernel
theorem dX8_image_47 : decode cX8_image 47 = .ok (.iload_n 1, 1) := by decide +kernel
theorem dX8_image_48 : decode cX8_image 48 = .ok (.imul, 1) := by decide +kernel
theorem dX8_image_49 : decode cX8_image 49 = .ok (.iload_n 2, 1) := by decide +kernel
theorem dX8_image_50 : decode cX8_image 50 = .ok (.iadd, 1) := by decide +kernel
theorem dX8_image_51 : decode cX8_image 51 = .ok (.aload_n 0, 1) := by decide +kernel
theorem dX8_image_52 : decode cX8_image 52 = .ok (.getfield 75, 3) := by decide +kernel
theorem dX8_image_55 : decode cX8_image 55 = .ok (.iload_n 2, 1) := by decide +kernel
theorem dX8_image_56 : decode cX8_image 56 = .ok (.iaload, 1) := by decide +kernel
theorem dX8_image_57 : decode cX8_image 57 = .ok (.iastore, 1) := by decide +kernel
theorem dX8_image_58 : decode cX8_image 58 = .ok (.iinc 2 1, 3) := by decide +kernel
theorem dX8_image_61 : decode cX8_image 61 = .ok (.goto (-43), 3) := by decide +kernel
theorem dX8_image_64 : decode cX8_image 64 = .ok (.iconst 0, 1) := by decide +kernel
theorem dX8_image_65 : decode cX8_image 65 = .ok (.istore_n 2, 1) := by decide +kernel
theorem dX8_image_66 : decode cX8_image 66 = .ok (.iload_n 2, 1) := by decide +kernel
theorem dX8_image_67 : decode cX8_image 67 = .ok (.iconst 3, 1) := by decide +kernel
theorem dX8_image_68 : decode cX8_image 68 = .ok (.if_icmp .ge 25, 3) := by decide +kernel
theorem dX8_image_71 : decode cX8_image 71 = .ok (.aload_n 0, 1) := by decide +kernel
theorem dX8_image_72 : decode cX8_image 72 = .ok (.getfield 139, 3) := by decide +kernel
theorem dX8_image_75 : decode cX8_image 75 = .ok (.iconst 3, 1) := by decide +kernel
theorem dX8_image_76 : decode cX8_image 76 = .ok (.iload_n 1, 1) := by decide +kernel
theorem dX8_image_77 : decode cX8_image 77 = .ok (.imul, 1) := by decide +kernel
theorem dX8_image_78 : decode cX8_image 78 = .ok (.iload_n 2, 1) := by decide +kernel
theorem dX8_image_79 : decode cX8_image 79 = .ok (.iadd, 1) := by decide +kernel
theorem dX8_image_80 : decode cX8_image 80 = .ok (.aload_n 0, 1) := by decide +kernel
theorem dX8_image_81 : decode cX8_image 81 = .ok (.getfield 87, 3) := by decide +kernel
theorem dX8_image_84 : decode cX8_image 84 = .ok (.iload_n 2, 1) := by decide +kernel
theorem dX8_image_85 : decode cX8_image 85 = .ok (.iaload, 1) := by decide +kernel
theorem dX8_image_86 : decode cX8_image 86 = .ok (.iastore, 1) := by decide +kernel
theorem dX8_image_87 : decode cX8_image 87 = .ok (.iinc 2 1, 3) := by decide +kernel
theorem dX8_image_90 : decode cX8_image 90 = .ok (.goto (-24), 3) := by decide +kernel
theorem dX8_image_93 : decode cX8_image 93 = .ok (.aload_n 0, 1) := by decide +kernel
theorem dX8_image_94 : decode cX8_image 94 = .ok (.getfield 142, 3) := by decide +kernel
theorem dX8_image_97 : decode cX8_image 97 = .ok (.iload_n 1, 1) := by decide +kernel
theorem dX8_image_98 : decode cX8_image 98 = .ok (.aload_n 0, 1) := by decide +kernel
theorem dX8_image_99 : decode cX8_image 99 = .ok (.getfield 381, 3) := by decide +kernel
theorem dX8_image_102 : decode cX8_image 102 = .ok (.iastore, 1) := by decide +kernel
theorem dX8_image_103 : decode cX8_image 103 = .ok (.aload_n 0, 1) := by decide +kernel
theorem dX8_image_104 : decode cX8_image 104 = .ok (.getfield 145, 3) := by decide +kernel
theorem dX8_image_107 : decode cX8_image 107 = .ok (.iload_n 1, 1) := by decide +kernel
theorem dX8_image_108 : decode cX8_image 108 = .ok (.aload_n 0, 1) := by decide +kernel
theorem dX8_image_109 : decode cX8_image 109 = .ok (.getfield 384, 3) := by decide +kernel
theorem dX8_image_112 : decode cX8_image 112 = .ok (.iastore, 1) := by decide +kernel
theorem dX8_image_113 : decode cX8_image 113 = .ok (.aload_n 0, 1) := by decide +kernel
theorem dX8_image_114 : decode cX8_image 114 = .ok (.getfield 148, 3) := by decide +kernel
theorem dX8_image_117 : decode cX8_image 117 = .ok (.iload_n 1, 1) := by decide +kernel
theorem dX8_image_118 : decode cX8_image 118 = .ok (.aload_n 0, 1) := by decide +kernel
theorem dX8_image_119 : decode cX8_image 119 = .ok (.getfield 96, 3) := by decide +kernel
theorem dX8_image_122 : decode cX8_image 122 = .ok (.iastore, 1) := by decide +kernel
theorem dX8_image_123 : decode cX8_image 123 = .ok (.aload_n 0, 1) := by decide +kernel
theorem dX8_image_124 : decode cX8_image 124 = .ok (.getfield 381, 3) := by decide +kernel
theorem dX8_image_127 : decode cX8_image 127 = .ok (.ireturn, 1) := by decide +kernel
theorem dX8_back_0 : decode cX8_back 0 = .ok (.iload_n 1, 1) := by decide +kernel
theorem dX8_back_1 : decode cX8_back 1 = .ok (.invokestatic 503, 3) := by decide +kernel
theorem dX8_back_4 : decode cX8_back 4 = .ok (.ifCond .eq 12, 3) := by decide +kernel
theorem dX8_back_7 : decode cX8_back 7 = .ok (.aload_n 0, 1) := by decide +kernel
theorem dX8_back_8 : decode cX8_back 8 = .ok (.getfield 130, 3) := by decide +kernel
theorem dX8_back_11 : decode cX8_back 11 = .ok (.iload_n 1, 1) := by decide +kernel
theorem dX8_back_12 : decode cX8_back 12 = .ok (.baload, 1) := by decide +kernel
theorem dX8_back_13 : decode cX8_back 13 = .ok (.ifCond .ne 5, 3) := by decide +kernel
theorem dX8_back_16 : decode cX8_back 16 = .ok (.iconst (-1), 1) := by decide +kernel
theorem dX8_back_17 : decode cX8_back 17 = .ok (.ireturn, 1) := by decide +kernel
theorem dX8_back_18 : decode cX8_back 18 = .ok (.iconst 0, 1) := by decide +kernel
theorem dX8_back_19 : decode cX8_back 19 = .ok (.istore_n 2, 1) := by decide +kernel
theorem dX8_back_20 : decode cX8_back 20 = .ok (.iload_n 2, 1) := by decide +kernel
theorem dX8_back_21 : decode cX8_back 21 = .ok (.bipush 40, 2) := by decide +kernel
theorem dX8_back_23 : decode cX8_back 23 = .ok (.if_icmp .ge 43, 3) := by decide +kernel
theorem dX8_back_26 : decode cX8_back 26 = .ok (.aload_n 0, 1) := by decide +kernel
theorem dX8_back_27 : decode cX8_back 27 = .ok (.getfield 72, 3) := by decide +kernel
theorem dX8_back_30 : decode cX8_back 30 = .ok (.iload_n 2, 1) := by decide +kernel
theorem dX8_back_31 : decode cX8_back 31 = .ok (.aload_n 0, 1) := by decide +kernel
theorem dX8_back_32 : decode cX8_back 32 = .ok (.getfield 133, 3) := by decide +kernel
theorem dX8_back_35 : decode cX8_back 35 = .ok (.bipush 40, 2) := by decide +kernel
theorem dX8_back_37 : decode cX8_back 37 = .ok (.iload_n 1, 1) := by decide +kernel
theorem dX8_back_38 : decode cX8_back 38 = .ok (.imul, 1) := by decide +kernel
theorem dX8_back_39 : decode cX8_back 39 = .ok (.iload_n 2, 1) := by decide +kernel
theorem dX8_back_40 : decode cX8_back 40 = .ok (.iadd, 1) := by decide +kernel
theorem dX8_back_41 : decode cX8_back 41 = .ok (.iaload, 1) := by decide +kernel
theorem dX8_back_42 : decode cX8_back 42 = .ok (.iastore, 1) := by decide +kernel
theorem dX8_back_43 : decode cX8_back 43 = .ok (.aload_n 0, 1) := by decide +kernel
theorem dX8_back_44 : decode cX8_back 44 = .ok (.getfield 75, 3) := by decide +kernel
theorem dX8_back_47 : decode cX8_back 47 = .ok (.iload_n 2, 1) := by decide +kernel
theorem dX8_back_48 : decode cX8_back 48 = .ok (.aload_n 0, 1) := by decide +kernel
theorem dX8_back_49 : decode cX8_back 49 = .ok (.getfield 136, 3) := by decide +kernel
theorem dX8_back_52 : decode cX8_back 52 = .ok (.bipush 40, 2) := by decide +kernel
theorem dX8_back_54 : decode cX8_back 54 = .ok (.iload_n 1, 1) := by decide +kernel
theorem dX8_back_55 : decode cX8_back 55 = .ok (.imul, 1) := by decide +kernel
theorem dX8_back_56 : decode cX8_back 56 = .ok (.iload_n 2, 1) := by decide +kernel
theorem dX8_back_57 : decode cX8_back 57 = .ok (.iadd, 1) := by decide +kernel
theorem dX8_back_58 : decode cX8_back 58 = .ok (.iaload, 1) := by decide +kernel
theorem dX8_back_59 : decode cX8_back 59 = .ok (.iastore, 1) := by decide +kernel
theorem dX8_back_60 : decode cX8_back 60 = .ok (.iinc 2 1, 3) := by decide +kernel
theorem dX8_back_63 : decode cX8_back 63 = .ok (.goto (-43), 3) := by decide +kernel
theorem dX8_back_66 : decode cX8_back 66 = .ok (.iconst 0, 1) := by decide +kernel
theorem dX8_back_67 : decode cX8_back 67 = .ok (.istore_n 2, 1) := by decide +kernel
theorem dX8_back_68 : decode cX8_back 68 = .ok (.iload_n 2, 1) := by decide +kernel
theorem dX8_back_69 : decode cX8_back 69 = .ok (.iconst 3, 1) := by decide +kernel
theorem dX8_back_70 : decode cX8_back 70 = .ok (.if_icmp .ge 25, 3) := by decide +kernel
theorem dX8_back_73 : decode cX8_back 73 = .ok (.aload_n 0, 1) := by decide +kernel
theorem dX8_back_74 : decode cX8_back 74 = .ok (.getfield 87, 3) := by decide +kernel
theorem dX8_back_77 : decode cX8_back 77 = .ok (.iload_n 2, 1) := by decide +kernel
theorem dX8_back_78 : decode cX8_back 78 = .ok (.aload_n 0, 1) := by decide +kernel
theorem dX8_back_79 : decode cX8_back 79 = .ok (.getfield 139, 3) := by decide +kernel
theorem dX8_back_82 : decode cX8_back 82 = .ok (.iconst 3, 1) := by decide +kernel
theorem dX8_back_83 : decode cX8_back 83 = .ok (.iload_n 1, 1) := by decide +kernel
theorem dX8_back_84 : decode cX8_back 84 = .ok (.imul, 1) := by decide +kernel
theorem dX8_back_85 : decode cX8_back 85 = .ok (.iload_n 2, 1) := by decide +kernel
theorem dX8_back_86 : decode cX8_back 86 = .ok (.iadd, 1) := by decide +kernel
theorem dX8_back_87 : decode cX8_back 87 = .ok (.iaload, 1) := by decide +kernel
theorem dX8_back_88 : decode cX8_back 88 = .ok (.iastore, 1) := by decide +kernel
theorem dX8_back_89 : decode cX8_back 89 = .ok (.iinc 2 1, 3) := by decide +kernel
theorem dX8_back_92 : decode cX8_back 92 = .ok (.goto (-24), 3) := by decide +kernel
theorem dX8_back_95 : decode cX8_back 95 = .ok (.aload_n 0, 1) := by decide +kernel
theorem dX8_back_96 : decode cX8_back 96 = .ok (.aload_n 0, 1) := by decide +kernel
theorem dX8_back_97 : decode cX8_back 97 = .ok (.getfield 142, 3) := by decide +kernel
theorem dX8_back_100 : decode cX8_back 100 = .ok (.iload_n 1, 1) := by decide +kernel
theorem dX8_back_101 : decode cX8_back 101 = .ok (.iaload, 1) := by decide +kernel
theorem dX8_back_102 : decode cX8_back 102 = .ok (.putfield 381, 3) := by decide +kernel
theorem dX8_back_105 : decode cX8_back 105 = .ok (.aload_n 0, 1) := by decide +kernel
theorem dX8_back_106 : decode cX8_back 106 = .ok (.aload_n 0, 1) := by decide +kernel
theorem dX8_back_107 : decode cX8_back 107 = .ok (.getfield 145, 3) := by decide +kernel
theorem dX8_back_110 : decode cX8_back 110 = .ok (.iload_n 1, 1) := by decide +kernel
theorem dX8_back_111 : decode cX8_back 111 = .ok (.iaload, 1) := by decide +kernel
theorem dX8_back_112 : decode cX8_back 112 = .ok (.putfield 384, 3) := by decide +kernel
theorem dX8_back_115 : decode cX8_back 115 = .ok (.aload_n 0, 1) := by decide +kernel
theorem dX8_back_116 : decode cX8_back 116 = .ok (.aload_n 0, 1) := by decide +kernel
theorem dX8_back_117 : decode cX8_back 117 = .ok (.getfield 148, 3) := by decide +kernel
theorem dX8_back_120 : decode cX8_back 120 = .ok (.iload_n 1, 1) := by decide +kernel
theorem dX8_back_121 : decode cX8_back 121 = .ok (.iaload, 1) := by decide +kernel
theorem dX8_back_122 : decode cX8_back 122 = .ok (.putfield 96, 3) := by decide +kernel
theorem dX8_back_125 : decode cX8_back 125 = .ok (.aload_n 0, 1) := by decide +kernel
theorem dX8_back_126 : decode cX8_back 126 = .ok (.getfield 381, 3) := by decide +kernel
theorem dX8_back_129 : decode cX8_back 129 = .ok (.ireturn, 1) := by decide +kernel
theorem dX8_seed_0 : decode cX8_seed 0 = .ok (.aload_n 0, 1) := by decide +kernel
theorem dX8_seed_1 : decode cX8_seed 1 = .ok (.getfield 96, 3) := by decide +kernel
theorem dX8_seed_4 : decode cX8_seed 4 = .ok (.istore_n 2, 1) := by decide +kernel
theorem dX8_seed_5 : decode cX8_seed 5 = .ok (.aload_n 0, 1) := by decide +kernel
theorem dX8_seed_6 : decode cX8_seed 6 = .ok (.iload_n 1, 1) := by decide +kernel
theorem dX8_seed_7 : decode cX8_seed 7 = .ok (.putfield 96, 3) := by decide +kernel
theorem dX8_seed_10 : decode cX8_seed 10 = .ok (.iload_n 2, 1) := by decide +kernel
theorem dX8_seed_11 : decode cX8_seed 11 = .ok (.ireturn, 1) := by decide +kernel
theorem dX8_about_0 : decode cX8_about 0 = .ok (.iload_n 1, 1) := by decide +kernel
theorem dX8_about_1 : decode cX8_about 1 = .ok (.tableswitch 96 0 8 #[51, 56, 61, 66, 71, 76, 81, 86, 91], 51) := by decide +kernel
theorem dX8_about_52 : decode cX8_about 52 = .ok (.aload_n 0, 1) := by decide +kernel
theorem dX8_about_53 : decode cX8_about 53 = .ok (.getfield 151, 3) := by decide +kernel
theorem dX8_about_56 : decode cX8_about 56 = .ok (.ireturn, 1) := by decide +kernel
theorem dX8_about_57 : decode cX8_about 57 = .ok (.aload_n 0, 1) := by decide +kernel
theorem dX8_about_58 : decode cX8_about 58 = .ok (.getfield 381, 3) := by decide +kernel
theorem dX8_about_61 : decode cX8_about 61 = .ok (.ireturn, 1) := by decide +kernel
theorem dX8_about_62 : decode cX8_about 62 = .ok (.aload_n 0, 1) := by decide +kernel
theorem dX8_about_63 : decode cX8_about 63 = .ok (.getfield 384, 3) := by decide +kernel
theorem dX8_about_66 : decode cX8_about 66 = .ok (.ireturn, 1) := by decide +kernel
theorem dX8_about_67 : decode cX8_about 67 = .ok (.aload_n 0, 1) := by decide +kernel
theorem dX8_about_68 : decode cX8_about 68 = .ok (.invokevirtual 414, 3) := by decide +kernel
theorem dX8_about_71 : decode cX8_about 71 = .ok (.ireturn, 1) := by decide +kernel
theorem dX8_about_72 : decode cX8_about 72 = .ok (.aload_n 0, 1) := by decide +kernel
theorem dX8_about_73 : decode cX8_about 73 = .ok (.getfield 378, 3) := by decide +kernel
theorem dX8_about_76 : decode cX8_about 76 = .ok (.ireturn, 1) := by decide +kernel
theorem dX8_about_77 : decode cX8_about 77 = .ok (.aload_n 0, 1) := by decide +kernel
theorem dX8_about_78 : decode cX8_about 78 = .ok (.getfield 473, 3) := by decide +kernel
theorem dX8_about_81 : decode cX8_about 81 = .ok (.ireturn, 1) := by decide +kernel
theorem dX8_about_82 : decode cX8_about 82 = .ok (.aload_n 0, 1) := by decide +kernel
theorem dX8_about_83 : decode cX8_about 83 = .ok (.getfield 160, 3) := by decide +kernel
theorem dX8_about_86 : decode cX8_about 86 = .ok (.ireturn, 1) := by decide +kernel
theorem dX8_about_87 : decode cX8_about 87 = .ok (.aload_n 0, 1) := by decide +kernel
theorem dX8_about_88 : decode cX8_about 88 = .ok (.getfield 96, 3) := by decide +kernel
theorem dX8_about_91 : decode cX8_about 91 = .ok (.ireturn, 1) := by decide +kernel
theorem dX8_about_92 : decode cX8_about 92 = .ok (.aload_n 0, 1) := by decide +kernel
theorem dX8_about_93 : decode cX8_about 93 = .ok (.getfield 366, 3) := by decide +kernel
theorem dX8_about_96 : decode cX8_about 96 = .ok (.ireturn, 1) := by decide +kernel
theorem dX8_about_97 : decode cX8_about 97 = .ok (.iconst (-1), 1) := by decide +kernel
theorem dX8_about_98 : decode cX8_about 98 = .ok (.ireturn, 1) := by decide +kernel
end
section
/-! ONE WORLD: all cells of the class and of the reference, by their numbers; ints, longs and references as three tables -/
abbrev wr_M : Type := MethodName × ByteArray × Nat × Option FieldType
abbrev wr_S : Type := (Nat × Nat) ⊕ Nat
abbrev wr_Z : Type := va_G × (Nat → ClassId) × Nat × (Nat → Nat) × (Nat → Nat)
abbrev wr_TI : Type := Nat → Nat → Int32
abbrev wr_TL : Type := Nat → Nat → Int64
abbrev wr_TR : Type := Nat → Nat → Nat
abbrev wr_TQ : Type := Option Value → List wr_S → wr_TI → wr_TL → wr_TR → Prop
def wr_TG : List Cond := lw_tbl.filter goodWord
def wr_nest (w : Cond) : Bool := match w with
  | .fieldLinkNest _ _ _ _ _ _ => true
  | .methodLinkNest _ _ _ _ => true
  | _ => false
def wr_TN : List Cond := tables_1.filter wr_nest
def wr_cv (Z : wr_Z) (v : Value) : Value := match v with
  | .ref j => .ref (Z.2.2.2.1 j)
  | v => v
def wr_fC (ci : Nat) : String := match ci with
  | 0 => RX0 | 1 => RX1 | 2 => RX2 | 3 => RX3 | 4 => RX4 | 5 => RX5 | 6 => RX6 | 7 => RX7 | _ => RX8
def wr_fT (ci : Nat) : u_T := match ci with
  | 0 => TX0 | 1 => TX1 | 2 => TX2 | 3 => TX3 | 4 => TX4 | 5 => TX5 | 6 => TX6 | 7 => TX7 | _ => TX8
def wr_nf (ci : Nat) : Nat := match ci with
  | 0 => 9 | 1 => 10 | 2 => 4 | 3 => 13 | 4 => 11 | 5 => 13 | 6 => 2 | 7 => 12 | _ => 82
def wr_ty (ci : Nat) : Nat → FieldType := match ci with
  | 0 => tyX0 | 1 => tyX1 | 2 => tyX2 | 3 => tyX3 | 4 => tyX4 | 5 => tyX5 | 6 => tyX6 | 7 => tyX7 | _ => tyX8
def wr_kd (t : FieldType) : Nat := match t with
  | .long => 1
  | .object _ => 2
  | .array _ => 2
  | .float => 3
  | .double => 3
  | _ => 0
def wr_rf (Z : wr_Z) (r : Nat) : Option Nat := match r with
  | 0 => none
  | r + 1 => some (Z.2.2.2.1 r)
def wr_fv (Z : wr_Z) (I : wr_TI) (L : wr_TL) (R : wr_TR) (j : Nat) (kd k : Nat) : Value := match kd with
  | 0 => .int (I j k)
  | 1 => .long (L j k)
  | _ => va_rf (wr_rf Z (R j k))
def wr_fs (Z : wr_Z) (ci : Nat) (I : wr_TI) (L : wr_TL) (R : wr_TR) (j : Nat) : List Value := (List.range (wr_nf ci)).map (fun k => wr_fv Z I L R j (wr_kd (wr_ty ci k)) k)
def wr_ar (Z : wr_Z) (t : Nat) (I : wr_TI) (L : wr_TL) (R : wr_TR) (j : Nat) : (Nat → Int32) ⊕ (Nat → Int64) ⊕ (Nat → UInt32) ⊕ (Nat → UInt64) ⊕ (Nat → Option Nat) := match t with
  | 3 => .inr (.inl (L j))
  | 4 => .inr (.inr (.inr (.inr (fun i => wr_rf Z (R j i)))))
  | _ => .inl (I j)
def wr_ce (Z : wr_Z) (I : wr_TI) (L : wr_TL) (R : wr_TR) (x : wr_S) (j : Nat) : va_E := match x with
  | .inl (t, n) => .inl (Z.2.1 t, n, wr_ar Z t I L R j)
  | .inr ci => .inr (ci, wr_fs Z ci I L R j)
def wr_wd (Z : wr_Z) (sh : List wr_S) (I : wr_TI) (L : wr_TL) (R : wr_TR) : va_W := (List.range sh.length).map (fun j => (Z.2.2.2.1 j, wr_ce Z I L R (sh.getD j (.inr 0)) j))
def wr_at (t : Nat) : FieldType := match t with
  | 0 => .int | 1 => .byte | 2 => .boolean | 3 => .long | _ => .object RX0
def wr_tys (Z : wr_Z) : List (ClassId × FieldType) := [(Z.2.1 0, .int), (Z.2.1 1, .byte), (Z.2.1 2, .boolean), (Z.2.1 3, .long), (Z.2.1 4, .object RX0)]
def wr_A (Z : wr_Z) : Nat → Prop := fun q => Z.2.2.1 ≤ q
def wr_H (Z : wr_Z) (sh : List wr_S) (I : wr_TI) (L : wr_TL) (R : wr_TR) (H : Heap) : Prop := H.size = Z.2.2.1 + sh.length ∧ sh.length ≤ 1000000 ∧ va_P Z.1 vwCl (wr_wd Z sh I L R) H
def wr_uI (I : wr_TI) (j k : Nat) (x : Int32) : wr_TI := fun a b => if a = j ∧ b = k then x else I a b
def wr_uL (L : wr_TL) (j k : Nat) (x : Int64) : wr_TL := fun a b => if a = j ∧ b = k then x else L a b
def wr_uR (R : wr_TR) (j k : Nat) (x : Nat) : wr_TR := fun a b => if a = j ∧ b = k then x else R a b
/-- the words of the tables at a state, the classes' numbers, the addresses -/
def wr_Tab0 (Z : wr_Z) (U : State) : Prop := (∀ w ∈ wr_TG, ∀ a : Array Value, w.before a U = true) ∧ (∀ w ∈ wr_TN, va_Nw w U) ∧ va_K Z.1 vwCl (wr_tys Z) U ∧ ∀ j, j < 1000000 → Z.2.2.2.1 j = Z.2.2.1 + j
theorem wr_wd_len (Z : wr_Z) (sh : List wr_S) (I : wr_TI) (L : wr_TL) (R : wr_TR) : (wr_wd Z sh I L R).length = sh.length := by simp [wr_wd]
theorem wr_wd_get {Z : wr_Z} {sh : List wr_S} {I : wr_TI} {L : wr_TL} {R : wr_TR} {j : Nat} {x : wr_S} (h : sh[j]? = some x) : (wr_wd Z sh I L R)[j]? = some (Z.2.2.2.1 j, wr_ce Z I L R x j) := by
  obtain ⟨hl, he⟩ := List.getElem?_eq_some_iff.mp h
  simp [wr_wd, hl, he]
theorem wr_wd_inv {Z : wr_Z} {sh : List wr_S} {I : wr_TI} {L : wr_TL} {R : wr_TR} {j : Nat} {q : Nat × va_E} (h : (wr_wd Z sh I L R)[j]? = some q) : j < sh.length ∧ q.1 = Z.2.2.2.1 j := by
  have hl : j < sh.length := by
    have := (List.getElem?_eq_some_iff.mp h).1
    rwa [wr_wd_len] at this
  refine ⟨hl, ?_⟩
  obtain ⟨x, hx⟩ : ∃ x, sh[j]? = some x := ⟨sh[j], List.getElem?_eq_getElem hl⟩
  rw [wr_wd_get hx] at h
  cases h
  rfl
theorem wr_wd_D {Z : wr_Z} {sh : List wr_S} {I : wr_TI} {L : wr_TL} {R : wr_TR} (hz : ∀ j, j < 1000000 → Z.2.2.2.1 j = Z.2.2.1 + j) (hs : sh.length ≤ 1000000) : va_D (wr_A Z) (wr_wd Z sh I L R) := by
  refine ⟨fun i j p q hi hj e => ?_, fun k q hk => ?_⟩
  · obtain ⟨h1, h2⟩ := wr_wd_inv hi
    obtain ⟨h3, h4⟩ := wr_wd_inv hj
    rw [h2, h4, hz i (by omega), hz j (by omega)] at e
    omega
  · obtain ⟨h1, h2⟩ := wr_wd_inv hk
    show Z.2.2.1 ≤ q.1
    rw [h2, hz k (by omega)]
    omega
/-- two worlds of one shape are one, but for the cell at j -/
theorem wr_wd_set {Z : wr_Z} {sh : List wr_S} {I I' : wr_TI} {L L' : wr_TL} {R R' : wr_TR} {j : Nat} {x : wr_S} {a : Nat} {e : va_E} (h : sh[j]? = some x) (ha : a = Z.2.2.2.1 j) (he : wr_ce Z I' L' R' x j = e) (ho : ∀ (i : Nat) (y : wr_S), i ≠ j → wr_ce Z I' L' R' y i = wr_ce Z I L R y i) : (wr_wd Z sh I L R).set j (a, e) = wr_wd Z sh I' L' R' := by
  subst ha
  subst he
  apply List.ext_getElem?
  intro i
  have hl : j < sh.length := (List.getElem?_eq_some_iff.mp h).1
  by_cases hij : i = j
  · subst hij
    rw [wr_wd_get h, List.getElem?_set_self (by rw [wr_wd_len]; exact hl)]
  · rw [List.getElem?_set_ne (Ne.symm hij)]
    by_cases hi : i < sh.length
    · have hx : sh[i]? = some sh[i] := List.getElem?_eq_getElem hi
      rw [wr_wd_get hx, wr_wd_get hx, ho i _ hij]
    · rw [List.getElem?_eq_none (by rw [wr_wd_len]; omega), List.getElem?_eq_none (by rw [wr_wd_len]; omega)]
theorem wr_ce_eq {Z : wr_Z} {I I' : wr_TI} {L L' : wr_TL} {R R' : wr_TR} {i : Nat} (hI : I' i = I i) (hL : L' i = L i) (hR : R' i = R i) (y : wr_S) : wr_ce Z I' L' R' y i = wr_ce Z I L R y i := by
  rcases y with ⟨t, n⟩ | ci
  · simp only [wr_ce, wr_ar]
    rw [hI, hL, hR]
  · simp only [wr_ce, wr_fs]
    congr 2
    apply List.map_congr_left
    intro k _
    simp only [wr_fv]
    rw [hI, hL, hR]
theorem wr_uI_ne {I : wr_TI} {j k i : Nat} {x : Int32} (h : i ≠ j) : wr_uI I j k x i = I i := by
  funext b
  simp [wr_uI, h]
theorem wr_uL_ne {L : wr_TL} {j k i : Nat} {x : Int64} (h : i ≠ j) : wr_uL L j k x i = L i := by
  funext b
  simp [wr_uL, h]
theorem wr_uR_ne {R : wr_TR} {j k i : Nat} {x : Nat} (h : i ≠ j) : wr_uR R j k x i = R i := by
  funext b
  simp [wr_uR, h]
theorem wr_fs_len {Z : wr_Z} {ci : Nat} {I : wr_TI} {L : wr_TL} {R : wr_TR} {j : Nat} : (wr_fs Z ci I L R j).length = wr_nf ci := by simp [wr_fs]
theorem wr_fs_get {Z : wr_Z} {ci : Nat} {I : wr_TI} {L : wr_TL} {R : wr_TR} {j k : Nat} (h : k < wr_nf ci) : (wr_fs Z ci I L R j)[k]? = some (wr_fv Z I L R j (wr_kd (wr_ty ci k)) k) := by simp [wr_fs, h]
theorem wr_fs_set {Z : wr_Z} {ci : Nat} {I I' : wr_TI} {L L' : wr_TL} {R R' : wr_TR} {j k : Nat} {v : Value} (hv : wr_fv Z I' L' R' j (wr_kd (wr_ty ci k)) k = v) (ho : ∀ i : Nat, i ≠ k → I' j i = I j i ∧ L' j i = L j i ∧ R' j i = R j i) : wr_fs Z ci I' L' R' j = (wr_fs Z ci I L R j).set k v := by
  subst hv
  apply List.ext_getElem?
  intro i
  by_cases hi : i < wr_nf ci
  · rw [wr_fs_get hi]
    by_cases hik : i = k
    · subst hik
      rw [List.getElem?_set_self (by rw [wr_fs_len]; exact hi)]
    · rw [List.getElem?_set_ne (Ne.symm hik), wr_fs_get hi]
      obtain ⟨h1, h2, h3⟩ := ho i hik
      simp only [wr_fv]
      rw [h1, h2, h3]
  · rw [List.getElem?_eq_none (by rw [wr_fs_len]; omega), List.getElem?_eq_none (by rw [List.length_set, wr_fs_len]; omega)]
/-- locals: what is known of them, by their places -/
def wr_en (Z : wr_Z) : List (Option Value) → Nat → List (Nat × Value)
  | [], _ => []
  | none :: t, i => wr_en Z t (i + 1)
  | some v :: t, i => (i, wr_cv Z v) :: wr_en Z t (i + 1)
theorem wr_en_mem {Z : wr_Z} : ∀ {ls : List (Option Value)} {b i : Nat} {v : Value}, ls[i]? = some (some v) → (b + i, wr_cv Z v) ∈ wr_en Z ls b := by
  intro ls
  induction ls with
  | nil => intro b i v h; simp at h
  | cons x t ih =>
    intro b i v h
    match i, h with
    | 0, h =>
      simp at h
      subst h
      simp [wr_en]
    | i + 1, h =>
      simp at h
      have := ih (b := b + 1) h
      rw [show b + 1 + i = b + (i + 1) by omega] at this
      cases x with
      | none => simpa [wr_en] using this
      | some w => simp only [wr_en]; exact List.mem_cons_of_mem _ this
theorem wr_en_inv {Z : wr_Z} : ∀ {ls : List (Option Value)} {b : Nat} {q : Nat × Value}, q ∈ wr_en Z ls b → ∃ (i : Nat) (v : Value), q = (b + i, wr_cv Z v) ∧ ls[i]? = some (some v) := by
  intro ls
  induction ls with
  | nil => intro b q h; simp [wr_en] at h
  | cons x t ih =>
    intro b q h
    cases x with
    | none =>
      simp only [wr_en] at h
      obtain ⟨i, v, h1, h2⟩ := ih h
      exact ⟨i + 1, v, by rw [h1]; congr 1; omega, by simpa using h2⟩
    | some w =>
      simp only [wr_en] at h
      rcases List.mem_cons.mp h with h | h
      · exact ⟨0, w, by simpa using h, by simp⟩
      · obtain ⟨i, v, h1, h2⟩ := ih h
        exact ⟨i + 1, v, by rw [h1]; congr 1; omega, by simpa using h2⟩
theorem wr_cv_cat (Z : wr_Z) (v : Value) : (wr_cv Z v).category = v.category := by cases v <;> rfl
def wr_wide (o : Option (Option Value)) : Bool := match o with
  | some (some (.long _)) => true
  | some (some (.double _)) => true
  | _ => false
/-- a store of one word, of two words -/
def wr_s1 (ls : List (Option Value)) (i : Nat) (v : Value) : List (Option Value) := match i with
  | 0 => ls.set 0 (some v)
  | k + 1 => bif wr_wide ls[k]? then (ls.set k none).set (k + 1) (some v) else ls.set (k + 1) (some v)
def wr_s2 (ls : List (Option Value)) (i : Nat) (v : Value) : List (Option Value) := (wr_s1 ls i v).set (i + 1) none
theorem wr_s1_get {ls : List (Option Value)} {i j : Nat} {v w : Value} (h : (wr_s1 ls i v)[j]? = some (some w)) : (j = i ∧ w = v) ∨ (j ≠ i ∧ ls[j]? = some (some w) ∧ ¬ (j + 1 = i ∧ w.category = 2)) := by
  have key : ∀ l : List (Option Value), (l.set i (some v))[j]? = some (some w) → (j = i ∧ w = v) ∨ (j ≠ i ∧ l[j]? = some (some w)) := by
    intro l h
    by_cases hij : i = j
    · subst hij
      left
      have hl : i < l.length := by
        have := (List.getElem?_eq_some_iff.mp h).1
        simpa using this
      rw [List.getElem?_set_self hl] at h
      exact ⟨rfl, by simpa using h.symm⟩
    · rw [List.getElem?_set_ne hij] at h
      exact Or.inr ⟨Ne.symm hij, h⟩
  cases i with
  | zero =>
    rcases key ls h with h1 | h1
    · exact Or.inl h1
    · exact Or.inr ⟨h1.1, h1.2, fun q => by omega⟩
  | succ k =>
    simp only [wr_s1] at h
    cases hw : wr_wide ls[k]? with
    | true =>
      rw [hw] at h
      rcases key _ h with h1 | ⟨h1, h2⟩
      · exact Or.inl h1
      · right
        by_cases hkj : k = j
        · subst hkj
          exfalso
          have hl : k < (ls.set k none).length := (List.getElem?_eq_some_iff.mp h2).1
          rw [List.getElem?_set_self (by simpa using hl)] at h2
          simp at h2
        · rw [List.getElem?_set_ne hkj] at h2
          exact ⟨h1, h2, fun q => by omega⟩
    | false =>
      rw [hw] at h
      rcases key _ h with h1 | ⟨h1, h2⟩
      · exact Or.inl h1
      · refine Or.inr ⟨h1, h2, fun q => ?_⟩
        have hk : j = k := by omega
        subst hk
        rw [h2] at hw
        cases w <;> simp [wr_wide, Value.category] at hw q
theorem wr_lh_s1 {Z : wr_Z} {la : Array Slot} {n i : Nat} {ls : List (Option Value)} {v : Value} (h : lv_has la n ((i, wr_cv Z v) :: (wr_en Z ls 0).filter (fun q => !(q.1 == i) && !(q.1 + 1 == i && q.2.category == 2)))) : lv_has la n (wr_en Z (wr_s1 ls i v) 0) := by
  refine ⟨h.1, h.2.1, fun q hq => h.2.2 q ?_⟩
  obtain ⟨j, w, rfl, hj⟩ := wr_en_inv hq
  rcases wr_s1_get hj with ⟨rfl, rfl⟩ | ⟨h1, h2, h3⟩
  · simp
  · refine List.mem_cons_of_mem _ (List.mem_filter.mpr ⟨wr_en_mem h2, ?_⟩)
    have e1 : (0 + j == i) = false := by simpa using h1
    rw [e1]
    simp only [wr_cv_cat]
    by_cases hz : j + 1 = i
    · have : ¬ w.category = 2 := fun z => h3 ⟨hz, z⟩
      simp [this]
    · simp [hz]
theorem wr_lh_s2 {Z : wr_Z} {la : Array Slot} {n i : Nat} {ls : List (Option Value)} {v : Value} (h : lv_has la n ((i, wr_cv Z v) :: (wr_en Z ls 0).filter (fun q => !(q.1 == i) && (!(q.1 == i + 1) && !(q.1 + 1 == i && q.2.category == 2))))) : lv_has la n (wr_en Z (wr_s2 ls i v) 0) := by
  refine ⟨h.1, h.2.1, fun q hq => h.2.2 q ?_⟩
  obtain ⟨j, w, rfl, hj⟩ := wr_en_inv hq
  have hne : j ≠ i + 1 := by
    intro e
    subst e
    have hl : i + 1 < ((wr_s1 ls i v).set (i + 1) none).length := (List.getElem?_eq_some_iff.mp hj).1
    rw [show wr_s2 ls i v = (wr_s1 ls i v).set (i + 1) none from rfl, List.getElem?_set_self (by simpa using hl)] at hj
    simp at hj
  rw [show wr_s2 ls i v = (wr_s1 ls i v).set (i + 1) none from rfl, List.getElem?_set_ne (Ne.symm hne)] at hj
  rcases wr_s1_get hj with ⟨rfl, rfl⟩ | ⟨h1, h2, h3⟩
  · simp
  · refine List.mem_cons_of_mem _ (List.mem_filter.mpr ⟨wr_en_mem h2, ?_⟩)
    have e1 : (0 + j == i) = false := by simpa using h1
    have e2 : (0 + j == i + 1) = false := by simpa using hne
    rw [e1, e2]
    simp only [wr_cv_cat]
    by_cases hz : j + 1 = i
    · have : ¬ w.category = 2 := fun z => h3 ⟨hz, z⟩
      simp [this]
    · simp [hz]
end
section
/-! THE ABSTRACT MACHINE: wr_V says that the method M, from pc with these locals and this stack over this memory, returns with Q -/
def wr_Str (Z : wr_Z) (U : State) : Prop := va_AO RX0 U
def wr_Tab (Z : wr_Z) (U : State) : Prop := wr_Tab0 Z U ∧ wr_Str Z U
def wr_C (M : wr_M) (d : Nat) (p : Program) (Rm : Room) (s : State) (m : MethodId) (meth : Method) (c : Code) : Prop :=
  p.tables.exec = Jvm.exec ∧ c.code = M.2.1 ∧ meth.sig.returnType = M.2.2.2 ∧ c.maxLocals = M.2.2.1 ∧ s.vm.findClass M.1.cls = some m.cls ∧ meth.locks = false ∧ meth.name = M.1.name ∧ d ≤ Rm.frames ∧ 64 * d ≤ Rm.locals
def wr_Qc (Z : wr_Z) (Q : wr_TQ) : Array Value → State → Outcome → State → Prop := fun _ st oc t => (∃ (v : Option Value) (sh : List wr_S) (I : wr_TI) (L : wr_TL) (R : wr_TR), oc = .returned (v.map (wr_cv Z)) ∧ Q v sh I L R ∧ wr_H Z sh I L R t.heap) ∧ va_F (wr_A Z) st t
/-- the machine stands at this point -/
def wr_X (Z : wr_Z) (M : wr_M) (d : Nat) (ls : List (Option Value)) (sh : List wr_S) (I : wr_TI) (L : wr_TL) (R : wr_TR) (mc ms : Nat) (p : Program) (Rm : Room) (s : State) (m : MethodId) (meth : Method) (c : Code) (H : Heap) (locs : List Loc) (cells slots mT sT : Nat) (la : Array Slot) : Prop :=
  wr_C M d p Rm s m meth c ∧ wr_Tab Z s ∧ Z.2.2.1 ≤ s.heap.size ∧ wr_H Z sh I L R H ∧ va_S (wr_A Z) s.heap H locs ∧ lv_has la M.2.2.1 (wr_en Z ls 0) ∧ cells + mc ≤ mT ∧ slots + ms ≤ sT ∧ mT ≤ Rm.cells ∧ sT ≤ Rm.slots
def wr_V (l : Launch) (d : Nat) (M : wr_M) (pc : Nat) (ls : List (Option Value)) (st : List Value) (sh : List wr_S) (I : wr_TI) (L : wr_TL) (R : wr_TR) (mc ms : Nat) (Q : wr_TQ) : Prop :=
  ∀ (Z : wr_Z) (p : Program) (e : Env) (Rm : Room) (s : State) (m : MethodId) (args : Array Value) (below : List Frame) (meth : Method) (c : Code) (H : Heap) (locs : List Loc) (cells slots mT sT : Nat) (la : Array Slot),
    wr_X Z M d ls sh I L R mc ms p Rm s m meth c H locs cells slots mT sT la → W p l e Rm s m args below meth c H locs cells slots (MQ below (wr_Qc Z Q) args s mT sT (wr_A Z)) (F0 m pc la (st.map (wr_cv Z)))
section WrRules
variable {l : Launch} {d : Nat} {M : wr_M} {pc : Nat} {ls : List (Option Value)} {st : List Value} {sh : List wr_S} {I : wr_TI} {L : wr_TL} {R : wr_TR} {mc ms : Nat} {Q : wr_TQ}
theorem wr_V.mono {d' : Nat} (h : d ≤ d') (k : wr_V l d M pc ls st sh I L R mc ms Q) : wr_V l d' M pc ls st sh I L R mc ms Q := by
  intro Z p e Rm s m args below meth c H locs cells slots mT sT la X
  obtain ⟨⟨h1, h2, h3, h4, h5, h6, h7, h8, h9⟩, X⟩ := X
  exact k Z p e Rm s m args below meth c H locs cells slots mT sT la ⟨⟨h1, h2, h3, h4, h5, h6, h7, by omega, by omega⟩, X⟩
theorem wr_V.imp {Q' : wr_TQ} (k : wr_V l d M pc ls st sh I L R mc ms Q') (h : ∀ v sh I L R, Q' v sh I L R → Q v sh I L R) : wr_V l d M pc ls st sh I L R mc ms Q := by
  intro Z p e Rm s m args below meth c H locs cells slots mT sT la X T hT S
  obtain ⟨t, a1, o, b1, b2, ⟨⟨v, sh', I', L', R', c1, c2, c3⟩, c4⟩, b4⟩ := k Z p e Rm s m args below meth c H locs cells slots mT sT la X T hT S
  exact ⟨t, a1, o, b1, b2, ⟨⟨v, sh', I', L', R', c1, h _ _ _ _ _ c2, c3⟩, c4⟩, b4⟩
/-- fewer known locals -/
theorem wv_ls {ls' : List (Option Value)} (h : ∀ (i : Nat) (v : Value), ls'[i]? = some (some v) → ls[i]? = some (some v)) (k : wr_V l d M pc ls' st sh I L R mc ms Q) : wr_V l d M pc ls st sh I L R mc ms Q := by
  intro Z p e Rm s m args below meth c H locs cells slots mT sT la X
  obtain ⟨X1, X2, X3, X4, X5, X6, X7⟩ := X
  refine k Z p e Rm s m args below meth c H locs cells slots mT sT la ⟨X1, X2, X3, X4, X5, ⟨X6.1, X6.2.1, fun q hq => ?_⟩, X7⟩
  obtain ⟨i, v, rfl, hi⟩ := wr_en_inv hq
  exact X6.2.2 _ (wr_en_mem (h i v hi))
theorem wv_iconst {n : Int} {v : Int32} (hd : decode M.2.1 pc = .ok (.iconst n, 1)) (hv : Int32.ofInt n = v) (k : wr_V l d M (pc + 1) ls (.int v :: st) sh I L R mc ms Q) : wr_V l d M pc ls st sh I L R mc ms Q := by
  intro Z p e Rm s m args below meth c H locs cells slots mT sT la X
  exact lv_iconst X.1.1 X.1.2.1 hd hv (k Z p e Rm s m args below meth c H locs cells slots mT sT la X)
theorem wv_bipush {n : Int} {v : Int32} (hd : decode M.2.1 pc = .ok (.bipush n, 2)) (hv : (Int8.ofInt n).toInt32 = v) (k : wr_V l d M (pc + 2) ls (.int v :: st) sh I L R mc ms Q) : wr_V l d M pc ls st sh I L R mc ms Q := by
  intro Z p e Rm s m args below meth c H locs cells slots mT sT la X
  exact lv_bipush X.1.1 X.1.2.1 hd hv (k Z p e Rm s m args below meth c H locs cells slots mT sT la X)
theorem wv_sipush {n : Int} {v : Int32} (hd : decode M.2.1 pc = .ok (.sipush n, 3)) (hv : (Int16.ofInt n).toInt32 = v) (k : wr_V l d M (pc + 3) ls (.int v :: st) sh I L R mc ms Q) : wr_V l d M pc ls st sh I L R mc ms Q := by
  intro Z p e Rm s m args below meth c H locs cells slots mT sT la X
  exact lv_sipush X.1.1 X.1.2.1 hd hv (k Z p e Rm s m args below meth c H locs cells slots mT sT la X)
theorem wv_lconst {n : Fin 2} {v : Int64} (hd : decode M.2.1 pc = .ok (.lconst n, 1)) (hv : Int64.ofNat (n : Nat) = v) (k : wr_V l d M (pc + 1) ls (.long v :: st) sh I L R mc ms Q) : wr_V l d M pc ls st sh I L R mc ms Q := by
  intro Z p e Rm s m args below meth c H locs cells slots mT sT la X
  exact lv_lconst X.1.1 X.1.2.1 hd hv (k Z p e Rm s m args below meth c H locs cells slots mT sT la X)
theorem wv_ldc {n : Nat} {v : Int32} (hw : Cond.constant M.1.cls n v ∈ wr_TG) (hd : decode M.2.1 pc = .ok (.ldc n, 2)) (k : wr_V l d M (pc + 2) ls (.int v :: st) sh I L R mc ms Q) : wr_V l d M pc ls st sh I L R mc ms Q := by
  intro Z p e Rm s m args below meth c H locs cells slots mT sT la X
  exact lv_ldc X.1.1 X.1.2.1 X.1.2.2.2.2.1 (X.2.1.1.1 _ hw args) hd (k Z p e Rm s m args below meth c H locs cells slots mT sT la X)
theorem wv_ldc_w {n : Nat} {v : Int32} (hw : Cond.constant M.1.cls n v ∈ wr_TG) (hd : decode M.2.1 pc = .ok (.ldc_w n, 3)) (k : wr_V l d M (pc + 3) ls (.int v :: st) sh I L R mc ms Q) : wr_V l d M pc ls st sh I L R mc ms Q := by
  intro Z p e Rm s m args below meth c H locs cells slots mT sT la X
  exact lv_ldcw X.1.1 X.1.2.1 X.1.2.2.2.2.1 (X.2.1.1.1 _ hw args) hd (k Z p e Rm s m args below meth c H locs cells slots mT sT la X)
theorem wv_ldc2_w {n : Nat} {v : Int64} (hw : Cond.constantLong M.1.cls n v ∈ wr_TG) (hd : decode M.2.1 pc = .ok (.ldc2_w n, 3)) (k : wr_V l d M (pc + 3) ls (.long v :: st) sh I L R mc ms Q) : wr_V l d M pc ls st sh I L R mc ms Q := by
  intro Z p e Rm s m args below meth c H locs cells slots mT sT la X
  exact lv_ldc2 X.1.1 X.1.2.1 X.1.2.2.2.2.1 (X.2.1.1.1 _ hw args) hd (k Z p e Rm s m args below meth c H locs cells slots mT sT la X)
theorem wr_la {Z : wr_Z} {la : Array Slot} {n i : Nat} {ls : List (Option Value)} {v : Value} (h : lv_has la n (wr_en Z ls 0)) (hi : ls[i]? = some (some v)) : la[i]? = some (.val (wr_cv Z v)) := by
  have := h.2.2 _ (wr_en_mem (b := 0) hi)
  rwa [show 0 + i = i from Nat.zero_add i] at this
theorem wv_iload_n {n : Fin 4} {x : Int32} (hd : decode M.2.1 pc = .ok (.iload_n n, 1)) (hl : ls[(n : Nat)]? = some (some (.int x))) (k : wr_V l d M (pc + 1) ls (.int x :: st) sh I L R mc ms Q) : wr_V l d M pc ls st sh I L R mc ms Q := by
  intro Z p e Rm s m args below meth c H locs cells slots mT sT la X
  exact lv_iload_n X.1.1 X.1.2.1 hd rfl (wr_la X.2.2.2.2.2.1 hl) (k Z p e Rm s m args below meth c H locs cells slots mT sT la X)
theorem wv_iload {n : Nat} {x : Int32} (hd : decode M.2.1 pc = .ok (.iload n, 2)) (hl : ls[n]? = some (some (.int x))) (k : wr_V l d M (pc + 2) ls (.int x :: st) sh I L R mc ms Q) : wr_V l d M pc ls st sh I L R mc ms Q := by
  intro Z p e Rm s m args below meth c H locs cells slots mT sT la X
  exact lv_iload X.1.1 X.1.2.1 hd (wr_la X.2.2.2.2.2.1 hl) (k Z p e Rm s m args below meth c H locs cells slots mT sT la X)
theorem wv_lload_n {n : Fin 4} {x : Int64} (hd : decode M.2.1 pc = .ok (.lload_n n, 1)) (hl : ls[(n : Nat)]? = some (some (.long x))) (k : wr_V l d M (pc + 1) ls (.long x :: st) sh I L R mc ms Q) : wr_V l d M pc ls st sh I L R mc ms Q := by
  intro Z p e Rm s m args below meth c H locs cells slots mT sT la X
  exact lv_lload_n X.1.1 X.1.2.1 hd rfl (wr_la X.2.2.2.2.2.1 hl) (k Z p e Rm s m args below meth c H locs cells slots mT sT la X)
theorem wv_lload {n : Nat} {x : Int64} (hd : decode M.2.1 pc = .ok (.lload n, 2)) (hl : ls[n]? = some (some (.long x))) (k : wr_V l d M (pc + 2) ls (.long x :: st) sh I L R mc ms Q) : wr_V l d M pc ls st sh I L R mc ms Q := by
  intro Z p e Rm s m args below meth c H locs cells slots mT sT la X
  exact lv_lload X.1.1 X.1.2.1 hd (wr_la X.2.2.2.2.2.1 hl) (k Z p e Rm s m args below meth c H locs cells slots mT sT la X)
theorem wv_aload_n {n : Fin 4} {x : Nat} (hd : decode M.2.1 pc = .ok (.aload_n n, 1)) (hl : ls[(n : Nat)]? = some (some (.ref x))) (k : wr_V l d M (pc + 1) ls (.ref x :: st) sh I L R mc ms Q) : wr_V l d M pc ls st sh I L R mc ms Q := by
  intro Z p e Rm s m args below meth c H locs cells slots mT sT la X
  exact lv_aload_n X.1.1 X.1.2.1 hd rfl (wr_la X.2.2.2.2.2.1 hl) (k Z p e Rm s m args below meth c H locs cells slots mT sT la X)
theorem wv_aload {n : Nat} {x : Nat} (hd : decode M.2.1 pc = .ok (.aload n, 2)) (hl : ls[n]? = some (some (.ref x))) (k : wr_V l d M (pc + 2) ls (.ref x :: st) sh I L R mc ms Q) : wr_V l d M pc ls st sh I L R mc ms Q := by
  intro Z p e Rm s m args below meth c H locs cells slots mT sT la X
  exact lv_aload X.1.1 X.1.2.1 hd (wr_la X.2.2.2.2.2.1 hl) (k Z p e Rm s m args below meth c H locs cells slots mT sT la X)
theorem wv_istore_n {n : Fin 4} {x : Int32} (hd : decode M.2.1 pc = .ok (.istore_n n, 1)) (hn : (n : Nat) < M.2.2.1) (k : wr_V l d M (pc + 1) (wr_s1 ls (n : Nat) (.int x)) st sh I L R mc ms Q) : wr_V l d M pc ls (.int x :: st) sh I L R mc ms Q := by
  intro Z p e Rm s m args below meth c H locs cells slots mT sT la X
  exact lv_istore_n X.1.1 X.1.2.1 hd rfl X.2.2.2.2.2.1 hn rfl (fun la2 h2 => k Z p e Rm s m args below meth c H locs cells slots mT sT la2 ⟨X.1, X.2.1, X.2.2.1, X.2.2.2.1, X.2.2.2.2.1, wr_lh_s1 (v := .int x) h2, X.2.2.2.2.2.2⟩)
theorem wv_istore {n : Nat} {x : Int32} (hd : decode M.2.1 pc = .ok (.istore n, 2)) (hn : n < M.2.2.1) (k : wr_V l d M (pc + 2) (wr_s1 ls n (.int x)) st sh I L R mc ms Q) : wr_V l d M pc ls (.int x :: st) sh I L R mc ms Q := by
  intro Z p e Rm s m args below meth c H locs cells slots mT sT la X
  exact lv_istore X.1.1 X.1.2.1 hd X.2.2.2.2.2.1 hn rfl (fun la2 h2 => k Z p e Rm s m args below meth c H locs cells slots mT sT la2 ⟨X.1, X.2.1, X.2.2.1, X.2.2.2.1, X.2.2.2.2.1, wr_lh_s1 (v := .int x) h2, X.2.2.2.2.2.2⟩)
theorem wv_lstore_n {n : Fin 4} {x : Int64} (hd : decode M.2.1 pc = .ok (.lstore_n n, 1)) (hn : (n : Nat) + 1 < M.2.2.1) (k : wr_V l d M (pc + 1) (wr_s2 ls (n : Nat) (.long x)) st sh I L R mc ms Q) : wr_V l d M pc ls (.long x :: st) sh I L R mc ms Q := by
  intro Z p e Rm s m args below meth c H locs cells slots mT sT la X
  exact lv_lstore_n X.1.1 X.1.2.1 hd rfl X.2.2.2.2.2.1 hn rfl (fun la2 h2 => k Z p e Rm s m args below meth c H locs cells slots mT sT la2 ⟨X.1, X.2.1, X.2.2.1, X.2.2.2.1, X.2.2.2.2.1, wr_lh_s2 (v := .long x) h2, X.2.2.2.2.2.2⟩)
theorem wv_lstore {n : Nat} {x : Int64} (hd : decode M.2.1 pc = .ok (.lstore n, 2)) (hn : n + 1 < M.2.2.1) (k : wr_V l d M (pc + 2) (wr_s2 ls n (.long x)) st sh I L R mc ms Q) : wr_V l d M pc ls (.long x :: st) sh I L R mc ms Q := by
  intro Z p e Rm s m args below meth c H locs cells slots mT sT la X
  exact lv_lstore X.1.1 X.1.2.1 hd X.2.2.2.2.2.1 hn rfl (fun la2 h2 => k Z p e Rm s m args below meth c H locs cells slots mT sT la2 ⟨X.1, X.2.1, X.2.2.1, X.2.2.2.1, X.2.2.2.2.1, wr_lh_s2 (v := .long x) h2, X.2.2.2.2.2.2⟩)
theorem wv_astore_n {n : Fin 4} {x : Nat} (hd : decode M.2.1 pc = .ok (.astore_n n, 1)) (hn : (n : Nat) < M.2.2.1) (k : wr_V l d M (pc + 1) (wr_s1 ls (n : Nat) (.ref x)) st sh I L R mc ms Q) : wr_V l d M pc ls (.ref x :: st) sh I L R mc ms Q := by
  intro Z p e Rm s m args below meth c H locs cells slots mT sT la X
  exact lv_astore_n X.1.1 X.1.2.1 hd rfl X.2.2.2.2.2.1 hn rfl (fun la2 h2 => k Z p e Rm s m args below meth c H locs cells slots mT sT la2 ⟨X.1, X.2.1, X.2.2.1, X.2.2.2.1, X.2.2.2.2.1, wr_lh_s1 (v := .ref x) h2, X.2.2.2.2.2.2⟩)
theorem wv_iinc {n : Nat} {i : Int} {x v : Int32} (hd : decode M.2.1 pc = .ok (.iinc n i, 3)) (hl : ls[n]? = some (some (.int x))) (hv : x + Int32.ofInt i = v) (hn : n < M.2.2.1) (k : wr_V l d M (pc + 3) (wr_s1 ls n (.int v)) st sh I L R mc ms Q) : wr_V l d M pc ls st sh I L R mc ms Q := by
  intro Z p e Rm s m args below meth c H locs cells slots mT sT la X
  obtain ⟨j, hj⟩ := List.getElem?_of_mem (wr_en_mem (Z := Z) (b := 0) hl)
  rw [show 0 + n = n from Nat.zero_add n] at hj
  exact lv_iinc X.1.1 X.1.2.1 hd X.2.2.2.2.2.1 hj hv hn rfl (fun la2 h2 => k Z p e Rm s m args below meth c H locs cells slots mT sT la2 ⟨X.1, X.2.1, X.2.2.1, X.2.2.2.1, X.2.2.2.2.1, wr_lh_s1 (v := .int v) h2, X.2.2.2.2.2.2⟩)
theorem wv_iadd {x y : Int32} (hd : decode M.2.1 pc = .ok (.iadd, 1)) (k : wr_V l d M (pc + 1) ls (.int (x + y) :: st) sh I L R mc ms Q) : wr_V l d M pc ls (.int y :: .int x :: st) sh I L R mc ms Q := by
  intro Z p e Rm s m args below meth c H locs cells slots mT sT la X
  exact lv_iadd X.1.1 X.1.2.1 hd  (k Z p e Rm s m args below meth c H locs cells slots mT sT la X)
theorem wv_isub {x y : Int32} (hd : decode M.2.1 pc = .ok (.isub, 1)) (k : wr_V l d M (pc + 1) ls (.int (x - y) :: st) sh I L R mc ms Q) : wr_V l d M pc ls (.int y :: .int x :: st) sh I L R mc ms Q := by
  intro Z p e Rm s m args below meth c H locs cells slots mT sT la X
  exact lv_isub X.1.1 X.1.2.1 hd  (k Z p e Rm s m args below meth c H locs cells slots mT sT la X)
theorem wv_imul {x y : Int32} (hd : decode M.2.1 pc = .ok (.imul, 1)) (k : wr_V l d M (pc + 1) ls (.int (x * y) :: st) sh I L R mc ms Q) : wr_V l d M pc ls (.int y :: .int x :: st) sh I L R mc ms Q := by
  intro Z p e Rm s m args below meth c H locs cells slots mT sT la X
  exact lv_imul X.1.1 X.1.2.1 hd  (k Z p e Rm s m args below meth c H locs cells slots mT sT la X)
theorem wv_iand {x y : Int32} (hd : decode M.2.1 pc = .ok (.iand, 1)) (k : wr_V l d M (pc + 1) ls (.int (x &&& y) :: st) sh I L R mc ms Q) : wr_V l d M pc ls (.int y :: .int x :: st) sh I L R mc ms Q := by
  intro Z p e Rm s m args below meth c H locs cells slots mT sT la X
  exact lv_iand X.1.1 X.1.2.1 hd  (k Z p e Rm s m args below meth c H locs cells slots mT sT la X)
theorem wv_ishr {x y : Int32} (hd : decode M.2.1 pc = .ok (.ishr, 1)) (k : wr_V l d M (pc + 1) ls (.int (x >>> (y &&& 31)) :: st) sh I L R mc ms Q) : wr_V l d M pc ls (.int y :: .int x :: st) sh I L R mc ms Q := by
  intro Z p e Rm s m args below meth c H locs cells slots mT sT la X
  exact lv_ishr X.1.1 X.1.2.1 hd  (k Z p e Rm s m args below meth c H locs cells slots mT sT la X)
theorem wv_idiv {x y : Int32} (hd : decode M.2.1 pc = .ok (.idiv, 1)) (hne : ¬ y = 0) (k : wr_V l d M (pc + 1) ls (.int (x / y) :: st) sh I L R mc ms Q) : wr_V l d M pc ls (.int y :: .int x :: st) sh I L R mc ms Q := by
  intro Z p e Rm s m args below meth c H locs cells slots mT sT la X
  exact lv_idiv X.1.1 X.1.2.1 hd hne (k Z p e Rm s m args below meth c H locs cells slots mT sT la X)
theorem wv_irem {x y : Int32} (hd : decode M.2.1 pc = .ok (.irem, 1)) (hne : ¬ y = 0) (k : wr_V l d M (pc + 1) ls (.int (x - x / y * y) :: st) sh I L R mc ms Q) : wr_V l d M pc ls (.int y :: .int x :: st) sh I L R mc ms Q := by
  intro Z p e Rm s m args below meth c H locs cells slots mT sT la X
  exact lv_irem X.1.1 X.1.2.1 hd hne (k Z p e Rm s m args below meth c H locs cells slots mT sT la X)
theorem wv_ladd {x y : Int64} (hd : decode M.2.1 pc = .ok (.ladd, 1)) (k : wr_V l d M (pc + 1) ls (.long (x + y) :: st) sh I L R mc ms Q) : wr_V l d M pc ls (.long y :: .long x :: st) sh I L R mc ms Q := by
  intro Z p e Rm s m args below meth c H locs cells slots mT sT la X
  exact lv_ladd X.1.1 X.1.2.1 hd  (k Z p e Rm s m args below meth c H locs cells slots mT sT la X)
theorem wv_lsub {x y : Int64} (hd : decode M.2.1 pc = .ok (.lsub, 1)) (k : wr_V l d M (pc + 1) ls (.long (x - y) :: st) sh I L R mc ms Q) : wr_V l d M pc ls (.long y :: .long x :: st) sh I L R mc ms Q := by
  intro Z p e Rm s m args below meth c H locs cells slots mT sT la X
  exact lv_lsub X.1.1 X.1.2.1 hd  (k Z p e Rm s m args below meth c H locs cells slots mT sT la X)
theorem wv_lmul {x y : Int64} (hd : decode M.2.1 pc = .ok (.lmul, 1)) (k : wr_V l d M (pc + 1) ls (.long (x * y) :: st) sh I L R mc ms Q) : wr_V l d M pc ls (.long y :: .long x :: st) sh I L R mc ms Q := by
  intro Z p e Rm s m args below meth c H locs cells slots mT sT la X
  exact lv_lmul X.1.1 X.1.2.1 hd  (k Z p e Rm s m args below meth c H locs cells slots mT sT la X)
theorem wv_land {x y : Int64} (hd : decode M.2.1 pc = .ok (.land, 1)) (k : wr_V l d M (pc + 1) ls (.long (x &&& y) :: st) sh I L R mc ms Q) : wr_V l d M pc ls (.long y :: .long x :: st) sh I L R mc ms Q := by
  intro Z p e Rm s m args below meth c H locs cells slots mT sT la X
  exact lv_land X.1.1 X.1.2.1 hd  (k Z p e Rm s m args below meth c H locs cells slots mT sT la X)
theorem wv_lor {x y : Int64} (hd : decode M.2.1 pc = .ok (.lor, 1)) (k : wr_V l d M (pc + 1) ls (.long (x ||| y) :: st) sh I L R mc ms Q) : wr_V l d M pc ls (.long y :: .long x :: st) sh I L R mc ms Q := by
  intro Z p e Rm s m args below meth c H locs cells slots mT sT la X
  exact lv_lor X.1.1 X.1.2.1 hd  (k Z p e Rm s m args below meth c H locs cells slots mT sT la X)
theorem wv_lxor {x y : Int64} (hd : decode M.2.1 pc = .ok (.lxor, 1)) (k : wr_V l d M (pc + 1) ls (.long (x ^^^ y) :: st) sh I L R mc ms Q) : wr_V l d M pc ls (.long y :: .long x :: st) sh I L R mc ms Q := by
  intro Z p e Rm s m args below meth c H locs cells slots mT sT la X
  exact lv_lxor X.1.1 X.1.2.1 hd  (k Z p e Rm s m args below meth c H locs cells slots mT sT la X)
theorem wv_ldiv {x y : Int64} (hd : decode M.2.1 pc = .ok (.ldiv, 1)) (hne : ¬ y = 0) (k : wr_V l d M (pc + 1) ls (.long (x / y) :: st) sh I L R mc ms Q) : wr_V l d M pc ls (.long y :: .long x :: st) sh I L R mc ms Q := by
  intro Z p e Rm s m args below meth c H locs cells slots mT sT la X
  exact lv_ldiv X.1.1 X.1.2.1 hd hne (k Z p e Rm s m args below meth c H locs cells slots mT sT la X)
theorem wv_lrem {x y : Int64} (hd : decode M.2.1 pc = .ok (.lrem, 1)) (hne : ¬ y = 0) (k : wr_V l d M (pc + 1) ls (.long (x - x / y * y) :: st) sh I L R mc ms Q) : wr_V l d M pc ls (.long y :: .long x :: st) sh I L R mc ms Q := by
  intro Z p e Rm s m args below meth c H locs cells slots mT sT la X
  exact lv_lrem X.1.1 X.1.2.1 hd hne (k Z p e Rm s m args below meth c H locs cells slots mT sT la X)
theorem wv_iushr {x y : Int32} (hd : decode M.2.1 pc = .ok (.iushr, 1)) (k : wr_V l d M (pc + 1) ls (.int ((x.toUInt32 >>> (y.toUInt32 &&& Int32.toUInt32 31)).toInt32) :: st) sh I L R mc ms Q) : wr_V l d M pc ls (.int y :: .int x :: st) sh I L R mc ms Q := by
  intro Z p e Rm s m args below meth c H locs cells slots mT sT la X
  exact lv_iushr X.1.1 X.1.2.1 hd rfl (k Z p e Rm s m args below meth c H locs cells slots mT sT la X)
theorem wv_lshl {x : Int64} {y : Int32} (hd : decode M.2.1 pc = .ok (.lshl, 1)) (k : wr_V l d M (pc + 1) ls (.long (x <<< (y.toInt64 &&& 63)) :: st) sh I L R mc ms Q) : wr_V l d M pc ls (.int y :: .long x :: st) sh I L R mc ms Q := by
  intro Z p e Rm s m args below meth c H locs cells slots mT sT la X
  exact lv_lshl X.1.1 X.1.2.1 hd rfl (k Z p e Rm s m args below meth c H locs cells slots mT sT la X)
theorem wv_lshr {x : Int64} {y : Int32} (hd : decode M.2.1 pc = .ok (.lshr, 1)) (k : wr_V l d M (pc + 1) ls (.long (x >>> (y.toInt64 &&& 63)) :: st) sh I L R mc ms Q) : wr_V l d M pc ls (.int y :: .long x :: st) sh I L R mc ms Q := by
  intro Z p e Rm s m args below meth c H locs cells slots mT sT la X
  exact lv_lshr X.1.1 X.1.2.1 hd rfl (k Z p e Rm s m args below meth c H locs cells slots mT sT la X)
theorem wv_lushr {x : Int64} {y : Int32} (hd : decode M.2.1 pc = .ok (.lushr, 1)) (k : wr_V l d M (pc + 1) ls (.long ((x.toUInt64 >>> (y.toInt64.toUInt64 &&& Int64.toUInt64 63)).toInt64) :: st) sh I L R mc ms Q) : wr_V l d M pc ls (.int y :: .long x :: st) sh I L R mc ms Q := by
  intro Z p e Rm s m args below meth c H locs cells slots mT sT la X
  exact lv_lushr X.1.1 X.1.2.1 hd rfl (k Z p e Rm s m args below meth c H locs cells slots mT sT la X)
theorem wv_i2l {x : Int32} (hd : decode M.2.1 pc = .ok (.i2l, 1)) (k : wr_V l d M (pc + 1) ls (.long x.toInt64 :: st) sh I L R mc ms Q) : wr_V l d M pc ls (.int x :: st) sh I L R mc ms Q := by
  intro Z p e Rm s m args below meth c H locs cells slots mT sT la X
  exact lv_i2l X.1.1 X.1.2.1 hd rfl (k Z p e Rm s m args below meth c H locs cells slots mT sT la X)
theorem wv_i2b {x : Int32} (hd : decode M.2.1 pc = .ok (.i2b, 1)) (k : wr_V l d M (pc + 1) ls (.int x.toInt8.toInt32 :: st) sh I L R mc ms Q) : wr_V l d M pc ls (.int x :: st) sh I L R mc ms Q := by
  intro Z p e Rm s m args below meth c H locs cells slots mT sT la X
  exact lv_i2b X.1.1 X.1.2.1 hd rfl (k Z p e Rm s m args below meth c H locs cells slots mT sT la X)
theorem wv_l2i {x : Int64} (hd : decode M.2.1 pc = .ok (.l2i, 1)) (k : wr_V l d M (pc + 1) ls (.int x.toInt32 :: st) sh I L R mc ms Q) : wr_V l d M pc ls (.long x :: st) sh I L R mc ms Q := by
  intro Z p e Rm s m args below meth c H locs cells slots mT sT la X
  exact lv_l2i X.1.1 X.1.2.1 hd rfl (k Z p e Rm s m args below meth c H locs cells slots mT sT la X)
theorem wv_lcmp {x y : Int64} (hd : decode M.2.1 pc = .ok (.lcmp, 1)) (k : wr_V l d M (pc + 1) ls (.int (lg_cmp x y) :: st) sh I L R mc ms Q) : wr_V l d M pc ls (.long y :: .long x :: st) sh I L R mc ms Q := by
  intro Z p e Rm s m args below meth c H locs cells slots mT sT la X
  exact W.lcmp X.1.1 X.1.2.1 hd  (k Z p e Rm s m args below meth c H locs cells slots mT sT la X)
theorem wv_dup {v : Value} (hd : decode M.2.1 pc = .ok (.dup, 1)) (hv : v.category = 1) (k : wr_V l d M (pc + 1) ls (v :: v :: st) sh I L R mc ms Q) : wr_V l d M pc ls (v :: st) sh I L R mc ms Q := by
  intro Z p e Rm s m args below meth c H locs cells slots mT sT la X
  exact lv_dup X.1.1 X.1.2.1 hd ((wr_cv_cat Z v).trans hv) (k Z p e Rm s m args below meth c H locs cells slots mT sT la X)
theorem wv_pop {v : Value} (hd : decode M.2.1 pc = .ok (.pop, 1)) (hv : v.category = 1) (k : wr_V l d M (pc + 1) ls (st) sh I L R mc ms Q) : wr_V l d M pc ls (v :: st) sh I L R mc ms Q := by
  intro Z p e Rm s m args below meth c H locs cells slots mT sT la X
  exact lv_pop X.1.1 X.1.2.1 hd ((wr_cv_cat Z v).trans hv) (k Z p e Rm s m args below meth c H locs cells slots mT sT la X)
theorem wv_dup2 {v u : Value} (hd : decode M.2.1 pc = .ok (.dup2, 1)) (hv : v.category = 1) (hu : u.category = 1) (k : wr_V l d M (pc + 1) ls (v :: u :: v :: u :: st) sh I L R mc ms Q) : wr_V l d M pc ls (v :: u :: st) sh I L R mc ms Q := by
  intro Z p e Rm s m args below meth c H locs cells slots mT sT la X
  exact lv_dup2_11 X.1.1 X.1.2.1 hd ((wr_cv_cat Z v).trans hv) ((wr_cv_cat Z u).trans hu) (k Z p e Rm s m args below meth c H locs cells slots mT sT la X)
theorem wv_dup2l {v : Value} (hd : decode M.2.1 pc = .ok (.dup2, 1)) (hv : v.category = 2) (k : wr_V l d M (pc + 1) ls (v :: v :: st) sh I L R mc ms Q) : wr_V l d M pc ls (v :: st) sh I L R mc ms Q := by
  intro Z p e Rm s m args below meth c H locs cells slots mT sT la X
  exact lv_dup2_2 X.1.1 X.1.2.1 hd ((wr_cv_cat Z v).trans hv) (k Z p e Rm s m args below meth c H locs cells slots mT sT la X)
theorem wv_pop2l {v : Value} (hd : decode M.2.1 pc = .ok (.pop2, 1)) (hv : v.category = 2) (k : wr_V l d M (pc + 1) ls (st) sh I L R mc ms Q) : wr_V l d M pc ls (v :: st) sh I L R mc ms Q := by
  intro Z p e Rm s m args below meth c H locs cells slots mT sT la X
  exact lv_pop2_2 X.1.1 X.1.2.1 hd ((wr_cv_cat Z v).trans hv) (k Z p e Rm s m args below meth c H locs cells slots mT sT la X)
theorem wv_goto {off : Int} {tgt : Nat} (hd : decode M.2.1 pc = .ok (.goto off, 3)) (ht : (pc : Int) + off = (tgt : Int)) (k : wr_V l d M tgt ls st sh I L R mc ms Q) : wr_V l d M pc ls st sh I L R mc ms Q := by
  intro Z p e Rm s m args below meth c H locs cells slots mT sT la X
  exact lv_goto X.1.1 X.1.2.1 hd ht (k Z p e Rm s m args below meth c H locs cells slots mT sT la X)
theorem wv_ifnull {j : Nat} {off : Int} (hd : decode M.2.1 pc = .ok (.ifnull off, 3)) (k : wr_V l d M (pc + 3) ls st sh I L R mc ms Q) : wr_V l d M pc ls (.ref j :: st) sh I L R mc ms Q := by
  intro Z p e Rm s m args below meth c H locs cells slots mT sT la X
  exact lv_ifnull X.1.1 X.1.2.1 hd (k Z p e Rm s m args below meth c H locs cells slots mT sT la X)
theorem wv_icmp_eq {x y : Int32} {off : Int} {tgt : Nat} (hd : decode M.2.1 pc = .ok (.if_icmp .eq off, 3)) (ht : (pc : Int) + off = (tgt : Int)) (k1 : x = y → wr_V l d M tgt ls st sh I L R mc ms Q) (k2 : ¬ x = y → wr_V l d M (pc + 3) ls st sh I L R mc ms Q) : wr_V l d M pc ls (.int y :: .int x :: st) sh I L R mc ms Q := by
  intro Z p e Rm s m args below meth c H locs cells slots mT sT la X
  exact lv_icmp_eq X.1.1 X.1.2.1 hd ht (fun h => k1 h Z p e Rm s m args below meth c H locs cells slots mT sT la X) (fun h => k2 h Z p e Rm s m args below meth c H locs cells slots mT sT la X)
theorem wv_if_eq {x : Int32} {off : Int} {tgt : Nat} (hd : decode M.2.1 pc = .ok (.ifCond .eq off, 3)) (ht : (pc : Int) + off = (tgt : Int)) (k1 : x = 0 → wr_V l d M tgt ls st sh I L R mc ms Q) (k2 : ¬ x = 0 → wr_V l d M (pc + 3) ls st sh I L R mc ms Q) : wr_V l d M pc ls (.int x :: st) sh I L R mc ms Q := by
  intro Z p e Rm s m args below meth c H locs cells slots mT sT la X
  exact lv_if_eq X.1.1 X.1.2.1 hd ht (fun h => k1 h Z p e Rm s m args below meth c H locs cells slots mT sT la X) (fun h => k2 h Z p e Rm s m args below meth c H locs cells slots mT sT la X)
theorem wv_icmp_ne {x y : Int32} {off : Int} {tgt : Nat} (hd : decode M.2.1 pc = .ok (.if_icmp .ne off, 3)) (ht : (pc : Int) + off = (tgt : Int)) (k1 : ¬ x = y → wr_V l d M tgt ls st sh I L R mc ms Q) (k2 : x = y → wr_V l d M (pc + 3) ls st sh I L R mc ms Q) : wr_V l d M pc ls (.int y :: .int x :: st) sh I L R mc ms Q := by
  intro Z p e Rm s m args below meth c H locs cells slots mT sT la X
  exact lv_icmp_ne X.1.1 X.1.2.1 hd ht (fun h => k1 h Z p e Rm s m args below meth c H locs cells slots mT sT la X) (fun h => k2 h Z p e Rm s m args below meth c H locs cells slots mT sT la X)
theorem wv_if_ne {x : Int32} {off : Int} {tgt : Nat} (hd : decode M.2.1 pc = .ok (.ifCond .ne off, 3)) (ht : (pc : Int) + off = (tgt : Int)) (k1 : ¬ x = 0 → wr_V l d M tgt ls st sh I L R mc ms Q) (k2 : x = 0 → wr_V l d M (pc + 3) ls st sh I L R mc ms Q) : wr_V l d M pc ls (.int x :: st) sh I L R mc ms Q := by
  intro Z p e Rm s m args below meth c H locs cells slots mT sT la X
  exact lv_if_ne X.1.1 X.1.2.1 hd ht (fun h => k1 h Z p e Rm s m args below meth c H locs cells slots mT sT la X) (fun h => k2 h Z p e Rm s m args below meth c H locs cells slots mT sT la X)
theorem wv_icmp_lt {x y : Int32} {off : Int} {tgt : Nat} (hd : decode M.2.1 pc = .ok (.if_icmp .lt off, 3)) (ht : (pc : Int) + off = (tgt : Int)) (k1 : x < y → wr_V l d M tgt ls st sh I L R mc ms Q) (k2 : ¬ x < y → wr_V l d M (pc + 3) ls st sh I L R mc ms Q) : wr_V l d M pc ls (.int y :: .int x :: st) sh I L R mc ms Q := by
  intro Z p e Rm s m args below meth c H locs cells slots mT sT la X
  exact lv_icmp_lt X.1.1 X.1.2.1 hd ht (fun h => k1 h Z p e Rm s m args below meth c H locs cells slots mT sT la X) (fun h => k2 h Z p e Rm s m args below meth c H locs cells slots mT sT la X)
theorem wv_if_lt {x : Int32} {off : Int} {tgt : Nat} (hd : decode M.2.1 pc = .ok (.ifCond .lt off, 3)) (ht : (pc : Int) + off = (tgt : Int)) (k1 : x < 0 → wr_V l d M tgt ls st sh I L R mc ms Q) (k2 : ¬ x < 0 → wr_V l d M (pc + 3) ls st sh I L R mc ms Q) : wr_V l d M pc ls (.int x :: st) sh I L R mc ms Q := by
  intro Z p e Rm s m args below meth c H locs cells slots mT sT la X
  exact lv_if_lt X.1.1 X.1.2.1 hd ht (fun h => k1 h Z p e Rm s m args below meth c H locs cells slots mT sT la X) (fun h => k2 h Z p e Rm s m args below meth c H locs cells slots mT sT la X)
theorem wv_icmp_ge {x y : Int32} {off : Int} {tgt : Nat} (hd : decode M.2.1 pc = .ok (.if_icmp .ge off, 3)) (ht : (pc : Int) + off = (tgt : Int)) (k1 : y ≤ x → wr_V l d M tgt ls st sh I L R mc ms Q) (k2 : ¬ y ≤ x → wr_V l d M (pc + 3) ls st sh I L R mc ms Q) : wr_V l d M pc ls (.int y :: .int x :: st) sh I L R mc ms Q := by
  intro Z p e Rm s m args below meth c H locs cells slots mT sT la X
  exact lv_icmp_ge X.1.1 X.1.2.1 hd ht (fun h => k1 h Z p e Rm s m args below meth c H locs cells slots mT sT la X) (fun h => k2 h Z p e Rm s m args below meth c H locs cells slots mT sT la X)
theorem wv_if_ge {x : Int32} {off : Int} {tgt : Nat} (hd : decode M.2.1 pc = .ok (.ifCond .ge off, 3)) (ht : (pc : Int) + off = (tgt : Int)) (k1 : 0 ≤ x → wr_V l d M tgt ls st sh I L R mc ms Q) (k2 : ¬ 0 ≤ x → wr_V l d M (pc + 3) ls st sh I L R mc ms Q) : wr_V l d M pc ls (.int x :: st) sh I L R mc ms Q := by
  intro Z p e Rm s m args below meth c H locs cells slots mT sT la X
  exact lv_if_ge X.1.1 X.1.2.1 hd ht (fun h => k1 h Z p e Rm s m args below meth c H locs cells slots mT sT la X) (fun h => k2 h Z p e Rm s m args below meth c H locs cells slots mT sT la X)
theorem wv_icmp_gt {x y : Int32} {off : Int} {tgt : Nat} (hd : decode M.2.1 pc = .ok (.if_icmp .gt off, 3)) (ht : (pc : Int) + off = (tgt : Int)) (k1 : y < x → wr_V l d M tgt ls st sh I L R mc ms Q) (k2 : ¬ y < x → wr_V l d M (pc + 3) ls st sh I L R mc ms Q) : wr_V l d M pc ls (.int y :: .int x :: st) sh I L R mc ms Q := by
  intro Z p e Rm s m args below meth c H locs cells slots mT sT la X
  exact lv_icmp_gt X.1.1 X.1.2.1 hd ht (fun h => k1 h Z p e Rm s m args below meth c H locs cells slots mT sT la X) (fun h => k2 h Z p e Rm s m args below meth c H locs cells slots mT sT la X)
theorem wv_if_gt {x : Int32} {off : Int} {tgt : Nat} (hd : decode M.2.1 pc = .ok (.ifCond .gt off, 3)) (ht : (pc : Int) + off = (tgt : Int)) (k1 : 0 < x → wr_V l d M tgt ls st sh I L R mc ms Q) (k2 : ¬ 0 < x → wr_V l d M (pc + 3) ls st sh I L R mc ms Q) : wr_V l d M pc ls (.int x :: st) sh I L R mc ms Q := by
  intro Z p e Rm s m args below meth c H locs cells slots mT sT la X
  exact lv_if_gt X.1.1 X.1.2.1 hd ht (fun h => k1 h Z p e Rm s m args below meth c H locs cells slots mT sT la X) (fun h => k2 h Z p e Rm s m args below meth c H locs cells slots mT sT la X)
theorem wv_icmp_le {x y : Int32} {off : Int} {tgt : Nat} (hd : decode M.2.1 pc = .ok (.if_icmp .le off, 3)) (ht : (pc : Int) + off = (tgt : Int)) (k1 : x ≤ y → wr_V l d M tgt ls st sh I L R mc ms Q) (k2 : ¬ x ≤ y → wr_V l d M (pc + 3) ls st sh I L R mc ms Q) : wr_V l d M pc ls (.int y :: .int x :: st) sh I L R mc ms Q := by
  intro Z p e Rm s m args below meth c H locs cells slots mT sT la X
  exact lv_icmp_le X.1.1 X.1.2.1 hd ht (fun h => k1 h Z p e Rm s m args below meth c H locs cells slots mT sT la X) (fun h => k2 h Z p e Rm s m args below meth c H locs cells slots mT sT la X)
theorem wv_if_le {x : Int32} {off : Int} {tgt : Nat} (hd : decode M.2.1 pc = .ok (.ifCond .le off, 3)) (ht : (pc : Int) + off = (tgt : Int)) (k1 : x ≤ 0 → wr_V l d M tgt ls st sh I L R mc ms Q) (k2 : ¬ x ≤ 0 → wr_V l d M (pc + 3) ls st sh I L R mc ms Q) : wr_V l d M pc ls (.int x :: st) sh I L R mc ms Q := by
  intro Z p e Rm s m args below meth c H locs cells slots mT sT la X
  exact lv_if_le X.1.1 X.1.2.1 hd ht (fun h => k1 h Z p e Rm s m args below meth c H locs cells slots mT sT la X) (fun h => k2 h Z p e Rm s m args below meth c H locs cells slots mT sT la X)
theorem wv_tableIn {dflt lo hi : Int} {offs : Array Int} {len : Nat} {x : Int32} {off : Int} {tgt : Nat} (hd : decode M.2.1 pc = .ok (.tableswitch dflt lo hi offs, len)) (h1 : ¬ x.toInt < lo) (h2 : ¬ hi < x.toInt) (ho : offs[(x.toInt - lo).toNat]? = some off) (ht : (pc : Int) + off = (tgt : Int)) (k : wr_V l d M tgt ls st sh I L R mc ms Q) : wr_V l d M pc ls (.int x :: st) sh I L R mc ms Q := by
  intro Z p e Rm s m args below meth c H locs cells slots mT sT la X
  exact lv_tableIn X.1.1 X.1.2.1 hd h1 h2 ho ht (k Z p e Rm s m args below meth c H locs cells slots mT sT la X)
theorem wv_tableOut {dflt lo hi : Int} {offs : Array Int} {len : Nat} {x : Int32} {tgt : Nat} (hd : decode M.2.1 pc = .ok (.tableswitch dflt lo hi offs, len)) (h : x.toInt < lo ∨ hi < x.toInt) (ht : (pc : Int) + dflt = (tgt : Int)) (k : wr_V l d M tgt ls st sh I L R mc ms Q) : wr_V l d M pc ls (.int x :: st) sh I L R mc ms Q := by
  intro Z p e Rm s m args below meth c H locs cells slots mT sT la X
  exact lv_tableOut X.1.1 X.1.2.1 hd h ht (k Z p e Rm s m args below meth c H locs cells slots mT sT la X)
theorem wv_ret {x : Unit} (hM : M.2.2.2 = none) (hd : decode M.2.1 pc = .ok (.return_, 1)) (hq : Q none sh I L R) : wr_V l d M pc ls [] sh I L R mc ms Q := by
  intro Z p e Rm s m args below meth c H locs cells slots mT sT la X
  refine W.widen (k := mT) (n := sT) (by have := X.2.2.2.2.2.2.1; omega) (by have := X.2.2.2.2.2.2.2.1; omega) ?_
  exact W.vret X.1.1 X.1.2.1 (X.1.2.2.1.trans hM) (fun t ht hW => ⟨⟨none, sh, I, L, R, rfl, hq, by rw [ht]; exact X.2.2.2.1⟩, X.2.2.2.2.1.F ht⟩) X.2.2.2.2.1.2.2 hd X.1.2.2.2.2.2.1
theorem wv_lret {x : Int64} (hM : M.2.2.2 = some .long) (hd : decode M.2.1 pc = .ok (.lreturn, 1)) (hq : Q (some (.long x)) sh I L R) : wr_V l d M pc ls [.long x] sh I L R mc ms Q := by
  intro Z p e Rm s m args below meth c H locs cells slots mT sT la X
  refine W.widen (k := mT) (n := sT) (by have := X.2.2.2.2.2.2.1; omega) (by have := X.2.2.2.2.2.2.2.1; omega) ?_
  exact W.lret X.1.1 X.1.2.1 (X.1.2.2.1.trans hM) (fun t ht hW => ⟨⟨some (.long x), sh, I, L, R, rfl, hq, by rw [ht]; exact X.2.2.2.1⟩, X.2.2.2.2.1.F ht⟩) X.2.2.2.2.1.2.2 hd X.1.2.2.2.2.2.1
theorem wv_iret {x : Int32} (hM : M.2.2.2 = some .int) (hd : decode M.2.1 pc = .ok (.ireturn, 1)) (hq : Q (some (.int x)) sh I L R) : wr_V l d M pc ls [.int x] sh I L R mc ms Q := by
  intro Z p e Rm s m args below meth c H locs cells slots mT sT la X
  refine W.widen (k := mT) (n := sT) (by have := X.2.2.2.2.2.2.1; omega) (by have := X.2.2.2.2.2.2.2.1; omega) ?_
  exact W.iret X.1.1 X.1.2.1 (X.1.2.2.1.trans hM) (fun t ht hW => ⟨⟨some (.int x), sh, I, L, R, rfl, hq, by rw [ht]; exact X.2.2.2.1⟩, X.2.2.2.2.1.F ht⟩) X.2.2.2.2.1.2.2 hd X.1.2.2.2.2.2.1
theorem wv_zret {x : Int32} {ty : FieldType} (hM : M.2.2.2 = some ty) (hn : narrow ty (.int x) = .int x) (hd : decode M.2.1 pc = .ok (.ireturn, 1)) (hq : Q (some (.int x)) sh I L R) : wr_V l d M pc ls [.int x] sh I L R mc ms Q := by
  intro Z p e Rm s m args below meth c H locs cells slots mT sT la X
  refine W.widen (k := mT) (n := sT) (by have := X.2.2.2.2.2.2.1; omega) (by have := X.2.2.2.2.2.2.2.1; omega) ?_
  exact W.zret X.1.1 X.1.2.1 (X.1.2.2.1.trans hM) hn (fun t ht hW => ⟨⟨some (.int x), sh, I, L, R, rfl, hq, by rw [ht]; exact X.2.2.2.1⟩, X.2.2.2.2.1.F ht⟩) X.2.2.2.2.1.2.2 hd X.1.2.2.2.2.2.1
end WrRules
end
section
/-! fields and arrays -/
def wr_CK (ci : Nat) : Prop := vwCl[ci]? = some (wr_fC ci, wr_fT ci, wr_nf ci) ∧ (∀ w ∈ u_ws (wr_fC ci) (wr_fT ci) (wr_nf ci), w ∈ wr_TG) ∧ (∀ k, k < wr_nf ci → parseFieldDescriptor (wr_fT ci k).2.2.1 = some (wr_ty ci k)) ∧ (∀ a, a < wr_nf ci → ∀ b, b < wr_nf ci → a ≠ b → (wr_fT ci a).2.1 ≠ (wr_fT ci b).2.1)
theorem wr_ck0 : wr_CK 0 := ⟨rfl, by decide +kernel, tyX0_ok, nmX0⟩
theorem wr_ck1 : wr_CK 1 := ⟨rfl, by decide +kernel, tyX1_ok, nmX1⟩
theorem wr_ck2 : wr_CK 2 := ⟨rfl, by decide +kernel, tyX2_ok, nmX2⟩
theorem wr_ck3 : wr_CK 3 := ⟨rfl, by decide +kernel, tyX3_ok, nmX3⟩
theorem wr_ck4 : wr_CK 4 := ⟨rfl, by decide +kernel, tyX4_ok, nmX4⟩
theorem wr_ck5 : wr_CK 5 := ⟨rfl, by decide +kernel, tyX5_ok, nmX5⟩
theorem wr_ck6 : wr_CK 6 := ⟨rfl, by decide +kernel, tyX6_ok, nmX6⟩
theorem wr_ck7 : wr_CK 7 := ⟨rfl, by decide +kernel, tyX7_ok, nmX7⟩
theorem wr_ck8 : wr_CK 8 := ⟨rfl, by decide +kernel, tyX8_ok, nmX8⟩
theorem wr_ck {ci : Nat} (h : ci < 9) : wr_CK ci := by
  match ci, h with
  | 0, _ => exact wr_ck0
  | 1, _ => exact wr_ck1
  | 2, _ => exact wr_ck2
  | 3, _ => exact wr_ck3
  | 4, _ => exact wr_ck4
  | 5, _ => exact wr_ck5
  | 6, _ => exact wr_ck6
  | 7, _ => exact wr_ck7
  | 8, _ => exact wr_ck8
def wr_FL (own : String) (idx ci k : Nat) : Prop := ci < 9 ∧ k < wr_nf ci ∧ (Cond.fieldLink own idx (wr_fT ci k).1 (wr_fT ci k).2.1 (wr_fT ci k).2.2.1 ∈ wr_TG ∨ ∃ host, Cond.fieldLinkNest own idx (wr_fT ci k).1 (wr_fT ci k).2.1 (wr_fT ci k).2.2.1 host ∈ wr_TN)
end
section
/-! fields and arrays -/
section WrMem
variable {Z : wr_Z} {l : Launch} {d : Nat} {M : wr_M} {pc : Nat} {ls : List (Option Value)} {st : List Value} {sh : List wr_S} {I I' : wr_TI} {L L' : wr_TL} {R R' : wr_TR} {mc ms : Nat} {Q : wr_TQ}
variable {p : Program} {e : Env} {Rm : Room} {s : State} {m : MethodId} {args : Array Value} {below : List Frame} {meth : Method} {c : Code} {H : Heap} {locs : List Loc} {cells slots mT sT : Nat} {la : Array Slot} {QW : State → Prop} {rest : List Value}
theorem wr_get {j ci k idx : Nat} {v : Value} (X : wr_X Z M d ls sh I L R mc ms p Rm s m meth c H locs cells slots mT sT la) (hf : wr_FL M.1.cls idx ci k) (hs : sh[j]? = some (.inr ci)) (hv : wr_fv Z I L R j (wr_kd (wr_ty ci k)) k = v) (hd : decode M.2.1 pc = .ok (.getfield idx, 3))
    (kk : W p l e Rm s m args below meth c H locs cells slots QW (F0 m (pc + 3) la (v :: rest))) : W p l e Rm s m args below meth c H locs cells slots QW (F0 m pc la (.ref (Z.2.2.2.1 j) :: rest)) := by
  obtain ⟨hci, hk, hl⟩ := hf
  obtain ⟨c1, c2, c3, c4⟩ := wr_ck hci
  have he := wr_wd_get (Z := Z) (I := I) (L := L) (R := R) hs
  rcases hl with hl | ⟨host, hl⟩
  · exact va_get (D := Z.1) (ws := wr_wd Z sh I L R) X.1.1 X.1.2.1 (fun w h => X.2.1.1.1 w h args) c2 X.1.2.2.2.2.1 X.2.1.1.2.2.1 X.2.2.2.1.2.2 j he c1 k hk (X.2.1.1.1 _ hl args) (fun _ h => h) (v := v) (by rw [← hv]; exact wr_fs_get hk) hd kk
  · exact va_getN (D := Z.1) (ws := wr_wd Z sh I L R) X.1.1 X.1.2.1 (fun w h => X.2.1.1.1 w h args) c2 X.1.2.2.2.2.1 X.2.1.1.2.2.1 X.2.2.2.1.2.2 j he c1 k hk (va_Nw.use rfl (X.2.1.1.2.1 _ hl)) (fun _ h => h) (v := v) (by rw [← hv]; exact wr_fs_get hk) hd kk
/-- behind a write of a field -/
theorem wr_H_put {j ci k : Nat} {v : Value} {H1 : Heap} {cell : Cell} (hz : ∀ j, j < 1000000 → Z.2.2.2.1 j = Z.2.2.1 + j) (hH : wr_H Z sh I L R H) (hs : sh[j]? = some (.inr ci)) (hci : ci < 9) (hk : k < wr_nf ci) (hap : ∀ x y, x < wr_nf ci → y < wr_nf ci → x ≠ y → (Z.1.2 ci) x ≠ (Z.1.2 ci) y)
    (q2 : cell.cls = Z.1.1 ci) (q3 : cell.vm = .none) (q4 : ∀ k, k < wr_nf ci → cell.slots[Z.1.2 ci k]? = some (vp_V (wr_fs Z ci I L R j) k)) (e1 : H1[Z.2.2.2.1 j]? = some (cell.setSlot (Z.1.2 ci k) v)) (e2 : H1.size = H.size) (e3 : ∀ q, q ≠ Z.2.2.2.1 j → H1[q]? = H[q]?)
    (hv : wr_fv Z I' L' R' j (wr_kd (wr_ty ci k)) k = v) (ho : ∀ i : Nat, i ≠ k → I' j i = I j i ∧ L' j i = L j i ∧ R' j i = R j i) (hn : ∀ i, i ≠ j → I' i = I i ∧ L' i = L i ∧ R' i = R i) : wr_H Z sh I' L' R' H1 := by
  obtain ⟨h1, h2, h3⟩ := hH
  refine ⟨by rw [e2]; exact h1, h2, ?_⟩
  have he := wr_wd_get (Z := Z) (I := I) (L := L) (R := R) hs
  have := h3.set (wr_wd_D hz h2) he (e := .inr (ci, (wr_fs Z ci I L R j).set k v)) ⟨_, (wr_ck hci).1, t_OB.to (V := updV (vp_V (wr_fs Z ci I L R j)) k v) ⟨_, e1, q2, q3, t_set q4 hap hk v⟩ (fun i _ => vp_updV_set (by rw [wr_fs_len]; exact hk) v i)⟩ e3
  rwa [wr_wd_set (I' := I') (L' := L') (R' := R') hs rfl (by simp only [wr_ce]; rw [wr_fs_set hv ho]) (fun i y hi => wr_ce_eq (hn i hi).1 (hn i hi).2.1 (hn i hi).2.2 y)] at this
theorem wr_put {j ci k idx : Nat} {v : Value} (X : wr_X Z M d ls sh I L R mc ms p Rm s m meth c H locs cells slots mT sT la) (hf : wr_FL M.1.cls idx ci k) (hs : sh[j]? = some (.inr ci)) (hfin : (wr_fT ci k).2.2.2 = false) (hn : narrow (wr_ty ci k) v = v) (hfit : fits (wr_ty ci k) v = true)
    (hv : wr_fv Z I' L' R' j (wr_kd (wr_ty ci k)) k = v) (ho : ∀ i : Nat, i ≠ k → I' j i = I j i ∧ L' j i = L j i ∧ R' j i = R j i) (hm : ∀ i, i ≠ j → I' i = I i ∧ L' i = L i ∧ R' i = R i) (hd : decode M.2.1 pc = .ok (.putfield idx, 3))
    (kk : ∀ (H1 : Heap) (locs1 : List Loc), wr_H Z sh I' L' R' H1 → va_S (wr_A Z) s.heap H1 locs1 → W p l e Rm s m args below meth c H1 locs1 cells slots QW (F0 m (pc + 3) la rest)) : W p l e Rm s m args below meth c H locs cells slots QW (F0 m pc la (v :: .ref (Z.2.2.2.1 j) :: rest)) := by
  obtain ⟨hci, hk, hl⟩ := hf
  obtain ⟨c1, c2, c3, c4⟩ := wr_ck hci
  have he := wr_wd_get (Z := Z) (I := I) (L := L) (R := R) hs
  have hts : ∀ w ∈ wr_TG, w.before args s = true := fun w h => X.2.1.1.1 w h args
  have hK := X.2.1.1.2.2.1
  have hz := X.2.1.1.2.2.2
  have hD := wr_wd_D (sh := sh) (I := I) (L := L) (R := R) hz X.2.2.2.1.2.1
  have hap := va_apart (own := M.1.cls) hts c2 (wr_ty ci) c3 c4 hK c1
  obtain ⟨r, h1, cell, q1, q2, q3, q4⟩ := X.2.2.2.1.2.2 j _ he
  have hr : r = (wr_fC ci, wr_fT ci, wr_nf ci) := Option.some.inj (h1.symm.trans c1)
  subst hr
  obtain ⟨hS, hfc, kC, hkC, hkind⟩ := hK.1 ci _ c1
  obtain ⟨cf, kf, fi, f, hi, hsl⟩ := hS k hk
  have hlay := hts _ (c2 _ (u_in_lay hk))
  unfold u_lay at hlay
  rw [if_neg (by rw [hfin]; decide)] at hlay
  have hst := (u_facts hfc hkC (u_lays hts c2 hk) hi).1
  have h6 := u_store hfc hkC hkind hlay hi (c3 k hk) hn hfit
  have fin : ∀ H' : Heap, H'[Z.2.2.2.1 j]? = some (cell.setSlot f.slot v) → H'.size = H.size → (∀ q, q ≠ Z.2.2.2.1 j → H'[q]? = H[q]?) → W p l e Rm s m args below meth c H' (locs ++ [⟨Z.2.2.2.1 j, f.slot⟩]) cells slots QW (F0 m (pc + 3) la rest) := by
    intro H' e1 e2 e3
    rw [hsl] at e1
    exact kk H' _ (wr_H_put hz X.2.2.2.1 hs hci hk hap q2 q3 q4 e1 e2 e3 hv ho hm) (X.2.2.2.2.1.put e2 e3 (hD.2 j _ he))
  rcases hl with hl | ⟨host, hl⟩
  · exact W.putK X.1.1 X.1.2.1 (f := f) ⟨X.1.2.2.2.2.1, X.2.1.1.1 _ hl args, ⟨_, _, _, hi⟩, hst⟩ (by rw [q2]; exact h6) q1 q3 (by rw [hsl]; exact k2_hasslot (q4 k hk)) rfl rfl hd fin
  · exact va_WputK X.1.1 X.1.2.1 (f := f) X.1.2.2.2.2.1 (va_Nw.use rfl (X.2.1.1.2.1 _ hl)) hi hst (by rw [q2]; exact h6) q1 q3 (by rw [hsl]; exact k2_hasslot (q4 k hk)) rfl rfl hd fin
/-- a final field, in a constructor -/
theorem wr_putF {j ci k idx : Nat} {v : Value} (X : wr_X Z M d ls sh I L R mc ms p Rm s m meth c H locs cells slots mT sT la) (hci : ci < 9) (hk : k < wr_nf ci) (hl : Cond.fieldLink M.1.cls idx (wr_fT ci k).1 (wr_fT ci k).2.1 (wr_fT ci k).2.2.1 ∈ wr_TG) (hs : sh[j]? = some (.inr ci)) (hfin : (wr_fT ci k).2.2.2 = true) (hin : M.1.name = "<init>") (hdecl : (wr_fT ci k).1 = M.1.cls) (hn : narrow (wr_ty ci k) v = v) (hfit : fits (wr_ty ci k) v = true)
    (hv : wr_fv Z I' L' R' j (wr_kd (wr_ty ci k)) k = v) (ho : ∀ i : Nat, i ≠ k → I' j i = I j i ∧ L' j i = L j i ∧ R' j i = R j i) (hm : ∀ i, i ≠ j → I' i = I i ∧ L' i = L i ∧ R' i = R i) (hd : decode M.2.1 pc = .ok (.putfield idx, 3))
    (kk : ∀ (H1 : Heap) (locs1 : List Loc), wr_H Z sh I' L' R' H1 → va_S (wr_A Z) s.heap H1 locs1 → W p l e Rm s m args below meth c H1 locs1 cells slots QW (F0 m (pc + 3) la rest)) : W p l e Rm s m args below meth c H locs cells slots QW (F0 m pc la (v :: .ref (Z.2.2.2.1 j) :: rest)) := by
  obtain ⟨c1, c2, c3, c4⟩ := wr_ck hci
  have he := wr_wd_get (Z := Z) (I := I) (L := L) (R := R) hs
  have hts : ∀ w ∈ wr_TG, w.before args s = true := fun w h => X.2.1.1.1 w h args
  have hK := X.2.1.1.2.2.1
  have hz := X.2.1.1.2.2.2
  have hD := wr_wd_D (sh := sh) (I := I) (L := L) (R := R) hz X.2.2.2.1.2.1
  have hap := va_apart (own := M.1.cls) hts c2 (wr_ty ci) c3 c4 hK c1
  obtain ⟨r, h1, cell, q1, q2, q3, q4⟩ := X.2.2.2.1.2.2 j _ he
  have hr : r = (wr_fC ci, wr_fT ci, wr_nf ci) := Option.some.inj (h1.symm.trans c1)
  subst hr
  obtain ⟨hS, hfc, kC, hkC, hkind⟩ := hK.1 ci _ c1
  obtain ⟨cf, kf, fi, f, hi, hsl⟩ := hS k hk
  have hlay := hts _ (c2 _ (u_in_lay hk))
  unfold u_lay at hlay
  rw [if_pos hfin] at hlay
  have hst := (u_facts hfc hkC (u_lays hts c2 hk) hi).1
  have hcf : m.cls = cf := by
    obtain ⟨_, _, c', _, _, _, -, -, hf', -, -, -, hown2, -⟩ := Cond.laysFinal_spec hlay
    have e1 : c' = cf := by have := hi.symm.trans hf'; simp at this; exact this.1.symm
    rw [hdecl] at hown2
    rw [← e1]; exact Option.some.inj (X.1.2.2.2.2.1.symm.trans hown2)
  have h6 := u_fits hfc hkC hkind (Or.inr hlay) hi (c3 k hk) hn hfit
  refine W.putFinK X.1.1 X.1.2.1 X.1.2.2.2.2.1 (X.2.1.1.1 _ hl args) hi hst hcf (X.1.2.2.2.2.2.2.1.trans hin) (by rw [q2]; exact h6) q1 q3 (by rw [hsl]; exact k2_hasslot (q4 k hk)) rfl rfl hd fun H' e1 e2 e3 => ?_
  rw [hsl] at e1
  exact kk H' _ (wr_H_put hz X.2.2.2.1 hs hci hk hap q2 q3 q4 e1 e2 e3 hv ho hm) (X.2.2.2.2.1.put e2 e3 (hD.2 j _ he))
/-- behind a write into an array -/
theorem wr_H_ast {j t n : Nat} {H1 : Heap} (hz : ∀ j, j < 1000000 → Z.2.2.2.1 j = Z.2.2.1 + j) (hH : wr_H Z sh I L R H) (hs : sh[j]? = some (.inl (t, n)))
    (e1 : H1[Z.2.2.2.1 j]? = some (vp_cell (Z.2.1 t) (n, wr_ar Z t I' L' R' j))) (e2 : H1.size = H.size) (e3 : ∀ q, q ≠ Z.2.2.2.1 j → H1[q]? = H[q]?) (hn : ∀ i, i ≠ j → I' i = I i ∧ L' i = L i ∧ R' i = R i) : wr_H Z sh I' L' R' H1 := by
  obtain ⟨h1, h2, h3⟩ := hH
  refine ⟨by rw [e2]; exact h1, h2, ?_⟩
  have he := wr_wd_get (Z := Z) (I := I) (L := L) (R := R) hs
  have := h3.set (wr_wd_D hz h2) he (e := .inl (Z.2.1 t, n, wr_ar Z t I' L' R' j)) e1 e3
  rwa [wr_wd_set (Z := Z) (I' := I') (L' := L') (R' := R') (e := .inl (Z.2.1 t, n, wr_ar Z t I' L' R' j)) hs rfl rfl (fun i y hi => wr_ce_eq (hn i hi).1 (hn i hi).2.1 (hn i hi).2.2 y)] at this
end WrMem
section WrMemV
variable {l : Launch} {d : Nat} {M : wr_M} {pc : Nat} {ls : List (Option Value)} {st : List Value} {sh : List wr_S} {I : wr_TI} {L : wr_TL} {R : wr_TR} {mc ms : Nat} {Q : wr_TQ}
theorem wr_uI_ho (I : wr_TI) (L : wr_TL) (R : wr_TR) (j k : Nat) (x : Int32) : (∀ i : Nat, i ≠ k → wr_uI I j k x j i = I j i ∧ L j i = L j i ∧ R j i = R j i) ∧ ∀ i, i ≠ j → wr_uI I j k x i = I i ∧ L i = L i ∧ R i = R i := ⟨fun i h => ⟨by simp [wr_uI, h], rfl, rfl⟩, fun i h => ⟨wr_uI_ne h, rfl, rfl⟩⟩
theorem wr_uL_ho (I : wr_TI) (L : wr_TL) (R : wr_TR) (j k : Nat) (x : Int64) : (∀ i : Nat, i ≠ k → I j i = I j i ∧ wr_uL L j k x j i = L j i ∧ R j i = R j i) ∧ ∀ i, i ≠ j → I i = I i ∧ wr_uL L j k x i = L i ∧ R i = R i := ⟨fun i h => ⟨rfl, by simp [wr_uL, h], rfl⟩, fun i h => ⟨rfl, wr_uL_ne h, rfl⟩⟩
theorem wr_uR_ho (I : wr_TI) (L : wr_TL) (R : wr_TR) (j k : Nat) (x : Nat) : (∀ i : Nat, i ≠ k → I j i = I j i ∧ L j i = L j i ∧ wr_uR R j k x j i = R j i) ∧ ∀ i, i ≠ j → I i = I i ∧ L i = L i ∧ wr_uR R j k x i = R i := ⟨fun i h => ⟨rfl, rfl, by simp [wr_uR, h]⟩, fun i h => ⟨rfl, rfl, wr_uR_ne h⟩⟩
theorem wv_getI {j ci k idx : Nat} (hf : wr_FL M.1.cls idx ci k) (hd : decode M.2.1 pc = .ok (.getfield idx, 3)) (hk : wr_kd (wr_ty ci k) = 0) (hs : sh[j]? = some (.inr ci)) (k9 : wr_V l d M (pc + 3) ls (.int (I j k) :: st) sh I L R mc ms Q) : wr_V l d M pc ls (.ref j :: st) sh I L R mc ms Q := by
  intro Z p e Rm s m args below meth c H locs cells slots mT sT la X
  exact wr_get X hf hs (by rw [hk]; rfl) hd (k9 Z p e Rm s m args below meth c H locs cells slots mT sT la X)
theorem wv_getL {j ci k idx : Nat} (hf : wr_FL M.1.cls idx ci k) (hd : decode M.2.1 pc = .ok (.getfield idx, 3)) (hk : wr_kd (wr_ty ci k) = 1) (hs : sh[j]? = some (.inr ci)) (k9 : wr_V l d M (pc + 3) ls (.long (L j k) :: st) sh I L R mc ms Q) : wr_V l d M pc ls (.ref j :: st) sh I L R mc ms Q := by
  intro Z p e Rm s m args below meth c H locs cells slots mT sT la X
  exact wr_get X hf hs (by rw [hk]; rfl) hd (k9 Z p e Rm s m args below meth c H locs cells slots mT sT la X)
theorem wv_getR {j ci k idx r : Nat} (hf : wr_FL M.1.cls idx ci k) (hd : decode M.2.1 pc = .ok (.getfield idx, 3)) (hk : wr_kd (wr_ty ci k) = 2) (hs : sh[j]? = some (.inr ci)) (hr : R j k = r + 1) (k9 : wr_V l d M (pc + 3) ls (.ref r :: st) sh I L R mc ms Q) : wr_V l d M pc ls (.ref j :: st) sh I L R mc ms Q := by
  intro Z p e Rm s m args below meth c H locs cells slots mT sT la X
  exact wr_get X hf hs (by rw [hk]; show va_rf (wr_rf Z (R j k)) = _; rw [hr]; rfl) hd (k9 Z p e Rm s m args below meth c H locs cells slots mT sT la X)
theorem wv_putI {j ci k idx : Nat} {x : Int32} (hf : wr_FL M.1.cls idx ci k) (hd : decode M.2.1 pc = .ok (.putfield idx, 3)) (hk : wr_kd (wr_ty ci k) = 0) (hfin : (wr_fT ci k).2.2.2 = false) (hn : narrow (wr_ty ci k) (.int x) = .int x) (hfit : fits (wr_ty ci k) (.int x) = true) (hs : sh[j]? = some (.inr ci)) (k9 : wr_V l d M (pc + 3) ls st sh (wr_uI I j k x) L R mc ms Q) : wr_V l d M pc ls (.int x :: .ref j :: st) sh I L R mc ms Q := by
  intro Z p e Rm s m args below meth c H locs cells slots mT sT la X
  exact wr_put (v := .int x) (I' := wr_uI I j k x) (L' := L) (R' := R) X hf hs hfin hn hfit (by rw [hk]; simp [wr_fv, wr_uI]) (wr_uI_ho I L R j k x).1 (wr_uI_ho I L R j k x).2 hd (fun H1 locs1 h1 h2 => k9 Z p e Rm s m args below meth c H1 locs1 cells slots mT sT la ⟨X.1, X.2.1, X.2.2.1, h1, h2, X.2.2.2.2.2⟩)
theorem wv_putL {j ci k idx : Nat} {x : Int64} (hf : wr_FL M.1.cls idx ci k) (hd : decode M.2.1 pc = .ok (.putfield idx, 3)) (hk : wr_kd (wr_ty ci k) = 1) (hfin : (wr_fT ci k).2.2.2 = false) (hn : narrow (wr_ty ci k) (.long x) = .long x) (hfit : fits (wr_ty ci k) (.long x) = true) (hs : sh[j]? = some (.inr ci)) (k9 : wr_V l d M (pc + 3) ls st sh I (wr_uL L j k x) R mc ms Q) : wr_V l d M pc ls (.long x :: .ref j :: st) sh I L R mc ms Q := by
  intro Z p e Rm s m args below meth c H locs cells slots mT sT la X
  exact wr_put (v := .long x) (I' := I) (L' := wr_uL L j k x) (R' := R) X hf hs hfin hn hfit (by rw [hk]; simp [wr_fv, wr_uL]) (wr_uL_ho I L R j k x).1 (wr_uL_ho I L R j k x).2 hd (fun H1 locs1 h1 h2 => k9 Z p e Rm s m args below meth c H1 locs1 cells slots mT sT la ⟨X.1, X.2.1, X.2.2.1, h1, h2, X.2.2.2.2.2⟩)
theorem wr_fitR {ty : FieldType} (hk : wr_kd ty = 2) (a : Nat) : narrow ty (.ref a) = .ref a ∧ fits ty (.ref a) = true := by
  cases ty <;> simp [wr_kd] at hk <;> exact ⟨rfl, rfl⟩
theorem wv_putR {j ci k idx r : Nat} (hf : wr_FL M.1.cls idx ci k) (hd : decode M.2.1 pc = .ok (.putfield idx, 3)) (hk : wr_kd (wr_ty ci k) = 2) (hfin : (wr_fT ci k).2.2.2 = false) (hs : sh[j]? = some (.inr ci)) (k9 : wr_V l d M (pc + 3) ls st sh I L (wr_uR R j k (r + 1)) mc ms Q) : wr_V l d M pc ls (.ref r :: .ref j :: st) sh I L R mc ms Q := by
  intro Z p e Rm s m args below meth c H locs cells slots mT sT la X
  exact wr_put (v := .ref (Z.2.2.2.1 r)) (I' := I) (L' := L) (R' := wr_uR R j k (r + 1)) X hf hs hfin (wr_fitR hk _).1 (wr_fitR hk _).2 (by rw [hk]; simp [wr_fv, wr_uR, wr_rf, va_rf]) (wr_uR_ho I L R j k (r + 1)).1 (wr_uR_ho I L R j k (r + 1)).2 hd (fun H1 locs1 h1 h2 => k9 Z p e Rm s m args below meth c H1 locs1 cells slots mT sT la ⟨X.1, X.2.1, X.2.2.1, h1, h2, X.2.2.2.2.2⟩)
theorem wv_putFR {j ci k idx r : Nat} (hci : ci < 9) (hk0 : k < wr_nf ci) (hl : Cond.fieldLink M.1.cls idx (wr_fT ci k).1 (wr_fT ci k).2.1 (wr_fT ci k).2.2.1 ∈ wr_TG) (hd : decode M.2.1 pc = .ok (.putfield idx, 3)) (hk : wr_kd (wr_ty ci k) = 2) (hfin : (wr_fT ci k).2.2.2 = true) (hin : M.1.name = "<init>") (hdecl : (wr_fT ci k).1 = M.1.cls) (hs : sh[j]? = some (.inr ci)) (k9 : wr_V l d M (pc + 3) ls st sh I L (wr_uR R j k (r + 1)) mc ms Q) : wr_V l d M pc ls (.ref r :: .ref j :: st) sh I L R mc ms Q := by
  intro Z p e Rm s m args below meth c H locs cells slots mT sT la X
  exact wr_putF (v := .ref (Z.2.2.2.1 r)) (I' := I) (L' := L) (R' := wr_uR R j k (r + 1)) X hci hk0 hl hs hfin hin hdecl (wr_fitR hk _).1 (wr_fitR hk _).2 (by rw [hk]; simp [wr_fv, wr_uR, wr_rf, va_rf]) (wr_uR_ho I L R j k (r + 1)).1 (wr_uR_ho I L R j k (r + 1)).2 hd (fun H1 locs1 h1 h2 => k9 Z p e Rm s m args below meth c H1 locs1 cells slots mT sT la ⟨X.1, X.2.1, X.2.2.1, h1, h2, X.2.2.2.2.2⟩)
/-- an array's type among the types -/
theorem wr_tyat (Z : wr_Z) {t : Nat} (h : t < 5) : (wr_tys Z)[t]? = some (Z.2.1 t, wr_at t) := by
  match t, h with
  | 0, _ => rfl
  | 1, _ => rfl
  | 2, _ => rfl
  | 3, _ => rfl
  | 4, _ => rfl
theorem wv_iald {j n : Nat} {i : Int32} (hd : decode M.2.1 pc = .ok (.iaload, 1)) (hs : sh[j]? = some (.inl (0, n))) (hi : vp_in i n) (k9 : wr_V l d M (pc + 1) ls (.int (I j i.toNatClampNeg) :: st) sh I L R mc ms Q) : wr_V l d M pc ls (.int i :: .ref j :: st) sh I L R mc ms Q := by
  intro Z p e Rm s m args below meth c H locs cells slots mT sT la X
  exact va_iald (D := Z.1) (ws := wr_wd Z sh I L R) X.1.1 X.1.2.1 X.2.1.1.2.2.1 X.2.2.2.1.2.2 j 0 (wr_wd_get hs) (wr_tyat Z (by decide)) hi hd (k9 Z p e Rm s m args below meth c H locs cells slots mT sT la X)
theorem wv_bald {j n : Nat} {i : Int32} (hd : decode M.2.1 pc = .ok (.baload, 1)) (hs : sh[j]? = some (.inl (1, n))) (hi : vp_in i n) (k9 : wr_V l d M (pc + 1) ls (.int (I j i.toNatClampNeg) :: st) sh I L R mc ms Q) : wr_V l d M pc ls (.int i :: .ref j :: st) sh I L R mc ms Q := by
  intro Z p e Rm s m args below meth c H locs cells slots mT sT la X
  exact va_bald (D := Z.1) (ws := wr_wd Z sh I L R) X.1.1 X.1.2.1 X.2.1.1.2.2.1 X.2.2.2.1.2.2 j 1 (wr_wd_get hs) (wr_tyat Z (by decide)) hi hd (k9 Z p e Rm s m args below meth c H locs cells slots mT sT la X)
theorem wv_zald {j n : Nat} {i : Int32} (hd : decode M.2.1 pc = .ok (.baload, 1)) (hs : sh[j]? = some (.inl (2, n))) (hi : vp_in i n) (k9 : wr_V l d M (pc + 1) ls (.int (I j i.toNatClampNeg) :: st) sh I L R mc ms Q) : wr_V l d M pc ls (.int i :: .ref j :: st) sh I L R mc ms Q := by
  intro Z p e Rm s m args below meth c H locs cells slots mT sT la X
  exact va_zald (D := Z.1) (ws := wr_wd Z sh I L R) X.1.1 X.1.2.1 X.2.1.1.2.2.1 X.2.2.2.1.2.2 j 2 (wr_wd_get hs) (wr_tyat Z (by decide)) hi hd (k9 Z p e Rm s m args below meth c H locs cells slots mT sT la X)
theorem wv_lald {j n : Nat} {i : Int32} (hd : decode M.2.1 pc = .ok (.laload, 1)) (hs : sh[j]? = some (.inl (3, n))) (hi : vp_in i n) (k9 : wr_V l d M (pc + 1) ls (.long (L j i.toNatClampNeg) :: st) sh I L R mc ms Q) : wr_V l d M pc ls (.int i :: .ref j :: st) sh I L R mc ms Q := by
  intro Z p e Rm s m args below meth c H locs cells slots mT sT la X
  exact va_lald (D := Z.1) (ws := wr_wd Z sh I L R) X.1.1 X.1.2.1 X.2.1.1.2.2.1 X.2.2.2.1.2.2 j 3 (wr_wd_get hs) (wr_tyat Z (by decide)) hi hd (k9 Z p e Rm s m args below meth c H locs cells slots mT sT la X)
theorem wv_aald {j n r : Nat} {i : Int32} (hd : decode M.2.1 pc = .ok (.aaload, 1)) (hs : sh[j]? = some (.inl (4, n))) (hi : vp_in i n) (hr : R j i.toNatClampNeg = r + 1) (k9 : wr_V l d M (pc + 1) ls (.ref r :: st) sh I L R mc ms Q) : wr_V l d M pc ls (.int i :: .ref j :: st) sh I L R mc ms Q := by
  intro Z p e Rm s m args below meth c H locs cells slots mT sT la X
  refine va_aldq (D := Z.1) (ws := wr_wd Z sh I L R) X.1.1 X.1.2.1 X.2.1.1.2.2.1 X.2.2.2.1.2.2 j 4 (wr_wd_get hs) (wr_tyat Z (by decide)) hi hd ?_
  have := (k9 Z p e Rm s m args below meth c H locs cells slots mT sT la X)
  show W _ _ _ _ _ _ _ _ _ _ _ _ _ _ _ (F0 m (pc + 1) la (va_rf (wr_rf Z (R j i.toNatClampNeg)) :: _))
  rw [hr]
  exact this
theorem wv_alen {j t n : Nat} (hd : decode M.2.1 pc = .ok (.arraylength, 1)) (ht : t < 5) (hs : sh[j]? = some (.inl (t, n))) (k9 : wr_V l d M (pc + 1) ls (.int (Int32.ofNat n) :: st) sh I L R mc ms Q) : wr_V l d M pc ls (.ref j :: st) sh I L R mc ms Q := by
  intro Z p e Rm s m args below meth c H locs cells slots mT sT la X
  exact va_alen (D := Z.1) (ws := wr_wd Z sh I L R) X.1.1 X.1.2.1 X.2.1.1.2.2.1 X.2.2.2.1.2.2 j t (wr_wd_get hs) (wr_tyat Z ht) rfl hd (k9 Z p e Rm s m args below meth c H locs cells slots mT sT la X)
theorem wv_iast {j n : Nat} {i : Int32} {x : Int32} (hd : decode M.2.1 pc = .ok (.iastore, 1)) (hs : sh[j]? = some (.inl (0, n))) (hi : vp_in i n) (k9 : wr_V l d M (pc + 1) ls st sh (wr_uI I j i.toNatClampNeg x) (L) R mc ms Q) : wr_V l d M pc ls (.int x :: .int i :: .ref j :: st) sh I L R mc ms Q := by
  intro Z p e Rm s m args below meth c H locs cells slots mT sT la X
  have hD := wr_wd_D (sh := sh) (I := I) (L := L) (R := R) X.2.1.1.2.2.2 X.2.2.2.1.2.1
  refine W.iast X.1.1 X.1.2.1 (X.2.2.2.1.2.2 j _ (wr_wd_get hs)) ((X.2.1.1.2.2.1.2 0 _ (wr_tyat Z (by decide))).1 n (fun q => .int (I j q))) (fun q => by cases q) (by show ¬ (i < 0 ∨ (arrV _ _ _).slots.size ≤ _); rw [arrV_size]; exact hi) rfl rfl hd fun H1 e1 z oq => ?_
  refine k9 Z p e Rm s m args below meth c H1 _ cells slots mT sT la ⟨X.1, X.2.1, X.2.2.1, ?_, X.2.2.2.2.1.put z oq (hD.2 j _ (wr_wd_get hs)), X.2.2.2.2.2⟩
  refine wr_H_ast X.2.1.1.2.2.2 X.2.2.2.1 hs ?_ z oq (wr_uI_ho I L R j _ _).2
  rw [e1]
  show some (Cell.setSlot (vp_cell _ (n, .inl (I j))) _ _) = some (vp_cell _ (n, .inl (wr_uI I j i.toNatClampNeg x j)))
  rw [vp_cell_i, vp_cell_i, arrV_store]
  congr 2
  funext q
  by_cases hq : q = i.toNatClampNeg
  · subst hq
    simp [updV, wr_uI]
    try rfl
  · simp [updV, wr_uI, hq]
theorem wv_bast {j n : Nat} {i : Int32} {x : Int32} (hd : decode M.2.1 pc = .ok (.bastore, 1)) (hs : sh[j]? = some (.inl (1, n))) (hi : vp_in i n) (k9 : wr_V l d M (pc + 1) ls st sh (wr_uI I j i.toNatClampNeg (vp_nar .byte x)) (L) R mc ms Q) : wr_V l d M pc ls (.int x :: .int i :: .ref j :: st) sh I L R mc ms Q := by
  intro Z p e Rm s m args below meth c H locs cells slots mT sT la X
  have hD := wr_wd_D (sh := sh) (I := I) (L := L) (R := R) X.2.1.1.2.2.2 X.2.2.2.1.2.1
  refine W.bast X.1.1 X.1.2.1 (X.2.2.2.1.2.2 j _ (wr_wd_get hs)) ((X.2.1.1.2.2.1.2 1 _ (wr_tyat Z (by decide))).1 n (fun q => .int (I j q))) (fun q => by cases q) (by show ¬ (i < 0 ∨ (arrV _ _ _).slots.size ≤ _); rw [arrV_size]; exact hi) rfl rfl hd fun H1 e1 z oq => ?_
  refine k9 Z p e Rm s m args below meth c H1 _ cells slots mT sT la ⟨X.1, X.2.1, X.2.2.1, ?_, X.2.2.2.2.1.put z oq (hD.2 j _ (wr_wd_get hs)), X.2.2.2.2.2⟩
  refine wr_H_ast X.2.1.1.2.2.2 X.2.2.2.1 hs ?_ z oq (wr_uI_ho I L R j _ _).2
  rw [e1]
  show some (Cell.setSlot (vp_cell _ (n, .inl (I j))) _ _) = some (vp_cell _ (n, .inl (wr_uI I j i.toNatClampNeg (vp_nar .byte x) j)))
  rw [vp_cell_i, vp_cell_i, arrV_store]
  congr 2
  funext q
  by_cases hq : q = i.toNatClampNeg
  · subst hq
    simp [updV, wr_uI, vp_nar]
    try rfl
  · simp [updV, wr_uI, vp_nar, hq]
theorem wv_zast {j n : Nat} {i : Int32} {x : Int32} (hd : decode M.2.1 pc = .ok (.bastore, 1)) (hs : sh[j]? = some (.inl (2, n))) (hi : vp_in i n) (k9 : wr_V l d M (pc + 1) ls st sh (wr_uI I j i.toNatClampNeg (vp_nar .boolean x)) (L) R mc ms Q) : wr_V l d M pc ls (.int x :: .int i :: .ref j :: st) sh I L R mc ms Q := by
  intro Z p e Rm s m args below meth c H locs cells slots mT sT la X
  have hD := wr_wd_D (sh := sh) (I := I) (L := L) (R := R) X.2.1.1.2.2.2 X.2.2.2.1.2.1
  refine W.zast X.1.1 X.1.2.1 (X.2.2.2.1.2.2 j _ (wr_wd_get hs)) ((X.2.1.1.2.2.1.2 2 _ (wr_tyat Z (by decide))).1 n (fun q => .int (I j q))) (fun q => by cases q) (by show ¬ (i < 0 ∨ (arrV _ _ _).slots.size ≤ _); rw [arrV_size]; exact hi) rfl rfl hd fun H1 e1 z oq => ?_
  refine k9 Z p e Rm s m args below meth c H1 _ cells slots mT sT la ⟨X.1, X.2.1, X.2.2.1, ?_, X.2.2.2.2.1.put z oq (hD.2 j _ (wr_wd_get hs)), X.2.2.2.2.2⟩
  refine wr_H_ast X.2.1.1.2.2.2 X.2.2.2.1 hs ?_ z oq (wr_uI_ho I L R j _ _).2
  rw [e1]
  show some (Cell.setSlot (vp_cell _ (n, .inl (I j))) _ _) = some (vp_cell _ (n, .inl (wr_uI I j i.toNatClampNeg (vp_nar .boolean x) j)))
  rw [vp_cell_i, vp_cell_i, arrV_store]
  congr 2
  funext q
  by_cases hq : q = i.toNatClampNeg
  · subst hq
    simp [updV, wr_uI, vp_nar]
    try rfl
  · simp [updV, wr_uI, vp_nar, hq]
theorem wv_last {j n : Nat} {i : Int32} {x : Int64} (hd : decode M.2.1 pc = .ok (.lastore, 1)) (hs : sh[j]? = some (.inl (3, n))) (hi : vp_in i n) (k9 : wr_V l d M (pc + 1) ls st sh (I) (wr_uL L j i.toNatClampNeg x) R mc ms Q) : wr_V l d M pc ls (.long x :: .int i :: .ref j :: st) sh I L R mc ms Q := by
  intro Z p e Rm s m args below meth c H locs cells slots mT sT la X
  have hD := wr_wd_D (sh := sh) (I := I) (L := L) (R := R) X.2.1.1.2.2.2 X.2.2.2.1.2.1
  refine W.last X.1.1 X.1.2.1 (X.2.2.2.1.2.2 j _ (wr_wd_get hs)) ((X.2.1.1.2.2.1.2 3 _ (wr_tyat Z (by decide))).1 n (fun q => .long (L j q))) (fun q => by cases q) (by show ¬ (i < 0 ∨ (arrV _ _ _).slots.size ≤ _); rw [arrV_size]; exact hi) rfl rfl hd fun H1 e1 z oq => ?_
  refine k9 Z p e Rm s m args below meth c H1 _ cells slots mT sT la ⟨X.1, X.2.1, X.2.2.1, ?_, X.2.2.2.2.1.put z oq (hD.2 j _ (wr_wd_get hs)), X.2.2.2.2.2⟩
  refine wr_H_ast X.2.1.1.2.2.2 X.2.2.2.1 hs ?_ z oq (wr_uL_ho I L R j _ _).2
  rw [e1]
  show some (Cell.setSlot (vp_cell _ (n, .inr (.inl (L j)))) _ _) = some (vp_cell _ (n, .inr (.inl (wr_uL L j i.toNatClampNeg x j))))
  rw [vp_cell_l, vp_cell_l, arrV_store]
  congr 2
  funext q
  by_cases hq : q = i.toNatClampNeg
  · subst hq
    simp [updV, wr_uL]
    try rfl
  · simp [updV, wr_uL, hq]
end WrMemV
end
section
/-! calls and what is made -/
def wr_Pc (Z : wr_Z) (as : List Value) (sh : List wr_S) (I : wr_TI) (L : wr_TL) (R : wr_TR) : Array Value → State → Prop := fun v U => v = (as.map (wr_cv Z)).toArray ∧ wr_Tab Z U ∧ wr_H Z sh I L R U.heap
def wr_ent : List Value → List (Option Value)
  | [] => []
  | .long x :: t => some (.long x) :: none :: wr_ent t
  | .double x :: t => some (.double x) :: none :: wr_ent t
  | v :: t => some v :: wr_ent t
theorem wr_ent_en (Z : wr_Z) : ∀ (as : List Value) (b : Nat), wr_en Z (wr_ent as) b = lv_args b (as.map (wr_cv Z)) := by
  intro as
  induction as with
  | nil => intro b; rfl
  | cons v t ih =>
    intro b
    cases v <;> simp [wr_ent, wr_en, lv_args, ih, wr_cv, Value.category]
theorem wr_ent_len (Z : wr_Z) : ∀ (as : List Value), (lg_sl (as.map (wr_cv Z))).length = (wr_ent as).length := by
  intro as
  induction as with
  | nil => rfl
  | cons v t ih =>
    simp only [lg_sl, List.map_cons, List.flatMap_cons, List.length_append] at ih ⊢
    rw [ih]
    cases v <;> simp [wr_ent, wr_cv, Value.category] <;> omega
theorem wr_good {w : Cond} (h : w ∈ wr_TG) : (w.onTables && w.keeps) = true ∨ ∃ ty, w = .arrayClass ty := good_of_word (List.mem_filter.mp h).2
theorem wr_nestN {w : Cond} (h : w ∈ wr_TN) : wr_nest w = true := (List.mem_filter.mp h).2
theorem wr_Tab.warm {Z : wr_Z} {s U : State} (hW : s.WarmedH U.vm) (h : wr_Tab Z s) : wr_Tab Z U := by
  obtain ⟨⟨h1, h2, h3, h4⟩, h5⟩ := h
  refine ⟨⟨fun w hw a => word_at hW (wr_good hw) (h1 w hw a), fun w hw => ?_, va_K.moved hW.alike h3, h4⟩, va_AO.moved hW.alike h5⟩
  have hn := wr_nestN hw
  have hz := h2 w hw
  cases w <;> first | (simp [wr_nest] at hn; done) | exact va_Nw.warmF hW hz | exact va_Nw.warmM hW hz
theorem wr_Tab.calling {Z : wr_Z} {U : State} {g : JFrame} {mk : MethodId} {a : Array Value} (h : wr_Tab Z U) : wr_Tab Z (U.calling g mk a) := by
  obtain ⟨⟨h1, h2, h3, h4⟩, h5⟩ := h
  refine ⟨⟨fun w hw a' => ?_, fun w hw => ?_, va_K.moved (u := U) (U := U.calling g mk a) (Vm.Alike.refl U.vm) h3, h4⟩, va_AO.moved (u := U) (U := U.calling g mk a) (Vm.Alike.refl U.vm) h5⟩
  · rcases wr_good hw with hg | ⟨ty, rfl⟩
    · exact va_tabs (by simp at hg; exact hg.1) (u := U) (U := U.calling g mk a) rfl (h1 w hw a')
    · exact h1 _ hw a'
  · exact va_Nw.same (by have := wr_nestN hw; cases w <;> first | rfl | simp [wr_nest] at this) (u := U) (U := U.calling g mk a) rfl (h2 w hw)
theorem wr_blind {Z : wr_Z} {as : List Value} {sh : List wr_S} {I : wr_TI} {L : wr_TL} {R : wr_TR} : FrameBlind (wr_Pc Z as sh I L R) := fun a U g mk h => ⟨h.1, h.2.1.calling, h.2.2⟩
theorem wr_met {l : Launch} {d : Nat} {M : wr_M} {as : List Value} {sh : List wr_S} {I : wr_TI} {L : wr_TL} {R : wr_TR} {mc ms : Nat} {Q : wr_TQ} (Z : wr_Z) (hM : plainName M.1.cls = true) (hlen : (wr_ent as).length ≤ M.2.2.1) (h : wr_V l d M 0 (wr_ent as) [] sh I L R mc ms Q) :
    Met l M.1 [.code M.1 M.2.1 M.2.2.1 M.2.2.2] { frames := d, cells := mc, slots := ms, locals := 64 * d } (wr_Pc Z as sh I L R) (wr_Qc Z Q) mc ms (wr_A Z) := by
  refine Met.ofW (cc := M.2.1) (maxL := M.2.2.1) (ret := M.2.2.2) hM rfl ?_
  intro p e s m args below meth c s₁ B hml hv
  obtain ⟨rfl, hT, hH⟩ := hv
  have hl := lv_entry (as.map (wr_cv Z)) (n := M.2.2.1) (by rw [wr_ent_len]; exact hlen)
  rw [lg_entry_eq]
  rw [← wr_ent_en] at hl
  exact h Z p e _ s m _ below meth c s.heap [] 0 0 mc ms _ ⟨⟨B.exec, B.bytes, B.returns, hml, findClass_of_methodNamed B.named, B.notSynchronized, (name_of_methodNamed B.named B.method).1, Nat.le_refl _, Nat.le_refl _⟩, hT, by rw [hH.1]; omega, hH, va_S.rf, hl, by omega, by omega, Nat.le_refl _, Nat.le_refl _⟩
/-- what the tables say of a method -/
def wr_Mok (M : wr_M) (n : Nat) : Prop := Cond.code M.1 M.2.1 M.2.2.1 M.2.2.2 ∈ wr_TG ∧ Cond.initialized M.1.cls ∈ wr_TG ∧ (M.1.cls ≠ "java/lang/invoke/MethodHandle" ∧ M.1.cls ≠ "java/lang/invoke/VarHandle") ∧ (parseMethodDescriptor M.1.desc).map (fun d => d.parameters.length) = some n ∧ plainName M.1.cls = true ∧ M.2.2.1 ≤ 45
def wr_MV (M : wr_M) (n : Nat) : Prop := wr_Mok M n ∧ Cond.instanceMethod M.1 ∈ wr_TG ∧ Cond.selects M.1.cls M.1 M.1 ∈ wr_TG
def wr_MS (M : wr_M) (n : Nat) : Prop := wr_Mok M n ∧ Cond.static M.1 ∈ wr_TG
def wr_MI (M : wr_M) (n : Nat) : Prop := wr_Mok M n ∧ Cond.instanceMethod M.1 ∈ wr_TG ∧ M.1.name = "<init>"
def wr_lk (own : String) (idx : Nat) (M : wr_M) : Prop := Cond.methodLink own idx M.1 ∈ wr_TG ∨ ∃ host, Cond.methodLinkNest own idx M.1 host ∈ wr_TN
section WrCall
variable {l : Launch} {d d' : Nat} {M M' : wr_M} {pc : Nat} {ls : List (Option Value)} {st st0 : List Value} {sh : List wr_S} {I : wr_TI} {L : wr_TL} {R : wr_TR} {mc ms mc' ms' : Nat} {Q Q' : wr_TQ} {as : List Value} {idx n : Nat}
theorem wr_catsum (Z : wr_Z) (st : List Value) : ((st.map (wr_cv Z)).map fun v => v.category).sum = (st.map fun v => v.category).sum := by
  rw [List.map_map]
  congr 1
  apply List.map_congr_left
  intro v _
  exact wr_cv_cat Z v
theorem wr_goes {Z : wr_Z} {p : Program} {e : Env} {Rm : Room} {s : State} {m : MethodId} {args : Array Value} {below : List Frame} {meth : Method} {c : Code} {H : Heap} {locs : List Loc} {cells slots mT sT : Nat} {la : Array Slot} {a : Array Value} (hm : mc' ≤ mc) (hs : ms' ≤ ms) (X : wr_X Z M d ls sh I L R mc ms p Rm s m meth c H locs cells slots mT sT la)
    (hr : va_Run p l e Rm s m args below meth c H locs cells slots mc' ms' (F0 m pc la st0) (st.map (wr_cv Z)) (wr_Qc Z Q' a) (wr_A Z))
    (kk : ∀ v sh' I' L' R', Q' v sh' I' L' R' → wr_V l d M (pc + 3) ls (v.toList ++ st) sh' I' L' R' (mc - mc') (ms - ms') Q) : W p l e Rm s m args below meth c H locs cells slots (MQ below (wr_Qc Z Q) args s mT sT (wr_A Z)) (F0 m pc la st0) := by
  intro T hT S
  obtain ⟨v, st₀, t, T', L0, h0, X', hL, e1, e2, ⟨⟨v', sh', I', L', R', hv, hq, hH⟩, hz, hk⟩, stp⟩ := hr T hT S
  rw [h0] at hz hk
  have hS := X.2.2.2.2.1
  have hv2 : v = v'.map (wr_cv Z) := by cases hv; rfl
  have b1 := X.2.2.2.2.2.2.1
  have b2 := X.2.2.2.2.2.2.2.1
  obtain ⟨t2, a1, c1⟩ := kk v' sh' I' L' R' hq Z p e Rm s m args below meth c T'.heap (locs ++ L0) (cells + mc') (slots + ms') mT sT la
    ⟨X.1, X.2.1, X.2.2.1, by rw [e1]; exact hH, ⟨Nat.le_trans hS.1 (by rw [e1]; exact hz), fun q h1 h2 => by rw [e1, hk q (Nat.lt_of_lt_of_le h1 hS.1) h2]; exact hS.2.1 q h1 h2, fun q hq => by
      rcases List.mem_append.mp hq with h | h
      · exact hS.2.2 q h
      · exact hL q h⟩, X.2.2.2.2.2.1, by omega, by omega, X.2.2.2.2.2.2.2.2.1, X.2.2.2.2.2.2.2.2.2⟩ T' rfl X'
  refine ⟨t2, stp t2 ?_, c1⟩
  have es : (v'.toList ++ st).map (wr_cv Z) = v.toList ++ st.map (wr_cv Z) := by
    rw [hv2]
    cases v' <;> simp
  rw [es] at a1
  exact a1
theorem wv_callV {j ci : Nat} (hw : wr_MV M' n) (hl : wr_lk M.1.cls idx M') (hd : decode M.2.1 pc = .ok (.invokevirtual idx, 3)) (hdd : d' + 1 ≤ d) (hm : mc' ≤ mc) (hs : ms' ≤ ms) (hn : as.length = n) (hsh : sh[j]? = some (.inr ci)) (hC : wr_fC ci = M'.1.cls ∧ ci < 9) (hlen : (wr_ent (.ref j :: as)).length ≤ M'.2.2.1) (hst : st0 = as.reverse ++ .ref j :: st) (hcat : (st.map fun v => v.category).sum ≤ 8)
    (hV : wr_V l d' M' 0 (wr_ent (.ref j :: as)) [] sh I L R mc' ms' Q') (kk : ∀ v sh' I' L' R', Q' v sh' I' L' R' → wr_V l d M (pc + 3) ls (v.toList ++ st) sh' I' L' R' (mc - mc') (ms - ms') Q) : wr_V l d M pc ls st0 sh I L R mc ms Q := by
  intro Z p e Rm s m args below meth c H locs cells slots mT sT la X
  obtain ⟨⟨w1, w2, w3, w4, w5, w6⟩, w7, w8⟩ := hw
  have hts := X.2.1.1.1
  have hml := X.1.2.2.2.1
  have b1 := X.2.2.2.2.2.2.1
  have b2 := X.2.2.2.2.2.2.2.1
  have b3 := X.2.2.2.2.2.2.2.2.1
  have b4 := X.2.2.2.2.2.2.2.2.2
  have r1 := X.1.2.2.2.2.2.2.2.1
  have r2 := X.1.2.2.2.2.2.2.2.2
  have hM := wr_met Z w5 hlen hV
  have hrecv : ∃ cellB : Cell, H[Z.2.2.2.1 j]? = some cellB ∧ cellB.vm.isStatics = false ∧ s.vm.findClass M'.1.cls = some cellB.cls := by
    rw [← hC.1]
    exact va_recv X.2.1.1.2.2.1 X.2.2.2.1.2.2 (wr_ck hC.2).1 (wr_wd_get hsh)
  have hPre : PreV s H M'.1.cls (Z.2.2.2.1 j) (wr_Pc Z (.ref j :: as) sh I L R) (as.map (wr_cv Z)) := ⟨wr_blind, hrecv, fun U hU hW => ⟨rfl, X.2.1.warm hW, by rw [hU]; exact X.2.2.2.1⟩⟩
  have hstk : (F0 m pc la (st0.map (wr_cv Z))).stack = (as.map (wr_cv Z)).reverse ++ .ref (Z.2.2.2.1 j) :: st.map (wr_cv Z) := by
    show st0.map (wr_cv Z) = _
    rw [hst]
    simp [wr_cv]
  have hws : ∀ w ∈ ([.code M'.1 M'.2.1 M'.2.2.1 M'.2.2.2] : List Cond), ∀ (a' : Array Value) (U : State), s.WarmedH U.vm → w.before a' U = true := by
    intro w hw a' U hW
    rw [List.mem_singleton.mp hw]
    exact word_at hW (wr_good w1) (hts _ w1 args)
  have hsig : ∀ sig, parseMethodDescriptor M'.1.desc = some sig → n = sig.parameters.length := by
    intro sig h
    rw [h] at w4
    exact (Option.some.inj w4).symm
  rcases hl with hl | ⟨host, hl⟩
  · refine wr_goes hm hs X (va_runV (Ts := []) (own := M.1.cls) (C := M'.1.cls) (index := idx) (bytes := M'.2.1) (maxL := M'.2.2.1) (ret := M'.2.2.2) (n := n) (b := Z.2.2.2.1 j) (As := as.map (wr_cv Z)) (rest := st.map (wr_cv Z)) ⟨X.1.1, X.1.2.1, hml, X.1.2.2.2.2.1, fun _ h => (List.not_mem_nil h).elim⟩ hM ⟨⟨rfl, rfl, by show d' + 1 ≤ _; omega, by show 8 + (M'.2.2.1 + 11) + 64 * d' ≤ _; omega, hws, List.mem_singleton.mpr rfl, hts _ w1 args, hts _ w2 args, w3, hsig, hts _ hl args⟩, hts _ w7 args, hts _ w8 args⟩ hPre rfl (by rw [List.length_map]; exact hn) X.2.2.2.2.2.1.1 hstk (lv_room (by rw [wr_catsum]; exact hcat)) hd ⟨by omega, by omega⟩) kk
  · refine wr_goes hm hs X (va_runVN (Ts := []) (own := M.1.cls) (C := M'.1.cls) (host := host) (index := idx) (bytes := M'.2.1) (maxL := M'.2.2.1) (ret := M'.2.2.2) (n := n) (b := Z.2.2.2.1 j) (As := as.map (wr_cv Z)) (rest := st.map (wr_cv Z)) ⟨X.1.1, X.1.2.1, hml, X.1.2.2.2.2.1, fun _ h => (List.not_mem_nil h).elim⟩ hM ⟨⟨⟨rfl, rfl, by show d' + 1 ≤ _; omega, by show 8 + (M'.2.2.1 + 11) + 64 * d' ≤ _; omega, hws, List.mem_singleton.mpr rfl⟩, hts _ w1 args, hts _ w2 args, w3, hsig, va_Nw.use rfl (X.2.1.1.2.1 _ hl)⟩, hts _ w7 args, hts _ w8 args⟩ hPre rfl (by rw [List.length_map]; exact hn) X.2.2.2.2.2.1.1 hstk (lv_room (by rw [wr_catsum]; exact hcat)) hd ⟨by omega, by omega⟩) kk
theorem wv_callS (hw : wr_MS M' n) (hl : wr_lk M.1.cls idx M') (hd : decode M.2.1 pc = .ok (.invokestatic idx, 3)) (hdd : d' + 1 ≤ d) (hm : mc' ≤ mc) (hs : ms' ≤ ms) (hn : as.length = n) (hlen : (wr_ent as).length ≤ M'.2.2.1) (hst : st0 = as.reverse ++ st) (hcat : (st.map fun v => v.category).sum ≤ 8)
    (hV : wr_V l d' M' 0 (wr_ent as) [] sh I L R mc' ms' Q') (kk : ∀ v sh' I' L' R', Q' v sh' I' L' R' → wr_V l d M (pc + 3) ls (v.toList ++ st) sh' I' L' R' (mc - mc') (ms - ms') Q) : wr_V l d M pc ls st0 sh I L R mc ms Q := by
  intro Z p e Rm s m args below meth c H locs cells slots mT sT la X
  obtain ⟨⟨w1, w2, w3, w4, w5, w6⟩, w7⟩ := hw
  have hts := X.2.1.1.1
  have hml := X.1.2.2.2.1
  have b1 := X.2.2.2.2.2.2.1
  have b2 := X.2.2.2.2.2.2.2.1
  have b3 := X.2.2.2.2.2.2.2.2.1
  have b4 := X.2.2.2.2.2.2.2.2.2
  have r1 := X.1.2.2.2.2.2.2.2.1
  have r2 := X.1.2.2.2.2.2.2.2.2
  have hM := wr_met Z w5 hlen hV
  have hPre : PreS s H (wr_Pc Z as sh I L R) (as.map (wr_cv Z)) := ⟨wr_blind, fun U hU hW => ⟨rfl, X.2.1.warm hW, by rw [hU]; exact X.2.2.2.1⟩⟩
  have hstk : (F0 m pc la (st0.map (wr_cv Z))).stack = (as.map (wr_cv Z)).reverse ++ st.map (wr_cv Z) := by
    show st0.map (wr_cv Z) = _
    rw [hst]
    simp
  have hws : ∀ w ∈ ([.code M'.1 M'.2.1 M'.2.2.1 M'.2.2.2] : List Cond), ∀ (a' : Array Value) (U : State), s.WarmedH U.vm → w.before a' U = true := by
    intro w hw a' U hW
    rw [List.mem_singleton.mp hw]
    exact word_at hW (wr_good w1) (hts _ w1 args)
  have hsig : ∀ sig, parseMethodDescriptor M'.1.desc = some sig → n = sig.parameters.length := by
    intro sig h
    rw [h] at w4
    exact (Option.some.inj w4).symm
  rcases hl with hl | ⟨host, hl⟩
  · refine wr_goes hm hs X (va_runS (Ts := []) (own := M.1.cls) (index := idx) (bytes := M'.2.1) (maxL := M'.2.2.1) (ret := M'.2.2.2) (n := n) (As := as.map (wr_cv Z)) (rest := st.map (wr_cv Z)) ⟨X.1.1, X.1.2.1, hml, X.1.2.2.2.2.1, fun _ h => (List.not_mem_nil h).elim⟩ hM ⟨⟨rfl, rfl, by show d' + 1 ≤ _; omega, by show 8 + (M'.2.2.1 + 11) + 64 * d' ≤ _; omega, hws, List.mem_singleton.mpr rfl, hts _ w1 args, hts _ w2 args, w3, hsig, hts _ hl args⟩, hts _ w7 args⟩ hPre rfl (by rw [List.length_map]; exact hn) X.2.2.2.2.2.1.1 hstk (lv_room (by rw [wr_catsum]; exact hcat)) hd ⟨by omega, by omega⟩) kk
  · refine wr_goes hm hs X (va_runSN (Ts := []) (own := M.1.cls) (host := host) (index := idx) (bytes := M'.2.1) (maxL := M'.2.2.1) (ret := M'.2.2.2) (n := n) (As := as.map (wr_cv Z)) (rest := st.map (wr_cv Z)) ⟨X.1.1, X.1.2.1, hml, X.1.2.2.2.2.1, fun _ h => (List.not_mem_nil h).elim⟩ hM ⟨⟨⟨rfl, rfl, by show d' + 1 ≤ _; omega, by show 8 + (M'.2.2.1 + 11) + 64 * d' ≤ _; omega, hws, List.mem_singleton.mpr rfl⟩, hts _ w1 args, hts _ w2 args, w3, hsig, va_Nw.use rfl (X.2.1.1.2.1 _ hl)⟩, hts _ w7 args, trivial⟩ hPre rfl (by rw [List.length_map]; exact hn) X.2.2.2.2.2.1.1 hstk (lv_room (by rw [wr_catsum]; exact hcat)) hd ⟨by omega, by omega⟩) kk
theorem wv_callI {j : Nat} (hw : wr_MI M' n) (hr : M'.2.2.2 = none) (hl : wr_lk M.1.cls idx M') (hd : decode M.2.1 pc = .ok (.invokespecial idx, 3)) (hdd : d' + 1 ≤ d) (hm : mc' ≤ mc) (hs : ms' ≤ ms) (hn : as.length = n) (hlen : (wr_ent (.ref j :: as)).length ≤ M'.2.2.1) (hst : st0 = as.reverse ++ .ref j :: st) (hcat : (st.map fun v => v.category).sum ≤ 8)
    (hV : wr_V l d' M' 0 (wr_ent (.ref j :: as)) [] sh I L R mc' ms' Q') (kk : ∀ v sh' I' L' R', Q' v sh' I' L' R' → wr_V l d M (pc + 3) ls (v.toList ++ st) sh' I' L' R' (mc - mc') (ms - ms') Q) : wr_V l d M pc ls st0 sh I L R mc ms Q := by
  intro Z p e Rm s m args below meth c H locs cells slots mT sT la X
  obtain ⟨⟨w1, w2, w3, w4, w5, w6⟩, w7, w8⟩ := hw
  have hts := X.2.1.1.1
  have hml := X.1.2.2.2.1
  have b1 := X.2.2.2.2.2.2.1
  have b2 := X.2.2.2.2.2.2.2.1
  have b3 := X.2.2.2.2.2.2.2.2.1
  have b4 := X.2.2.2.2.2.2.2.2.2
  have r1 := X.1.2.2.2.2.2.2.2.1
  have r2 := X.1.2.2.2.2.2.2.2.2
  have hM := wr_met Z w5 hlen hV
  rw [hr] at hM w1
  have hPre : PreS s H (wr_Pc Z (.ref j :: as) sh I L R) (.ref (Z.2.2.2.1 j) :: as.map (wr_cv Z)) := ⟨wr_blind, fun U hU hW => ⟨rfl, X.2.1.warm hW, by rw [hU]; exact X.2.2.2.1⟩⟩
  have hstk : (F0 m pc la (st0.map (wr_cv Z))).stack = (as.map (wr_cv Z)).reverse ++ .ref (Z.2.2.2.1 j) :: st.map (wr_cv Z) := by
    show st0.map (wr_cv Z) = _
    rw [hst]
    simp [wr_cv]
  have hws : ∀ w ∈ ([.code M'.1 M'.2.1 M'.2.2.1 none] : List Cond), ∀ (a' : Array Value) (U : State), s.WarmedH U.vm → w.before a' U = true := by
    intro w hw a' U hW
    rw [List.mem_singleton.mp hw]
    exact word_at hW (wr_good w1) (hts _ w1 args)
  have hsig : ∀ sig, parseMethodDescriptor M'.1.desc = some sig → n = sig.parameters.length := by
    intro sig h
    rw [h] at w4
    exact (Option.some.inj w4).symm
  rcases hl with hl | ⟨host, hl⟩
  · refine wr_goes hm hs X (va_runI (Ts := []) (own := M.1.cls) (index := idx) (bytes := M'.2.1) (maxL := M'.2.2.1) (n := n) (b := Z.2.2.2.1 j) (As := as.map (wr_cv Z)) (rest := st.map (wr_cv Z)) ⟨X.1.1, X.1.2.1, hml, X.1.2.2.2.2.1, fun _ h => (List.not_mem_nil h).elim⟩ hM ⟨⟨rfl, rfl, by show d' + 1 ≤ _; omega, by show 8 + (M'.2.2.1 + 11) + 64 * d' ≤ _; omega, hws, List.mem_singleton.mpr rfl, hts _ w1 args, hts _ w2 args, w3, hsig, hts _ hl args⟩, w8, hts _ w7 args⟩ hPre rfl (by rw [List.length_map]; exact hn) X.2.2.2.2.2.1.1 hstk (lv_room (by rw [wr_catsum]; exact hcat)) hd ⟨by omega, by omega⟩) kk
  · refine wr_goes hm hs X (va_runIN (Ts := []) (own := M.1.cls) (host := host) (index := idx) (bytes := M'.2.1) (maxL := M'.2.2.1) (n := n) (b := Z.2.2.2.1 j) (As := as.map (wr_cv Z)) (rest := st.map (wr_cv Z)) ⟨X.1.1, X.1.2.1, hml, X.1.2.2.2.2.1, fun _ h => (List.not_mem_nil h).elim⟩ hM ⟨⟨⟨rfl, rfl, by show d' + 1 ≤ _; omega, by show 8 + (M'.2.2.1 + 11) + 64 * d' ≤ _; omega, hws, List.mem_singleton.mpr rfl⟩, hts _ w1 args, hts _ w2 args, w3, hsig, va_Nw.use rfl (X.2.1.1.2.1 _ hl)⟩, w8, hts _ w7 args⟩ hPre rfl (by rw [List.length_map]; exact hn) X.2.2.2.2.2.1.1 hstk (lv_room (by rw [wr_catsum]; exact hcat)) hd ⟨by omega, by omega⟩) kk
end WrCall
end
