-- ===== PART A: goes FIRST, ahead of the names: the tables' words, and 'selects' of the private methods out of them =====
/-- a private method of a class that the tables say can be made, by its rows of tables_1 -/
def lw_okq (q : MethodName × Nat) : Prop := (q.1.cls ≠ "java/lang/invoke/MethodHandle" ∧ q.1.cls ≠ "java/lang/invoke/VarHandle") ∧ Cond.instantiable q.1.cls q.2 ∈ tables_1 ∧ Cond.privateMethod q.1 ∈ tables_1 ∧ Cond.instanceMethod q.1 ∈ tables_1
theorem lw_p0 : lw_okq (⟨"AimTunnel$Tape", "readToken", "()V"⟩, 7) := ⟨⟨by decide +kernel, by decide +kernel⟩, List.mem_of_getElem? (i := 98) (by decide +kernel), List.mem_of_getElem? (i := 220) (by decide +kernel), List.mem_of_getElem? (i := 221) (by decide +kernel)⟩
theorem lw_p1 : lw_okq (⟨"AimTunnel$Tape", "sortAt", "(I)I"⟩, 7) := ⟨⟨by decide +kernel, by decide +kernel⟩, List.mem_of_getElem? (i := 98) (by decide +kernel), List.mem_of_getElem? (i := 224) (by decide +kernel), List.mem_of_getElem? (i := 225) (by decide +kernel)⟩
theorem lw_p2 : lw_okq (⟨"AimTunnel$Tape", "lineNamed", "()I"⟩, 7) := ⟨⟨by decide +kernel, by decide +kernel⟩, List.mem_of_getElem? (i := 98) (by decide +kernel), List.mem_of_getElem? (i := 232) (by decide +kernel), List.mem_of_getElem? (i := 233) (by decide +kernel)⟩
theorem lw_p3 : lw_okq (⟨"AimTunnel$Tape", "isSpelled", "(Ljava/lang/String;)Z"⟩, 7) := ⟨⟨by decide +kernel, by decide +kernel⟩, List.mem_of_getElem? (i := 98) (by decide +kernel), List.mem_of_getElem? (i := 246) (by decide +kernel), List.mem_of_getElem? (i := 247) (by decide +kernel)⟩
theorem lw_p4 : lw_okq (⟨"AimTunnel$Tape", "takeDigger", "(LAimTunnel$Ground;I)V"⟩, 7) := ⟨⟨by decide +kernel, by decide +kernel⟩, List.mem_of_getElem? (i := 98) (by decide +kernel), List.mem_of_getElem? (i := 307) (by decide +kernel), List.mem_of_getElem? (i := 308) (by decide +kernel)⟩
theorem lw_p5 : lw_okq (⟨"AimTunnel$Tape", "takeCell", "()I"⟩, 7) := ⟨⟨by decide +kernel, by decide +kernel⟩, List.mem_of_getElem? (i := 98) (by decide +kernel), List.mem_of_getElem? (i := 311) (by decide +kernel), List.mem_of_getElem? (i := 312) (by decide +kernel)⟩
theorem lw_p6 : lw_okq (⟨"AimTunnel$Tape", "takeToken", "(I)Z"⟩, 7) := ⟨⟨by decide +kernel, by decide +kernel⟩, List.mem_of_getElem? (i := 98) (by decide +kernel), List.mem_of_getElem? (i := 315) (by decide +kernel), List.mem_of_getElem? (i := 316) (by decide +kernel)⟩
theorem lw_p7 : lw_okq (⟨"AimTunnel$Tape", "valueRead", "()I"⟩, 7) := ⟨⟨by decide +kernel, by decide +kernel⟩, List.mem_of_getElem? (i := 98) (by decide +kernel), List.mem_of_getElem? (i := 319) (by decide +kernel), List.mem_of_getElem? (i := 320) (by decide +kernel)⟩
theorem lw_p8 : lw_okq (⟨"AimTunnel$Tape", "takeRock", "(LAimTunnel$Ground;)V"⟩, 7) := ⟨⟨by decide +kernel, by decide +kernel⟩, List.mem_of_getElem? (i := 98) (by decide +kernel), List.mem_of_getElem? (i := 330) (by decide +kernel), List.mem_of_getElem? (i := 331) (by decide +kernel)⟩
theorem lw_p9 : lw_okq (⟨"AimTunnel$Tape", "takeFaith", "(LAimTunnel$Ground;)V"⟩, 7) := ⟨⟨by decide +kernel, by decide +kernel⟩, List.mem_of_getElem? (i := 98) (by decide +kernel), List.mem_of_getElem? (i := 343) (by decide +kernel), List.mem_of_getElem? (i := 344) (by decide +kernel)⟩
theorem lw_p10 : lw_okq (⟨"AimTunnel$Tape", "takeNumber", "(I)I"⟩, 7) := ⟨⟨by decide +kernel, by decide +kernel⟩, List.mem_of_getElem? (i := 98) (by decide +kernel), List.mem_of_getElem? (i := 347) (by decide +kernel), List.mem_of_getElem? (i := 348) (by decide +kernel)⟩
theorem lw_p11 : lw_okq (⟨"AimTunnel$Tape", "takeWord", "(LAimTunnel$Ground;)V"⟩, 7) := ⟨⟨by decide +kernel, by decide +kernel⟩, List.mem_of_getElem? (i := 98) (by decide +kernel), List.mem_of_getElem? (i := 351) (by decide +kernel), List.mem_of_getElem? (i := 352) (by decide +kernel)⟩
theorem lw_p12 : lw_okq (⟨"AimTunnel$Ground", "goOne", "(I)V"⟩, 17) := ⟨⟨by decide +kernel, by decide +kernel⟩, List.mem_of_getElem? (i := 22) (by decide +kernel), List.mem_of_getElem? (i := 468) (by decide +kernel), List.mem_of_getElem? (i := 469) (by decide +kernel)⟩
theorem lw_p13 : lw_okq (⟨"AimTunnel$Ground", "behind", "(I)I"⟩, 17) := ⟨⟨by decide +kernel, by decide +kernel⟩, List.mem_of_getElem? (i := 22) (by decide +kernel), List.mem_of_getElem? (i := 472) (by decide +kernel), List.mem_of_getElem? (i := 473) (by decide +kernel)⟩
theorem lw_p14 : lw_okq (⟨"AimTunnel", "tryAim", "(II)V"⟩, 13) := ⟨⟨by decide +kernel, by decide +kernel⟩, List.mem_of_getElem? (i := 14) (by decide +kernel), List.mem_of_getElem? (i := 533) (by decide +kernel), List.mem_of_getElem? (i := 534) (by decide +kernel)⟩
theorem lw_p15 : lw_okq (⟨"AimTunnel", "oneWordLeads", "(II)Z"⟩, 13) := ⟨⟨by decide +kernel, by decide +kernel⟩, List.mem_of_getElem? (i := 14) (by decide +kernel), List.mem_of_getElem? (i := 541) (by decide +kernel), List.mem_of_getElem? (i := 542) (by decide +kernel)⟩
def lw_privs_1 : List (MethodName × Nat) := [(⟨"AimTunnel$Tape", "readToken", "()V"⟩, 7), (⟨"AimTunnel$Tape", "sortAt", "(I)I"⟩, 7), (⟨"AimTunnel$Tape", "lineNamed", "()I"⟩, 7), (⟨"AimTunnel$Tape", "isSpelled", "(Ljava/lang/String;)Z"⟩, 7), (⟨"AimTunnel$Tape", "takeDigger", "(LAimTunnel$Ground;I)V"⟩, 7), (⟨"AimTunnel$Tape", "takeCell", "()I"⟩, 7), (⟨"AimTunnel$Tape", "takeToken", "(I)Z"⟩, 7), (⟨"AimTunnel$Tape", "valueRead", "()I"⟩, 7), (⟨"AimTunnel$Tape", "takeRock", "(LAimTunnel$Ground;)V"⟩, 7), (⟨"AimTunnel$Tape", "takeFaith", "(LAimTunnel$Ground;)V"⟩, 7), (⟨"AimTunnel$Tape", "takeNumber", "(I)I"⟩, 7), (⟨"AimTunnel$Tape", "takeWord", "(LAimTunnel$Ground;)V"⟩, 7), (⟨"AimTunnel$Ground", "goOne", "(I)V"⟩, 17), (⟨"AimTunnel$Ground", "behind", "(I)I"⟩, 17), (⟨"AimTunnel", "tryAim", "(II)V"⟩, 13), (⟨"AimTunnel", "oneWordLeads", "(II)Z"⟩, 13)]
theorem lw_r1 : ∀ q ∈ lw_privs_1, lw_okq q := List.forall_mem_cons.mpr ⟨lw_p0, List.forall_mem_cons.mpr ⟨lw_p1, List.forall_mem_cons.mpr ⟨lw_p2, List.forall_mem_cons.mpr ⟨lw_p3, List.forall_mem_cons.mpr ⟨lw_p4, List.forall_mem_cons.mpr ⟨lw_p5, List.forall_mem_cons.mpr ⟨lw_p6, List.forall_mem_cons.mpr ⟨lw_p7, List.forall_mem_cons.mpr ⟨lw_p8, List.forall_mem_cons.mpr ⟨lw_p9, List.forall_mem_cons.mpr ⟨lw_p10, List.forall_mem_cons.mpr ⟨lw_p11, List.forall_mem_cons.mpr ⟨lw_p12, List.forall_mem_cons.mpr ⟨lw_p13, List.forall_mem_cons.mpr ⟨lw_p14, List.forall_mem_cons.mpr ⟨lw_p15, fun _ h => absurd h List.not_mem_nil⟩⟩⟩⟩⟩⟩⟩⟩⟩⟩⟩⟩⟩⟩⟩⟩
theorem lw_p16 : lw_okq (⟨"AimTunnel", "secondWordLeads", "(III)Z"⟩, 13) := ⟨⟨by decide +kernel, by decide +kernel⟩, List.mem_of_getElem? (i := 14) (by decide +kernel), List.mem_of_getElem? (i := 545) (by decide +kernel), List.mem_of_getElem? (i := 546) (by decide +kernel)⟩
theorem lw_p17 : lw_okq (⟨"AimTunnel", "wordOnTrialLeads", "(III)Z"⟩, 13) := ⟨⟨by decide +kernel, by decide +kernel⟩, List.mem_of_getElem? (i := 14) (by decide +kernel), List.mem_of_getElem? (i := 550) (by decide +kernel), List.mem_of_getElem? (i := 551) (by decide +kernel)⟩
theorem lw_p18 : lw_okq (⟨"AimTunnel", "weightedUps", "(III)J"⟩, 13) := ⟨⟨by decide +kernel, by decide +kernel⟩, List.mem_of_getElem? (i := 14) (by decide +kernel), List.mem_of_getElem? (i := 567) (by decide +kernel), List.mem_of_getElem? (i := 568) (by decide +kernel)⟩
theorem lw_p19 : lw_okq (⟨"AimTunnel", "weightOf", "(II)J"⟩, 13) := ⟨⟨by decide +kernel, by decide +kernel⟩, List.mem_of_getElem? (i := 14) (by decide +kernel), List.mem_of_getElem? (i := 571) (by decide +kernel), List.mem_of_getElem? (i := 572) (by decide +kernel)⟩
theorem lw_p20 : lw_okq (⟨"AimTunnel", "tenths", "()J"⟩, 13) := ⟨⟨by decide +kernel, by decide +kernel⟩, List.mem_of_getElem? (i := 14) (by decide +kernel), List.mem_of_getElem? (i := 585) (by decide +kernel), List.mem_of_getElem? (i := 586) (by decide +kernel)⟩
theorem lw_p21 : lw_okq (⟨"AimTunnel", "aimFits", "(II)Z"⟩, 13) := ⟨⟨by decide +kernel, by decide +kernel⟩, List.mem_of_getElem? (i := 14) (by decide +kernel), List.mem_of_getElem? (i := 613) (by decide +kernel), List.mem_of_getElem? (i := 614) (by decide +kernel)⟩
theorem lw_p22 : lw_okq (⟨"AimTunnel$Ground", "isAsSeen", "(I)Z"⟩, 17) := ⟨⟨by decide +kernel, by decide +kernel⟩, List.mem_of_getElem? (i := 22) (by decide +kernel), List.mem_of_getElem? (i := 624) (by decide +kernel), List.mem_of_getElem? (i := 625) (by decide +kernel)⟩
theorem lw_p23 : lw_okq (⟨"AimTunnel", "tallyAims", "(I)I"⟩, 13) := ⟨⟨by decide +kernel, by decide +kernel⟩, List.mem_of_getElem? (i := 14) (by decide +kernel), List.mem_of_getElem? (i := 636) (by decide +kernel), List.mem_of_getElem? (i := 637) (by decide +kernel)⟩
theorem lw_p24 : lw_okq (⟨"AimTunnel", "mostInOneCell", "(I)I"⟩, 13) := ⟨⟨by decide +kernel, by decide +kernel⟩, List.mem_of_getElem? (i := 14) (by decide +kernel), List.mem_of_getElem? (i := 640) (by decide +kernel), List.mem_of_getElem? (i := 641) (by decide +kernel)⟩
theorem lw_p25 : lw_okq (⟨"AimTunnel", "image", "(I)LAimTunnel$Ground;"⟩, 13) := ⟨⟨by decide +kernel, by decide +kernel⟩, List.mem_of_getElem? (i := 14) (by decide +kernel), List.mem_of_getElem? (i := 658) (by decide +kernel), List.mem_of_getElem? (i := 659) (by decide +kernel)⟩
theorem lw_p26 : lw_okq (⟨"AimTunnelModel", "firstDraft", "()V"⟩, 30) := ⟨⟨by decide +kernel, by decide +kernel⟩, List.mem_of_getElem? (i := 728) (by decide +kernel), List.mem_of_getElem? (i := 734) (by decide +kernel), List.mem_of_getElem? (i := 735) (by decide +kernel)⟩
theorem lw_p27 : lw_okq (⟨"AimTunnelModel", "keepDraft", "()V"⟩, 30) := ⟨⟨by decide +kernel, by decide +kernel⟩, List.mem_of_getElem? (i := 728) (by decide +kernel), List.mem_of_getElem? (i := 738) (by decide +kernel), List.mem_of_getElem? (i := 739) (by decide +kernel)⟩
theorem lw_p28 : lw_okq (⟨"AimTunnelModel", "takes", "()V"⟩, 30) := ⟨⟨by decide +kernel, by decide +kernel⟩, List.mem_of_getElem? (i := 728) (by decide +kernel), List.mem_of_getElem? (i := 849) (by decide +kernel), List.mem_of_getElem? (i := 850) (by decide +kernel)⟩
theorem lw_p29 : lw_okq (⟨"AimTunnelModel", "byteAt", "(I)I"⟩, 30) := ⟨⟨by decide +kernel, by decide +kernel⟩, List.mem_of_getElem? (i := 728) (by decide +kernel), List.mem_of_getElem? (i := 853) (by decide +kernel), List.mem_of_getElem? (i := 854) (by decide +kernel)⟩
theorem lw_p30 : lw_okq (⟨"AimTunnelModel", "needs", "(ZI)V"⟩, 30) := ⟨⟨by decide +kernel, by decide +kernel⟩, List.mem_of_getElem? (i := 728) (by decide +kernel), List.mem_of_getElem? (i := 861) (by decide +kernel), List.mem_of_getElem? (i := 862) (by decide +kernel)⟩
theorem lw_p31 : lw_okq (⟨"AimTunnelModel", "readLine", "()V"⟩, 30) := ⟨⟨by decide +kernel, by decide +kernel⟩, List.mem_of_getElem? (i := 728) (by decide +kernel), List.mem_of_getElem? (i := 865) (by decide +kernel), List.mem_of_getElem? (i := 866) (by decide +kernel)⟩
def lw_privs_2 : List (MethodName × Nat) := [(⟨"AimTunnel", "secondWordLeads", "(III)Z"⟩, 13), (⟨"AimTunnel", "wordOnTrialLeads", "(III)Z"⟩, 13), (⟨"AimTunnel", "weightedUps", "(III)J"⟩, 13), (⟨"AimTunnel", "weightOf", "(II)J"⟩, 13), (⟨"AimTunnel", "tenths", "()J"⟩, 13), (⟨"AimTunnel", "aimFits", "(II)Z"⟩, 13), (⟨"AimTunnel$Ground", "isAsSeen", "(I)Z"⟩, 17), (⟨"AimTunnel", "tallyAims", "(I)I"⟩, 13), (⟨"AimTunnel", "mostInOneCell", "(I)I"⟩, 13), (⟨"AimTunnel", "image", "(I)LAimTunnel$Ground;"⟩, 13), (⟨"AimTunnelModel", "firstDraft", "()V"⟩, 30), (⟨"AimTunnelModel", "keepDraft", "()V"⟩, 30), (⟨"AimTunnelModel", "takes", "()V"⟩, 30), (⟨"AimTunnelModel", "byteAt", "(I)I"⟩, 30), (⟨"AimTunnelModel", "needs", "(ZI)V"⟩, 30), (⟨"AimTunnelModel", "readLine", "()V"⟩, 30)]
theorem lw_r2 : ∀ q ∈ lw_privs_2, lw_okq q := List.forall_mem_cons.mpr ⟨lw_p16, List.forall_mem_cons.mpr ⟨lw_p17, List.forall_mem_cons.mpr ⟨lw_p18, List.forall_mem_cons.mpr ⟨lw_p19, List.forall_mem_cons.mpr ⟨lw_p20, List.forall_mem_cons.mpr ⟨lw_p21, List.forall_mem_cons.mpr ⟨lw_p22, List.forall_mem_cons.mpr ⟨lw_p23, List.forall_mem_cons.mpr ⟨lw_p24, List.forall_mem_cons.mpr ⟨lw_p25, List.forall_mem_cons.mpr ⟨lw_p26, List.forall_mem_cons.mpr ⟨lw_p27, List.forall_mem_cons.mpr ⟨lw_p28, List.forall_mem_cons.mpr ⟨lw_p29, List.forall_mem_cons.mpr ⟨lw_p30, List.forall_mem_cons.mpr ⟨lw_p31, fun _ h => absurd h List.not_mem_nil⟩⟩⟩⟩⟩⟩⟩⟩⟩⟩⟩⟩⟩⟩⟩⟩
theorem lw_p32 : lw_okq (⟨"AimTunnelModel", "lineNow", "()I"⟩, 30) := ⟨⟨by decide +kernel, by decide +kernel⟩, List.mem_of_getElem? (i := 728) (by decide +kernel), List.mem_of_getElem? (i := 869) (by decide +kernel), List.mem_of_getElem? (i := 870) (by decide +kernel)⟩
theorem lw_p33 : lw_okq (⟨"AimTunnelModel", "is", "(IIII)Z"⟩, 30) := ⟨⟨by decide +kernel, by decide +kernel⟩, List.mem_of_getElem? (i := 728) (by decide +kernel), List.mem_of_getElem? (i := 873) (by decide +kernel), List.mem_of_getElem? (i := 874) (by decide +kernel)⟩
theorem lw_p34 : lw_okq (⟨"AimTunnelModel", "ends", "(II)Z"⟩, 30) := ⟨⟨by decide +kernel, by decide +kernel⟩, List.mem_of_getElem? (i := 728) (by decide +kernel), List.mem_of_getElem? (i := 877) (by decide +kernel), List.mem_of_getElem? (i := 878) (by decide +kernel)⟩
theorem lw_p35 : lw_okq (⟨"AimTunnelModel", "hasRoom", "(I)Z"⟩, 30) := ⟨⟨by decide +kernel, by decide +kernel⟩, List.mem_of_getElem? (i := 728) (by decide +kernel), List.mem_of_getElem? (i := 881) (by decide +kernel), List.mem_of_getElem? (i := 882) (by decide +kernel)⟩
theorem lw_p36 : lw_okq (⟨"AimTunnelModel", "readLineOf", "(I)V"⟩, 30) := ⟨⟨by decide +kernel, by decide +kernel⟩, List.mem_of_getElem? (i := 728) (by decide +kernel), List.mem_of_getElem? (i := 885) (by decide +kernel), List.mem_of_getElem? (i := 886) (by decide +kernel)⟩
theorem lw_p37 : lw_okq (⟨"AimTunnelModel", "readRock", "()V"⟩, 30) := ⟨⟨by decide +kernel, by decide +kernel⟩, List.mem_of_getElem? (i := 728) (by decide +kernel), List.mem_of_getElem? (i := 889) (by decide +kernel), List.mem_of_getElem? (i := 890) (by decide +kernel)⟩
theorem lw_p38 : lw_okq (⟨"AimTunnelModel", "lookedCell", "()I"⟩, 30) := ⟨⟨by decide +kernel, by decide +kernel⟩, List.mem_of_getElem? (i := 728) (by decide +kernel), List.mem_of_getElem? (i := 893) (by decide +kernel), List.mem_of_getElem? (i := 894) (by decide +kernel)⟩
theorem lw_p39 : lw_okq (⟨"AimTunnelModel", "looked", "(II)I"⟩, 30) := ⟨⟨by decide +kernel, by decide +kernel⟩, List.mem_of_getElem? (i := 728) (by decide +kernel), List.mem_of_getElem? (i := 897) (by decide +kernel), List.mem_of_getElem? (i := 898) (by decide +kernel)⟩
theorem lw_p40 : lw_okq (⟨"AimTunnelModel", "readFaith", "()V"⟩, 30) := ⟨⟨by decide +kernel, by decide +kernel⟩, List.mem_of_getElem? (i := 728) (by decide +kernel), List.mem_of_getElem? (i := 904) (by decide +kernel), List.mem_of_getElem? (i := 905) (by decide +kernel)⟩
theorem lw_p41 : lw_okq (⟨"AimTunnelModel", "readNumber", "(II)I"⟩, 30) := ⟨⟨by decide +kernel, by decide +kernel⟩, List.mem_of_getElem? (i := 728) (by decide +kernel), List.mem_of_getElem? (i := 908) (by decide +kernel), List.mem_of_getElem? (i := 909) (by decide +kernel)⟩
theorem lw_p42 : lw_okq (⟨"AimTunnelModel", "readWord", "()V"⟩, 30) := ⟨⟨by decide +kernel, by decide +kernel⟩, List.mem_of_getElem? (i := 728) (by decide +kernel), List.mem_of_getElem? (i := 912) (by decide +kernel), List.mem_of_getElem? (i := 913) (by decide +kernel)⟩
theorem lw_p43 : lw_okq (⟨"AimTunnelModel", "readCell", "()I"⟩, 30) := ⟨⟨by decide +kernel, by decide +kernel⟩, List.mem_of_getElem? (i := 728) (by decide +kernel), List.mem_of_getElem? (i := 916) (by decide +kernel), List.mem_of_getElem? (i := 917) (by decide +kernel)⟩
theorem lw_p44 : lw_okq (⟨"AimTunnelModel", "readDigger", "(I)V"⟩, 30) := ⟨⟨by decide +kernel, by decide +kernel⟩, List.mem_of_getElem? (i := 728) (by decide +kernel), List.mem_of_getElem? (i := 920) (by decide +kernel), List.mem_of_getElem? (i := 921) (by decide +kernel)⟩
theorem lw_p45 : lw_okq (⟨"AimTunnelModel", "starts", "()V"⟩, 30) := ⟨⟨by decide +kernel, by decide +kernel⟩, List.mem_of_getElem? (i := 728) (by decide +kernel), List.mem_of_getElem? (i := 932) (by decide +kernel), List.mem_of_getElem? (i := 933) (by decide +kernel)⟩
theorem lw_p46 : lw_okq (⟨"AimTunnelModel", "rocks", "()I"⟩, 30) := ⟨⟨by decide +kernel, by decide +kernel⟩, List.mem_of_getElem? (i := 728) (by decide +kernel), List.mem_of_getElem? (i := 936) (by decide +kernel), List.mem_of_getElem? (i := 937) (by decide +kernel)⟩
theorem lw_p47 : lw_okq (⟨"AimTunnelModel", "up", "()I"⟩, 30) := ⟨⟨by decide +kernel, by decide +kernel⟩, List.mem_of_getElem? (i := 728) (by decide +kernel), List.mem_of_getElem? (i := 943) (by decide +kernel), List.mem_of_getElem? (i := 944) (by decide +kernel)⟩
def lw_privs_3 : List (MethodName × Nat) := [(⟨"AimTunnelModel", "lineNow", "()I"⟩, 30), (⟨"AimTunnelModel", "is", "(IIII)Z"⟩, 30), (⟨"AimTunnelModel", "ends", "(II)Z"⟩, 30), (⟨"AimTunnelModel", "hasRoom", "(I)Z"⟩, 30), (⟨"AimTunnelModel", "readLineOf", "(I)V"⟩, 30), (⟨"AimTunnelModel", "readRock", "()V"⟩, 30), (⟨"AimTunnelModel", "lookedCell", "()I"⟩, 30), (⟨"AimTunnelModel", "looked", "(II)I"⟩, 30), (⟨"AimTunnelModel", "readFaith", "()V"⟩, 30), (⟨"AimTunnelModel", "readNumber", "(II)I"⟩, 30), (⟨"AimTunnelModel", "readWord", "()V"⟩, 30), (⟨"AimTunnelModel", "readCell", "()I"⟩, 30), (⟨"AimTunnelModel", "readDigger", "(I)V"⟩, 30), (⟨"AimTunnelModel", "starts", "()V"⟩, 30), (⟨"AimTunnelModel", "rocks", "()I"⟩, 30), (⟨"AimTunnelModel", "up", "()I"⟩, 30)]
theorem lw_r3 : ∀ q ∈ lw_privs_3, lw_okq q := List.forall_mem_cons.mpr ⟨lw_p32, List.forall_mem_cons.mpr ⟨lw_p33, List.forall_mem_cons.mpr ⟨lw_p34, List.forall_mem_cons.mpr ⟨lw_p35, List.forall_mem_cons.mpr ⟨lw_p36, List.forall_mem_cons.mpr ⟨lw_p37, List.forall_mem_cons.mpr ⟨lw_p38, List.forall_mem_cons.mpr ⟨lw_p39, List.forall_mem_cons.mpr ⟨lw_p40, List.forall_mem_cons.mpr ⟨lw_p41, List.forall_mem_cons.mpr ⟨lw_p42, List.forall_mem_cons.mpr ⟨lw_p43, List.forall_mem_cons.mpr ⟨lw_p44, List.forall_mem_cons.mpr ⟨lw_p45, List.forall_mem_cons.mpr ⟨lw_p46, List.forall_mem_cons.mpr ⟨lw_p47, fun _ h => absurd h List.not_mem_nil⟩⟩⟩⟩⟩⟩⟩⟩⟩⟩⟩⟩⟩⟩⟩⟩
theorem lw_p48 : lw_okq (⟨"AimTunnelModel", "of", "(II)I"⟩, 30) := ⟨⟨by decide +kernel, by decide +kernel⟩, List.mem_of_getElem? (i := 728) (by decide +kernel), List.mem_of_getElem? (i := 947) (by decide +kernel), List.mem_of_getElem? (i := 948) (by decide +kernel)⟩
theorem lw_p49 : lw_okq (⟨"AimTunnelModel", "faithless", "()I"⟩, 30) := ⟨⟨by decide +kernel, by decide +kernel⟩, List.mem_of_getElem? (i := 728) (by decide +kernel), List.mem_of_getElem? (i := 951) (by decide +kernel), List.mem_of_getElem? (i := 952) (by decide +kernel)⟩
theorem lw_p50 : lw_okq (⟨"AimTunnelModel", "isDigger", "(I)Z"⟩, 30) := ⟨⟨by decide +kernel, by decide +kernel⟩, List.mem_of_getElem? (i := 728) (by decide +kernel), List.mem_of_getElem? (i := 962) (by decide +kernel), List.mem_of_getElem? (i := 963) (by decide +kernel)⟩
theorem lw_p51 : lw_okq (⟨"AimTunnelModel", "isRock", "(II)Z"⟩, 30) := ⟨⟨by decide +kernel, by decide +kernel⟩, List.mem_of_getElem? (i := 728) (by decide +kernel), List.mem_of_getElem? (i := 971) (by decide +kernel), List.mem_of_getElem? (i := 972) (by decide +kernel)⟩
theorem lw_p52 : lw_okq (⟨"AimTunnelModel", "isUp", "(I)Z"⟩, 30) := ⟨⟨by decide +kernel, by decide +kernel⟩, List.mem_of_getElem? (i := 728) (by decide +kernel), List.mem_of_getElem? (i := 989) (by decide +kernel), List.mem_of_getElem? (i := 990) (by decide +kernel)⟩
theorem lw_p53 : lw_okq (⟨"AimTunnelModel", "becomes", "(II)I"⟩, 30) := ⟨⟨by decide +kernel, by decide +kernel⟩, List.mem_of_getElem? (i := 728) (by decide +kernel), List.mem_of_getElem? (i := 993) (by decide +kernel), List.mem_of_getElem? (i := 994) (by decide +kernel)⟩
theorem lw_p54 : lw_okq (⟨"AimTunnelModel", "isTaken", "(I)Z"⟩, 30) := ⟨⟨by decide +kernel, by decide +kernel⟩, List.mem_of_getElem? (i := 728) (by decide +kernel), List.mem_of_getElem? (i := 1001) (by decide +kernel), List.mem_of_getElem? (i := 1002) (by decide +kernel)⟩
theorem lw_p55 : lw_okq (⟨"AimTunnelModel", "feetGo", "(I)V"⟩, 30) := ⟨⟨by decide +kernel, by decide +kernel⟩, List.mem_of_getElem? (i := 728) (by decide +kernel), List.mem_of_getElem? (i := 1018) (by decide +kernel), List.mem_of_getElem? (i := 1019) (by decide +kernel)⟩
theorem lw_p56 : lw_okq (⟨"AimTunnelModel", "footGoes", "()V"⟩, 30) := ⟨⟨by decide +kernel, by decide +kernel⟩, List.mem_of_getElem? (i := 728) (by decide +kernel), List.mem_of_getElem? (i := 1022) (by decide +kernel), List.mem_of_getElem? (i := 1023) (by decide +kernel)⟩
theorem lw_p57 : lw_okq (⟨"AimTunnelModel", "wordsCome", "()V"⟩, 30) := ⟨⟨by decide +kernel, by decide +kernel⟩, List.mem_of_getElem? (i := 728) (by decide +kernel), List.mem_of_getElem? (i := 1026) (by decide +kernel), List.mem_of_getElem? (i := 1027) (by decide +kernel)⟩
theorem lw_p58 : lw_okq (⟨"AimTunnelModel", "becomesOf", "(III)V"⟩, 30) := ⟨⟨by decide +kernel, by decide +kernel⟩, List.mem_of_getElem? (i := 728) (by decide +kernel), List.mem_of_getElem? (i := 1030) (by decide +kernel), List.mem_of_getElem? (i := 1031) (by decide +kernel)⟩
theorem lw_p59 : lw_okq (⟨"AimTunnelModel", "turns", "(I)Z"⟩, 30) := ⟨⟨by decide +kernel, by decide +kernel⟩, List.mem_of_getElem? (i := 728) (by decide +kernel), List.mem_of_getElem? (i := 1034) (by decide +kernel), List.mem_of_getElem? (i := 1035) (by decide +kernel)⟩
theorem lw_p60 : lw_okq (⟨"AimTunnelModel", "wanted", "(I)I"⟩, 30) := ⟨⟨by decide +kernel, by decide +kernel⟩, List.mem_of_getElem? (i := 728) (by decide +kernel), List.mem_of_getElem? (i := 1038) (by decide +kernel), List.mem_of_getElem? (i := 1039) (by decide +kernel)⟩
theorem lw_p61 : lw_okq (⟨"AimTunnelModel", "steps", "(I)V"⟩, 30) := ⟨⟨by decide +kernel, by decide +kernel⟩, List.mem_of_getElem? (i := 728) (by decide +kernel), List.mem_of_getElem? (i := 1042) (by decide +kernel), List.mem_of_getElem? (i := 1043) (by decide +kernel)⟩
theorem lw_p62 : lw_okq (⟨"AimTunnelModel", "settles", "()V"⟩, 30) := ⟨⟨by decide +kernel, by decide +kernel⟩, List.mem_of_getElem? (i := 728) (by decide +kernel), List.mem_of_getElem? (i := 1047) (by decide +kernel), List.mem_of_getElem? (i := 1048) (by decide +kernel)⟩
theorem lw_p63 : lw_okq (⟨"AimTunnelModel", "meetings", "()I"⟩, 30) := ⟨⟨by decide +kernel, by decide +kernel⟩, List.mem_of_getElem? (i := 728) (by decide +kernel), List.mem_of_getElem? (i := 1055) (by decide +kernel), List.mem_of_getElem? (i := 1056) (by decide +kernel)⟩
def lw_privs_4 : List (MethodName × Nat) := [(⟨"AimTunnelModel", "of", "(II)I"⟩, 30), (⟨"AimTunnelModel", "faithless", "()I"⟩, 30), (⟨"AimTunnelModel", "isDigger", "(I)Z"⟩, 30), (⟨"AimTunnelModel", "isRock", "(II)Z"⟩, 30), (⟨"AimTunnelModel", "isUp", "(I)Z"⟩, 30), (⟨"AimTunnelModel", "becomes", "(II)I"⟩, 30), (⟨"AimTunnelModel", "isTaken", "(I)Z"⟩, 30), (⟨"AimTunnelModel", "feetGo", "(I)V"⟩, 30), (⟨"AimTunnelModel", "footGoes", "()V"⟩, 30), (⟨"AimTunnelModel", "wordsCome", "()V"⟩, 30), (⟨"AimTunnelModel", "becomesOf", "(III)V"⟩, 30), (⟨"AimTunnelModel", "turns", "(I)Z"⟩, 30), (⟨"AimTunnelModel", "wanted", "(I)I"⟩, 30), (⟨"AimTunnelModel", "steps", "(I)V"⟩, 30), (⟨"AimTunnelModel", "settles", "()V"⟩, 30), (⟨"AimTunnelModel", "meetings", "()I"⟩, 30)]
theorem lw_r4 : ∀ q ∈ lw_privs_4, lw_okq q := List.forall_mem_cons.mpr ⟨lw_p48, List.forall_mem_cons.mpr ⟨lw_p49, List.forall_mem_cons.mpr ⟨lw_p50, List.forall_mem_cons.mpr ⟨lw_p51, List.forall_mem_cons.mpr ⟨lw_p52, List.forall_mem_cons.mpr ⟨lw_p53, List.forall_mem_cons.mpr ⟨lw_p54, List.forall_mem_cons.mpr ⟨lw_p55, List.forall_mem_cons.mpr ⟨lw_p56, List.forall_mem_cons.mpr ⟨lw_p57, List.forall_mem_cons.mpr ⟨lw_p58, List.forall_mem_cons.mpr ⟨lw_p59, List.forall_mem_cons.mpr ⟨lw_p60, List.forall_mem_cons.mpr ⟨lw_p61, List.forall_mem_cons.mpr ⟨lw_p62, List.forall_mem_cons.mpr ⟨lw_p63, fun _ h => absurd h List.not_mem_nil⟩⟩⟩⟩⟩⟩⟩⟩⟩⟩⟩⟩⟩⟩⟩⟩
theorem lw_p64 : lw_okq (⟨"AimTunnelModel", "doMeet", "(II)Z"⟩, 30) := ⟨⟨by decide +kernel, by decide +kernel⟩, List.mem_of_getElem? (i := 728) (by decide +kernel), List.mem_of_getElem? (i := 1059) (by decide +kernel), List.mem_of_getElem? (i := 1060) (by decide +kernel)⟩
theorem lw_p65 : lw_okq (⟨"AimTunnelModel", "feetTo", "(III)I"⟩, 30) := ⟨⟨by decide +kernel, by decide +kernel⟩, List.mem_of_getElem? (i := 728) (by decide +kernel), List.mem_of_getElem? (i := 1071) (by decide +kernel), List.mem_of_getElem? (i := 1072) (by decide +kernel)⟩
theorem lw_p66 : lw_okq (⟨"AimTunnelModel", "isAgain", "(II)Z"⟩, 30) := ⟨⟨by decide +kernel, by decide +kernel⟩, List.mem_of_getElem? (i := 728) (by decide +kernel), List.mem_of_getElem? (i := 1086) (by decide +kernel), List.mem_of_getElem? (i := 1087) (by decide +kernel)⟩
theorem lw_p67 : lw_okq (⟨"AimTunnelModel", "startsAimed", "(II)V"⟩, 30) := ⟨⟨by decide +kernel, by decide +kernel⟩, List.mem_of_getElem? (i := 728) (by decide +kernel), List.mem_of_getElem? (i := 1097) (by decide +kernel), List.mem_of_getElem? (i := 1098) (by decide +kernel)⟩
theorem lw_p68 : lw_okq (⟨"AimTunnelModel", "comesByTwo", "(II)Z"⟩, 30) := ⟨⟨by decide +kernel, by decide +kernel⟩, List.mem_of_getElem? (i := 728) (by decide +kernel), List.mem_of_getElem? (i := 1105) (by decide +kernel), List.mem_of_getElem? (i := 1106) (by decide +kernel)⟩
theorem lw_p69 : lw_okq (⟨"AimTunnelModel", "comesBy", "(IIIII)Z"⟩, 30) := ⟨⟨by decide +kernel, by decide +kernel⟩, List.mem_of_getElem? (i := 728) (by decide +kernel), List.mem_of_getElem? (i := 1109) (by decide +kernel), List.mem_of_getElem? (i := 1110) (by decide +kernel)⟩
theorem lw_p70 : lw_okq (⟨"AimTunnelModel", "findOdds", "(III)V"⟩, 30) := ⟨⟨by decide +kernel, by decide +kernel⟩, List.mem_of_getElem? (i := 728) (by decide +kernel), List.mem_of_getElem? (i := 1127) (by decide +kernel), List.mem_of_getElem? (i := 1128) (by decide +kernel)⟩
theorem lw_p71 : lw_okq (⟨"AimTunnelModel", "isSo", "()Z"⟩, 30) := ⟨⟨by decide +kernel, by decide +kernel⟩, List.mem_of_getElem? (i := 728) (by decide +kernel), List.mem_of_getElem? (i := 1153) (by decide +kernel), List.mem_of_getElem? (i := 1154) (by decide +kernel)⟩
theorem lw_p72 : lw_okq (⟨"AimTunnelModel", "copies", "(II)V"⟩, 30) := ⟨⟨by decide +kernel, by decide +kernel⟩, List.mem_of_getElem? (i := 728) (by decide +kernel), List.mem_of_getElem? (i := 1175) (by decide +kernel), List.mem_of_getElem? (i := 1176) (by decide +kernel)⟩
def lw_privs_5 : List (MethodName × Nat) := [(⟨"AimTunnelModel", "doMeet", "(II)Z"⟩, 30), (⟨"AimTunnelModel", "feetTo", "(III)I"⟩, 30), (⟨"AimTunnelModel", "isAgain", "(II)Z"⟩, 30), (⟨"AimTunnelModel", "startsAimed", "(II)V"⟩, 30), (⟨"AimTunnelModel", "comesByTwo", "(II)Z"⟩, 30), (⟨"AimTunnelModel", "comesBy", "(IIIII)Z"⟩, 30), (⟨"AimTunnelModel", "findOdds", "(III)V"⟩, 30), (⟨"AimTunnelModel", "isSo", "()Z"⟩, 30), (⟨"AimTunnelModel", "copies", "(II)V"⟩, 30)]
theorem lw_r5 : ∀ q ∈ lw_privs_5, lw_okq q := List.forall_mem_cons.mpr ⟨lw_p64, List.forall_mem_cons.mpr ⟨lw_p65, List.forall_mem_cons.mpr ⟨lw_p66, List.forall_mem_cons.mpr ⟨lw_p67, List.forall_mem_cons.mpr ⟨lw_p68, List.forall_mem_cons.mpr ⟨lw_p69, List.forall_mem_cons.mpr ⟨lw_p70, List.forall_mem_cons.mpr ⟨lw_p71, List.forall_mem_cons.mpr ⟨lw_p72, fun _ h => absurd h List.not_mem_nil⟩⟩⟩⟩⟩⟩⟩⟩⟩
def lw_privs : List (MethodName × Nat) := lw_privs_1 ++ (lw_privs_2 ++ (lw_privs_3 ++ (lw_privs_4 ++ (lw_privs_5))))
def lw_tbl : List Cond := k2_sels lw_privs ++ tables_1
theorem lw_privs_ok : ∀ q ∈ lw_privs, lw_okq q := by
  show ∀ q ∈ lw_privs_1 ++ (lw_privs_2 ++ (lw_privs_3 ++ (lw_privs_4 ++ (lw_privs_5)))), lw_okq q
  exact List.forall_mem_append.mpr ⟨lw_r1, List.forall_mem_append.mpr ⟨lw_r2, List.forall_mem_append.mpr ⟨lw_r3, List.forall_mem_append.mpr ⟨lw_r4, lw_r5⟩⟩⟩⟩
-- ===== end of PART A; then your names; then what follows =====
/-! ===== BEGIN words of one list among another's, by their places ===== -/
theorem goodIn_r {big : List Cond} (ws : List Cond) (ps : List Nat) (hp : ws = ps.filterMap (fun i => big[i]?)) (h : ws.all goodWord = true) : GoodIn big ws := by
  intro w hw
  have h1 := List.all_eq_true.mp h w hw
  rw [hp] at hw
  obtain ⟨i, -, hi⟩ := List.mem_filterMap.mp hw
  have hm : w ∈ big := by first | exact List.mem_of_getElem? hi | exact List.getElem?_mem hi
  exact ⟨hm, good_of_word h1⟩
theorem goodIn_app {big a b : List Cond} (ha : GoodIn big a) (hb : GoodIn big b) : GoodIn big (a ++ b) := fun w h => (List.mem_append.mp h).elim (ha w) (hb w)
theorem goodIn_ca {big a b : List Cond} {c : Cond} (ha : GoodIn big (c :: a)) (hb : GoodIn big b) : GoodIn big (c :: (a ++ b)) := fun w h => (List.mem_cons.mp h).elim (fun e => ha w (List.mem_cons.mpr (Or.inl e))) (fun h => (List.mem_append.mp h).elim (fun h => ha w (List.mem_cons.mpr (Or.inr h))) (hb w))
theorem goodIn_sub {big ws : List Cond} (hm : ∀ w ∈ ws, w ∈ big) (h : ws.all goodWord = true) : GoodIn big ws := fun w hw => ⟨hm w hw, good_of_word (List.all_eq_true.mp h w hw)⟩
/-! ===== END ===== -/

/-! ===== BEGIN printed: names, fields, word lists, decode rows ===== -/
def RX0 : String := "AimTunnel$Ground"
def TX0 : u_T := fun k => match k with
  | 0 => ("AimTunnel$Ground", "diggers", "I", false)
  | 1 => ("AimTunnel$Ground", "kind", "[I", true)
  | 2 => ("AimTunnel$Ground", "at", "[I", true)
  | 3 => ("AimTunnel$Ground", "aim", "[I", true)
  | 4 => ("AimTunnel$Ground", "heading", "[I", true)
  | 5 => ("AimTunnel$Ground", "faith", "[I", true)
  | 6 => ("AimTunnel$Ground", "up", "I", false)
  | 7 => ("AimTunnel$Ground", "rocks", "J", false)
  | 8 => ("AimTunnel$Ground", "foot", "I", false)
  | 9 => ("AimTunnel$Ground", "words", "I", false)
  | 10 => ("AimTunnel$Ground", "wordFoot", "[I", true)
  | 11 => ("AimTunnel$Ground", "wordDigger", "[I", true)
  | 12 => ("AimTunnel$Ground", "wordAim", "[I", true)
  | 13 => ("AimTunnel$Ground", "seen", "I", false)
  | 14 => ("AimTunnel$Ground", "seenDigger", "[I", true)
  | 15 => ("AimTunnel$Ground", "seenFeet", "[I", true)
  | _ => ("AimTunnel$Ground", "seenCell", "[I", true)
def tyX0 : Nat → FieldType := fun k => match k with
  | 0 => .int
  | 1 => .array .int
  | 2 => .array .int
  | 3 => .array .int
  | 4 => .array .int
  | 5 => .array .int
  | 6 => .int
  | 7 => .long
  | 8 => .int
  | 9 => .int
  | 10 => .array .int
  | 11 => .array .int
  | 12 => .array .int
  | 13 => .int
  | 14 => .array .int
  | 15 => .array .int
  | _ => .array .int
abbrev wsX00 : List Cond := u_ws RX0 TX0 17
theorem nmX0 : ∀ a, a < 17 → ∀ b, b < 17 → a ≠ b → (TX0 a).2.1 ≠ (TX0 b).2.1 := by decide +kernel
theorem tyX0_ok : ∀ k, k < 17 → parseFieldDescriptor (TX0 k).2.2.1 = some (tyX0 k) := by decide +kernel
abbrev cX0_init : ByteArray := prog_2_method_1_code
def yX0_init : MethodName := ⟨RX0, "<init>", "()V"⟩
abbrev cX0_clear : ByteArray := prog_2_method_2_code
def yX0_clear : MethodName := ⟨RX0, "clear", "()V"⟩
abbrev cX0_copy : ByteArray := prog_2_method_3_code
def yX0_copy : MethodName := ⟨RX0, "copy", "(LAimTunnel$Ground;)V"⟩
abbrev cX0_addDigger : ByteArray := prog_2_method_4_code
def yX0_addDigger : MethodName := ⟨RX0, "addDigger", "(III)V"⟩
abbrev cX0_addWord : ByteArray := prog_2_method_5_code
def yX0_addWord : MethodName := ⟨RX0, "addWord", "(III)V"⟩
abbrev cX0_addSeen : ByteArray := prog_2_method_6_code
def yX0_addSeen : MethodName := ⟨RX0, "addSeen", "(III)V"⟩
abbrev cX0_has : ByteArray := prog_2_method_7_code
def yX0_has : MethodName := ⟨RX0, "has", "(I)Z"⟩
abbrev cX0_isUp : ByteArray := prog_2_method_8_code
def yX0_isUp : MethodName := ⟨RX0, "isUp", "(I)Z"⟩
abbrev cX0_rests : ByteArray := prog_2_method_9_code
def yX0_rests : MethodName := ⟨RX0, "rests", "(I)Z"⟩
abbrev cX0_isRock : ByteArray := prog_2_method_10_code
def yX0_isRock : MethodName := ⟨RX0, "isRock", "(I)Z"⟩
abbrev cX0_setRock : ByteArray := prog_2_method_11_code
def yX0_setRock : MethodName := ⟨RX0, "setRock", "(IZ)V"⟩
abbrev cX0_holdsDigger : ByteArray := prog_2_method_12_code
def yX0_holdsDigger : MethodName := ⟨RX0, "holdsDigger", "(I)Z"⟩
abbrev cX0_isDiggerInRock : ByteArray := prog_2_method_13_code
def yX0_isDiggerInRock : MethodName := ⟨RX0, "isDiggerInRock", "()Z"⟩
abbrev cX0_isWordToNobody : ByteArray := prog_2_method_14_code
def yX0_isWordToNobody : MethodName := ⟨RX0, "isWordToNobody", "()Z"⟩
abbrev cX0_faithless : ByteArray := prog_2_method_15_code
def yX0_faithless : MethodName := ⟨RX0, "faithless", "()I"⟩
abbrev cX0_allFaith : ByteArray := prog_2_method_16_code
def yX0_allFaith : MethodName := ⟨RX0, "allFaith", "()I"⟩
abbrev cX0_loseFaith : ByteArray := prog_2_method_17_code
def yX0_loseFaith : MethodName := ⟨RX0, "loseFaith", "(I)V"⟩
abbrev cX0_trait : ByteArray := prog_2_method_18_code
def yX0_trait : MethodName := ⟨RX0, "trait", "(II)I"⟩
abbrev cX0_change : ByteArray := prog_2_method_19_code
def yX0_change : MethodName := ⟨RX0, "change", "(III)I"⟩
abbrev cX0_mayBecome : ByteArray := prog_2_method_20_code
def yX0_mayBecome : MethodName := ⟨RX0, "mayBecome", "(II)Z"⟩
abbrev cX0_takeReadWord : ByteArray := prog_2_method_21_code
def yX0_takeReadWord : MethodName := ⟨RX0, "takeReadWord", "(II)Z"⟩
abbrev cX0_takeChance : ByteArray := prog_2_method_22_code
def yX0_takeChance : MethodName := ⟨RX0, "takeChance", "(I)V"⟩
abbrev cX0_bearingOn : ByteArray := prog_2_method_23_code
def yX0_bearingOn : MethodName := ⟨RX0, "bearingOn", "(I)I"⟩
abbrev cX0_behind : ByteArray := prog_2_method_24_code
def yX0_behind : MethodName := ⟨RX0, "behind", "(I)I"⟩
abbrev cX0_goFeet : ByteArray := prog_2_method_25_code
def yX0_goFeet : MethodName := ⟨RX0, "goFeet", "(II)V"⟩
abbrev cX0_goFoot : ByteArray := prog_2_method_26_code
def yX0_goFoot : MethodName := ⟨RX0, "goFoot", "(I)V"⟩
abbrev cX0_goOne : ByteArray := prog_2_method_27_code
def yX0_goOne : MethodName := ⟨RX0, "goOne", "(I)V"⟩
abbrev cX0_rightOf : ByteArray := prog_2_method_28_code
def yX0_rightOf : MethodName := ⟨RX0, "rightOf", "(I)I"⟩
abbrev cX0_headingTo : ByteArray := prog_2_method_29_code
def yX0_headingTo : MethodName := ⟨RX0, "headingTo", "(II)I"⟩
abbrev cX0_nextCell : ByteArray := prog_2_method_30_code
def yX0_nextCell : MethodName := ⟨RX0, "nextCell", "(II)I"⟩
abbrev cX0_feetUntil : ByteArray := prog_2_method_31_code
def yX0_feetUntil : MethodName := ⟨RX0, "feetUntil", "(III)I"⟩
abbrev cX0_twoMeet : ByteArray := prog_2_method_32_code
def yX0_twoMeet : MethodName := ⟨RX0, "twoMeet", "(II)Z"⟩
abbrev cX0_meetings : ByteArray := prog_2_method_33_code
def yX0_meetings : MethodName := ⟨RX0, "meetings", "()I"⟩
abbrev cX0_outline : ByteArray := prog_2_method_34_code
def yX0_outline : MethodName := ⟨RX0, "outline", "()J"⟩
abbrev cX0_goesAsSeen : ByteArray := prog_2_method_35_code
def yX0_goesAsSeen : MethodName := ⟨RX0, "goesAsSeen", "()Z"⟩
abbrev cX0_isAsSeen : ByteArray := prog_2_method_36_code
def yX0_isAsSeen : MethodName := ⟨RX0, "isAsSeen", "(I)Z"⟩
def RX1 : String := "AimTunnel$Sheets"
def TX1 : u_T := fun k => match k with
  | 0 => ("AimTunnel$Sheets", "laneOf", "[I", true)
  | 1 => ("AimTunnel$Sheets", "size", "[I", true)
  | _ => ("AimTunnel$Sheets", "cells", "[I", true)
def tyX1 : Nat → FieldType := fun k => match k with
  | 0 => .array .int
  | 1 => .array .int
  | _ => .array .int
abbrev wsX10 : List Cond := u_ws RX1 TX1 3
theorem nmX1 : ∀ a, a < 3 → ∀ b, b < 3 → a ≠ b → (TX1 a).2.1 ≠ (TX1 b).2.1 := by decide +kernel
theorem tyX1_ok : ∀ k, k < 3 → parseFieldDescriptor (TX1 k).2.2.1 = some (tyX1 k) := by decide +kernel
abbrev cX1_init : ByteArray := prog_3_method_1_code
def yX1_init : MethodName := ⟨RX1, "<init>", "()V"⟩
abbrev cX1_isSheet : ByteArray := prog_3_method_2_code
def yX1_isSheet : MethodName := ⟨RX1, "isSheet", "(I)Z"⟩
abbrev cX1_isLane : ByteArray := prog_3_method_3_code
def yX1_isLane : MethodName := ⟨RX1, "isLane", "(I)Z"⟩
abbrev cX1_isThere : ByteArray := prog_3_method_4_code
def yX1_isThere : MethodName := ⟨RX1, "isThere", "(I)Z"⟩
abbrev cX1_renew : ByteArray := prog_3_method_5_code
def yX1_renew : MethodName := ⟨RX1, "renew", "(III)V"⟩
abbrev cX1_faultAt : ByteArray := prog_3_method_6_code
def yX1_faultAt : MethodName := ⟨RX1, "faultAt", "(II)I"⟩
abbrev cX1_faultOfPair : ByteArray := prog_3_method_7_code
def yX1_faultOfPair : MethodName := ⟨RX1, "faultOfPair", "(III)I"⟩
abbrev cX1_put : ByteArray := prog_3_method_8_code
def yX1_put : MethodName := ⟨RX1, "put", "(III)V"⟩
abbrev cX1_get : ByteArray := prog_3_method_9_code
def yX1_get : MethodName := ⟨RX1, "get", "(II)I"⟩
def RX2 : String := "AimTunnel$Tape"
def TX2 : u_T := fun k => match k with
  | 0 => ("AimTunnel$Tape", "bytes", "[B", true)
  | 1 => ("AimTunnel$Tape", "length", "I", false)
  | 2 => ("AimTunnel$Tape", "place", "I", false)
  | 3 => ("AimTunnel$Tape", "fault", "I", false)
  | 4 => ("AimTunnel$Tape", "next", "I", false)
  | 5 => ("AimTunnel$Tape", "sort", "I", false)
  | _ => ("AimTunnel$Tape", "faithTold", "I", false)
def tyX2 : Nat → FieldType := fun k => match k with
  | 0 => .array .byte
  | 1 => .int
  | 2 => .int
  | 3 => .int
  | 4 => .int
  | 5 => .int
  | _ => .int
abbrev wsX20 : List Cond := u_ws RX2 TX2 7
theorem nmX2 : ∀ a, a < 7 → ∀ b, b < 7 → a ≠ b → (TX2 a).2.1 ≠ (TX2 b).2.1 := by decide +kernel
theorem tyX2_ok : ∀ k, k < 7 → parseFieldDescriptor (TX2 k).2.2.1 = some (tyX2 k) := by decide +kernel
abbrev cX2_init : ByteArray := prog_4_method_1_code
def yX2_init : MethodName := ⟨RX2, "<init>", "()V"⟩
abbrev cX2_append : ByteArray := prog_4_method_2_code
def yX2_append : MethodName := ⟨RX2, "append", "(I)Z"⟩
abbrev cX2_rewind : ByteArray := prog_4_method_3_code
def yX2_rewind : MethodName := ⟨RX2, "rewind", "()V"⟩
abbrev cX2_hasLine : ByteArray := prog_4_method_4_code
def yX2_hasLine : MethodName := ⟨RX2, "hasLine", "()Z"⟩
abbrev cX2_takeEnd : ByteArray := prog_4_method_5_code
def yX2_takeEnd : MethodName := ⟨RX2, "takeEnd", "(LAimTunnel$Ground;)V"⟩
abbrev cX2_readToken : ByteArray := prog_4_method_6_code
def yX2_readToken : MethodName := ⟨RX2, "readToken", "()V"⟩
abbrev cX2_sortAt : ByteArray := prog_4_method_7_code
def yX2_sortAt : MethodName := ⟨RX2, "sortAt", "(I)I"⟩
abbrev cX2_takeLine : ByteArray := prog_4_method_8_code
def yX2_takeLine : MethodName := ⟨RX2, "takeLine", "(LAimTunnel$Ground;)V"⟩
abbrev cX2_lineNamed : ByteArray := prog_4_method_9_code
def yX2_lineNamed : MethodName := ⟨RX2, "lineNamed", "()I"⟩
abbrev cX2_nameOf : ByteArray := prog_4_method_10_code
def yX2_nameOf : MethodName := ⟨RX2, "nameOf", "(I)Ljava/lang/String;"⟩
abbrev cX2_isSpelled : ByteArray := prog_4_method_11_code
def yX2_isSpelled : MethodName := ⟨RX2, "isSpelled", "(Ljava/lang/String;)Z"⟩
abbrev cX2_isFull : ByteArray := prog_4_method_12_code
def yX2_isFull : MethodName := ⟨RX2, "isFull", "(LAimTunnel$Ground;I)Z"⟩
abbrev cX2_takeDigger : ByteArray := prog_4_method_13_code
def yX2_takeDigger : MethodName := ⟨RX2, "takeDigger", "(LAimTunnel$Ground;I)V"⟩
abbrev cX2_takeRock : ByteArray := prog_4_method_14_code
def yX2_takeRock : MethodName := ⟨RX2, "takeRock", "(LAimTunnel$Ground;)V"⟩
abbrev cX2_takeFaith : ByteArray := prog_4_method_15_code
def yX2_takeFaith : MethodName := ⟨RX2, "takeFaith", "(LAimTunnel$Ground;)V"⟩
abbrev cX2_takeWord : ByteArray := prog_4_method_16_code
def yX2_takeWord : MethodName := ⟨RX2, "takeWord", "(LAimTunnel$Ground;)V"⟩
abbrev cX2_takeToken : ByteArray := prog_4_method_17_code
def yX2_takeToken : MethodName := ⟨RX2, "takeToken", "(I)Z"⟩
abbrev cX2_takeNumber : ByteArray := prog_4_method_18_code
def yX2_takeNumber : MethodName := ⟨RX2, "takeNumber", "(I)I"⟩
abbrev cX2_takeCell : ByteArray := prog_4_method_19_code
def yX2_takeCell : MethodName := ⟨RX2, "takeCell", "()I"⟩
abbrev cX2_valueRead : ByteArray := prog_4_method_20_code
def yX2_valueRead : MethodName := ⟨RX2, "valueRead", "()I"⟩
def RX3 : String := "AimTunnel"
def TX3 : u_T := fun k => match k with
  | 0 => ("AimTunnel", "now", "LAimTunnel$Ground;", true)
  | 1 => ("AimTunnel", "trial", "LAimTunnel$Ground;", true)
  | 2 => ("AimTunnel", "branch", "LAimTunnel$Ground;", true)
  | 3 => ("AimTunnel", "image0", "LAimTunnel$Ground;", true)
  | 4 => ("AimTunnel", "image1", "LAimTunnel$Ground;", true)
  | 5 => ("AimTunnel", "keptImages", "I", false)
  | 6 => ("AimTunnel", "tape", "LAimTunnel$Tape;", true)
  | 7 => ("AimTunnel", "sheets", "LAimTunnel$Sheets;", true)
  | 8 => ("AimTunnel", "textFault", "I", false)
  | 9 => ("AimTunnel", "readFault", "I", false)
  | 10 => ("AimTunnel", "history", "[J", true)
  | 11 => ("AimTunnel", "tally", "[I", true)
  | _ => ("AimTunnel", "tried", "[Z", true)
def tyX3 : Nat → FieldType := fun k => match k with
  | 0 => .object "AimTunnel$Ground"
  | 1 => .object "AimTunnel$Ground"
  | 2 => .object "AimTunnel$Ground"
  | 3 => .object "AimTunnel$Ground"
  | 4 => .object "AimTunnel$Ground"
  | 5 => .int
  | 6 => .object "AimTunnel$Tape"
  | 7 => .object "AimTunnel$Sheets"
  | 8 => .int
  | 9 => .int
  | 10 => .array .long
  | 11 => .array .int
  | _ => .array .boolean
abbrev wsX30 : List Cond := u_ws RX3 TX3 13
theorem nmX3 : ∀ a, a < 13 → ∀ b, b < 13 → a ≠ b → (TX3 a).2.1 ≠ (TX3 b).2.1 := by decide +kernel
theorem tyX3_ok : ∀ k, k < 13 → parseFieldDescriptor (TX3 k).2.2.1 = some (tyX3 k) := by decide +kernel
abbrev cX3_init : ByteArray := prog_1_method_1_code
def yX3_init : MethodName := ⟨RX3, "<init>", "()V"⟩
abbrev cX3_feed : ByteArray := prog_1_method_2_code
def yX3_feed : MethodName := ⟨RX3, "feed", "(I)I"⟩
abbrev cX3_end : ByteArray := prog_1_method_3_code
def yX3_end : MethodName := ⟨RX3, "end", "(I)I"⟩
abbrev cX3_text : ByteArray := prog_1_method_4_code
def yX3_text : MethodName := ⟨RX3, "text", "()I"⟩
abbrev cX3_fault : ByteArray := prog_1_method_5_code
def yX3_fault : MethodName := ⟨RX3, "fault", "()I"⟩
abbrev cX3_rule : ByteArray := prog_1_method_6_code
def yX3_rule : MethodName := ⟨RX3, "rule", "(I)I"⟩
abbrev cX3_digger : ByteArray := prog_1_method_7_code
def yX3_digger : MethodName := ⟨RX3, "digger", "(II)I"⟩
abbrev cX3_rock : ByteArray := prog_1_method_8_code
def yX3_rock : MethodName := ⟨RX3, "rock", "(I)I"⟩
abbrev cX3_word : ByteArray := prog_1_method_9_code
def yX3_word : MethodName := ⟨RX3, "word", "(II)I"⟩
abbrev cX3_alter : ByteArray := prog_1_method_10_code
def yX3_alter : MethodName := ⟨RX3, "alter", "(III)I"⟩
abbrev cX3_stone : ByteArray := prog_1_method_11_code
def yX3_stone : MethodName := ⟨RX3, "stone", "(IZ)I"⟩
abbrev cX3_tell : ByteArray := prog_1_method_12_code
def yX3_tell : MethodName := ⟨RX3, "tell", "(III)I"⟩
abbrev cX3_hush : ByteArray := prog_1_method_13_code
def yX3_hush : MethodName := ⟨RX3, "hush", "(I)I"⟩
abbrev cX3_dig : ByteArray := prog_1_method_14_code
def yX3_dig : MethodName := ⟨RX3, "dig", "(I)I"⟩
abbrev cX3_runs : ByteArray := prog_1_method_15_code
def yX3_runs : MethodName := ⟨RX3, "runs", "(II)I"⟩
abbrev cX3_ahead : ByteArray := prog_1_method_16_code
def yX3_ahead : MethodName := ⟨RX3, "ahead", "(II)I"⟩
abbrev cX3_reaches : ByteArray := prog_1_method_17_code
def yX3_reaches : MethodName := ⟨RX3, "reaches", "(II)I"⟩
abbrev cX3_meet : ByteArray := prog_1_method_18_code
def yX3_meet : MethodName := ⟨RX3, "meet", "(II)I"⟩
abbrev cX3_ring : ByteArray := prog_1_method_19_code
def yX3_ring : MethodName := ⟨RX3, "ring", "(I)I"⟩
abbrev cX3_aim : ByteArray := prog_1_method_20_code
def yX3_aim : MethodName := ⟨RX3, "aim", "(IIII)I"⟩
abbrev cX3_words : ByteArray := prog_1_method_21_code
def yX3_words : MethodName := ⟨RX3, "words", "(II)I"⟩
abbrev cX3_spread : ByteArray := prog_1_method_22_code
def yX3_spread : MethodName := ⟨RX3, "spread", "(II)I"⟩
abbrev cX3_block : ByteArray := prog_1_method_23_code
def yX3_block : MethodName := ⟨RX3, "block", "(II)I"⟩
abbrev cX3_tryAim : ByteArray := prog_1_method_24_code
def yX3_tryAim : MethodName := ⟨RX3, "tryAim", "(II)V"⟩
abbrev cX3_oneWordLeads : ByteArray := prog_1_method_25_code
def yX3_oneWordLeads : MethodName := ⟨RX3, "oneWordLeads", "(II)Z"⟩
abbrev cX3_secondWordLeads : ByteArray := prog_1_method_26_code
def yX3_secondWordLeads : MethodName := ⟨RX3, "secondWordLeads", "(III)Z"⟩
abbrev cX3_wordOnTrialLeads : ByteArray := prog_1_method_27_code
def yX3_wordOnTrialLeads : MethodName := ⟨RX3, "wordOnTrialLeads", "(III)Z"⟩
abbrev cX3_luck : ByteArray := prog_1_method_28_code
def yX3_luck : MethodName := ⟨RX3, "luck", "(IIII)J"⟩
abbrev cX3_mean : ByteArray := prog_1_method_29_code
def yX3_mean : MethodName := ⟨RX3, "mean", "(III)J"⟩
abbrev cX3_weightedUps : ByteArray := prog_1_method_30_code
def yX3_weightedUps : MethodName := ⟨RX3, "weightedUps", "(III)J"⟩
abbrev cX3_weightOf : ByteArray := prog_1_method_31_code
def yX3_weightOf : MethodName := ⟨RX3, "weightOf", "(II)J"⟩
abbrev cX3_tenths : ByteArray := prog_1_method_32_code
def yX3_tenths : MethodName := ⟨RX3, "tenths", "()J"⟩
abbrev cX3_lowestTerms : ByteArray := prog_1_method_33_code
def yX3_lowestTerms : MethodName := ⟨RX3, "lowestTerms", "(JJI)J"⟩
abbrev cX3_see : ByteArray := prog_1_method_34_code
def yX3_see : MethodName := ⟨RX3, "see", "(III)I"⟩
abbrev cX3_forget : ByteArray := prog_1_method_35_code
def yX3_forget : MethodName := ⟨RX3, "forget", "(I)I"⟩
abbrev cX3_aims : ByteArray := prog_1_method_36_code
def yX3_aims : MethodName := ⟨RX3, "aims", "(II)I"⟩
abbrev cX3_kinds : ByteArray := prog_1_method_37_code
def yX3_kinds : MethodName := ⟨RX3, "kinds", "(I)I"⟩
abbrev cX3_look : ByteArray := prog_1_method_38_code
def yX3_look : MethodName := ⟨RX3, "look", "(II)I"⟩
abbrev cX3_aimFits : ByteArray := prog_1_method_39_code
def yX3_aimFits : MethodName := ⟨RX3, "aimFits", "(II)Z"⟩
abbrev cX3_tallyAims : ByteArray := prog_1_method_40_code
def yX3_tallyAims : MethodName := ⟨RX3, "tallyAims", "(I)I"⟩
abbrev cX3_mostInOneCell : ByteArray := prog_1_method_41_code
def yX3_mostInOneCell : MethodName := ⟨RX3, "mostInOneCell", "(I)I"⟩
abbrev cX3_drift : ByteArray := prog_1_method_42_code
def yX3_drift : MethodName := ⟨RX3, "drift", "(III)I"⟩
abbrev cX3_keep : ByteArray := prog_1_method_43_code
def yX3_keep : MethodName := ⟨RX3, "keep", "(I)I"⟩
abbrev cX3_back : ByteArray := prog_1_method_44_code
def yX3_back : MethodName := ⟨RX3, "back", "(I)I"⟩
abbrev cX3_image : ByteArray := prog_1_method_45_code
def yX3_image : MethodName := ⟨RX3, "image", "(I)LAimTunnel$Ground;"⟩
abbrev cX3_sheet : ByteArray := prog_1_method_46_code
def yX3_sheet : MethodName := ⟨RX3, "sheet", "(III)I"⟩
abbrev cX3_lay : ByteArray := prog_1_method_47_code
def yX3_lay : MethodName := ⟨RX3, "lay", "(III)I"⟩
abbrev cX3_read : ByteArray := prog_1_method_48_code
def yX3_read : MethodName := ⟨RX3, "read", "(IIII)I"⟩
abbrev cX3_torn : ByteArray := prog_1_method_49_code
def yX3_torn : MethodName := ⟨RX3, "torn", "()I"⟩
abbrev cX3_count : ByteArray := prog_1_method_50_code
def yX3_count : MethodName := ⟨RX3, "count", "(I)I"⟩
abbrev cX3_within : ByteArray := prog_1_method_51_code
def yX3_within : MethodName := ⟨RX3, "within", "(III)Z"⟩
abbrev cX3_cellOf : ByteArray := prog_1_method_52_code
def yX3_cellOf : MethodName := ⟨RX3, "cellOf", "(I)I"⟩
abbrev cX3_numberOf : ByteArray := prog_1_method_53_code
def yX3_numberOf : MethodName := ⟨RX3, "numberOf", "(I)I"⟩
def RX4 : String := "AimTunnelModel"
def TX4 : u_T := fun k => match k with
  | 0 => ("AimTunnelModel", "st", "[I", true)
  | 1 => ("AimTunnelModel", "now", "[I", true)
  | 2 => ("AimTunnelModel", "isKept", "[Z", true)
  | 3 => ("AimTunnelModel", "diggers", "I", false)
  | 4 => ("AimTunnelModel", "draft", "[I", true)
  | 5 => ("AimTunnelModel", "dDiggers", "I", false)
  | 6 => ("AimTunnelModel", "dRocks", "I", false)
  | 7 => ("AimTunnelModel", "believers", "I", false)
  | 8 => ("AimTunnelModel", "faiths", "[I", true)
  | 9 => ("AimTunnelModel", "highest", "I", false)
  | 10 => ("AimTunnelModel", "tape", "[I", true)
  | 11 => ("AimTunnelModel", "taped", "I", false)
  | 12 => ("AimTunnelModel", "pos", "I", false)
  | 13 => ("AimTunnelModel", "from", "I", false)
  | 14 => ("AimTunnelModel", "sort", "I", false)
  | 15 => ("AimTunnelModel", "value", "I", false)
  | 16 => ("AimTunnelModel", "fault", "I", false)
  | 17 => ("AimTunnelModel", "wrongAt", "I", false)
  | 18 => ("AimTunnelModel", "trail", "[I", true)
  | 19 => ("AimTunnelModel", "isThere", "[Z", true)
  | 20 => ("AimTunnelModel", "upSum", "J", false)
  | 21 => ("AimTunnelModel", "manySum", "J", false)
  | 22 => ("AimTunnelModel", "allWays", "J", false)
  | 23 => ("AimTunnelModel", "cellsAt", "[I", true)
  | 24 => ("AimTunnelModel", "ways", "[I", true)
  | 25 => ("AimTunnelModel", "lanes", "[I", true)
  | 26 => ("AimTunnelModel", "sizes", "[I", true)
  | 27 => ("AimTunnelModel", "cells", "[I", true)
  | 28 => ("AimTunnelModel", "torn", "I", false)
  | _ => ("AimTunnelModel", "had", "[I", true)
def tyX4 : Nat → FieldType := fun k => match k with
  | 0 => .array .int
  | 1 => .array .int
  | 2 => .array .boolean
  | 3 => .int
  | 4 => .array .int
  | 5 => .int
  | 6 => .int
  | 7 => .int
  | 8 => .array .int
  | 9 => .int
  | 10 => .array .int
  | 11 => .int
  | 12 => .int
  | 13 => .int
  | 14 => .int
  | 15 => .int
  | 16 => .int
  | 17 => .int
  | 18 => .array .int
  | 19 => .array .boolean
  | 20 => .long
  | 21 => .long
  | 22 => .long
  | 23 => .array .int
  | 24 => .array .int
  | 25 => .array .int
  | 26 => .array .int
  | 27 => .array .int
  | 28 => .int
  | _ => .array .int
abbrev wsX40 : List Cond := u_ws RX4 TX4 30
theorem nmX4 : ∀ a, a < 30 → ∀ b, b < 30 → a ≠ b → (TX4 a).2.1 ≠ (TX4 b).2.1 := by decide +kernel
theorem tyX4_ok : ∀ k, k < 30 → parseFieldDescriptor (TX4 k).2.2.1 = some (tyX4 k) := by decide +kernel
abbrev cX4_init : ByteArray := prog_6_method_1_code
def yX4_init : MethodName := ⟨RX4, "<init>", "()V"⟩
abbrev cX4_in : ByteArray := prog_6_method_3_code
def yX4_in : MethodName := ⟨RX4, "in", "(JJJ)Z"⟩
abbrev cX4_flag : ByteArray := prog_6_method_4_code
def yX4_flag : MethodName := ⟨RX4, "flag", "(Z)I"⟩
abbrev cX4_isCell : ByteArray := prog_6_method_5_code
def yX4_isCell : MethodName := ⟨RX4, "isCell", "(I)Z"⟩
abbrev cX4_firstDraft : ByteArray := prog_6_method_6_code
def yX4_firstDraft : MethodName := ⟨RX4, "firstDraft", "()V"⟩
abbrev cX4_keepDraft : ByteArray := prog_6_method_7_code
def yX4_keepDraft : MethodName := ⟨RX4, "keepDraft", "()V"⟩
abbrev cX4_feed : ByteArray := prog_6_method_8_code
def yX4_feed : MethodName := ⟨RX4, "feed", "(I)I"⟩
abbrev cX4_end : ByteArray := prog_6_method_9_code
def yX4_end : MethodName := ⟨RX4, "end", "(I)I"⟩
abbrev cX4_needs : ByteArray := prog_6_method_10_code
def yX4_needs : MethodName := ⟨RX4, "needs", "(ZI)V"⟩
abbrev cX4_byteAt : ByteArray := prog_6_method_11_code
def yX4_byteAt : MethodName := ⟨RX4, "byteAt", "(I)I"⟩
abbrev cX4_is : ByteArray := prog_6_method_12_code
def yX4_is : MethodName := ⟨RX4, "is", "(IIII)Z"⟩
abbrev cX4_ends : ByteArray := prog_6_method_13_code
def yX4_ends : MethodName := ⟨RX4, "ends", "(II)Z"⟩
abbrev cX4_lineNow : ByteArray := prog_6_method_14_code
def yX4_lineNow : MethodName := ⟨RX4, "lineNow", "()I"⟩
abbrev cX4_takes : ByteArray := prog_6_method_15_code
def yX4_takes : MethodName := ⟨RX4, "takes", "()V"⟩
abbrev cX4_looked : ByteArray := prog_6_method_16_code
def yX4_looked : MethodName := ⟨RX4, "looked", "(II)I"⟩
abbrev cX4_lookedCell : ByteArray := prog_6_method_17_code
def yX4_lookedCell : MethodName := ⟨RX4, "lookedCell", "()I"⟩
abbrev cX4_readNumber : ByteArray := prog_6_method_18_code
def yX4_readNumber : MethodName := ⟨RX4, "readNumber", "(II)I"⟩
abbrev cX4_readCell : ByteArray := prog_6_method_19_code
def yX4_readCell : MethodName := ⟨RX4, "readCell", "()I"⟩
abbrev cX4_readDigger : ByteArray := prog_6_method_20_code
def yX4_readDigger : MethodName := ⟨RX4, "readDigger", "(I)V"⟩
abbrev cX4_readRock : ByteArray := prog_6_method_21_code
def yX4_readRock : MethodName := ⟨RX4, "readRock", "()V"⟩
abbrev cX4_readFaith : ByteArray := prog_6_method_22_code
def yX4_readFaith : MethodName := ⟨RX4, "readFaith", "()V"⟩
abbrev cX4_readWord : ByteArray := prog_6_method_23_code
def yX4_readWord : MethodName := ⟨RX4, "readWord", "()V"⟩
abbrev cX4_readLineOf : ByteArray := prog_6_method_24_code
def yX4_readLineOf : MethodName := ⟨RX4, "readLineOf", "(I)V"⟩
abbrev cX4_hasRoom : ByteArray := prog_6_method_25_code
def yX4_hasRoom : MethodName := ⟨RX4, "hasRoom", "(I)Z"⟩
abbrev cX4_readLine : ByteArray := prog_6_method_26_code
def yX4_readLine : MethodName := ⟨RX4, "readLine", "()V"⟩
abbrev cX4_text : ByteArray := prog_6_method_27_code
def yX4_text : MethodName := ⟨RX4, "text", "()I"⟩
abbrev cX4_fault : ByteArray := prog_6_method_28_code
def yX4_fault : MethodName := ⟨RX4, "fault", "()I"⟩
abbrev cX4_isDigger : ByteArray := prog_6_method_29_code
def yX4_isDigger : MethodName := ⟨RX4, "isDigger", "(I)Z"⟩
abbrev cX4_isPart : ByteArray := prog_6_method_30_code
def yX4_isPart : MethodName := ⟨RX4, "isPart", "(I)Z"⟩
abbrev cX4_starts : ByteArray := prog_6_method_31_code
def yX4_starts : MethodName := ⟨RX4, "starts", "()V"⟩
abbrev cX4_settles : ByteArray := prog_6_method_32_code
def yX4_settles : MethodName := ⟨RX4, "settles", "()V"⟩
abbrev cX4_of : ByteArray := prog_6_method_33_code
def yX4_of : MethodName := ⟨RX4, "of", "(II)I"⟩
abbrev cX4_becomesOf : ByteArray := prog_6_method_34_code
def yX4_becomesOf : MethodName := ⟨RX4, "becomesOf", "(III)V"⟩
abbrev cX4_isRock : ByteArray := prog_6_method_35_code
def yX4_isRock : MethodName := ⟨RX4, "isRock", "(II)Z"⟩
abbrev cX4_wordsCome : ByteArray := prog_6_method_36_code
def yX4_wordsCome : MethodName := ⟨RX4, "wordsCome", "()V"⟩
abbrev cX4_wanted : ByteArray := prog_6_method_37_code
def yX4_wanted : MethodName := ⟨RX4, "wanted", "(I)I"⟩
abbrev cX4_turns : ByteArray := prog_6_method_38_code
def yX4_turns : MethodName := ⟨RX4, "turns", "(I)Z"⟩
abbrev cX4_steps : ByteArray := prog_6_method_39_code
def yX4_steps : MethodName := ⟨RX4, "steps", "(I)V"⟩
abbrev cX4_footGoes : ByteArray := prog_6_method_40_code
def yX4_footGoes : MethodName := ⟨RX4, "footGoes", "()V"⟩
abbrev cX4_feetGo : ByteArray := prog_6_method_41_code
def yX4_feetGo : MethodName := ⟨RX4, "feetGo", "(I)V"⟩
abbrev cX4_up : ByteArray := prog_6_method_42_code
def yX4_up : MethodName := ⟨RX4, "up", "()I"⟩
abbrev cX4_faithless : ByteArray := prog_6_method_43_code
def yX4_faithless : MethodName := ⟨RX4, "faithless", "()I"⟩
abbrev cX4_doMeet : ByteArray := prog_6_method_44_code
def yX4_doMeet : MethodName := ⟨RX4, "doMeet", "(II)Z"⟩
abbrev cX4_meetings : ByteArray := prog_6_method_45_code
def yX4_meetings : MethodName := ⟨RX4, "meetings", "()I"⟩
abbrev cX4_bitsOf : ByteArray := prog_6_method_46_code
def yX4_bitsOf : MethodName := ⟨RX4, "bitsOf", "(I)I"⟩
abbrev cX4_rocks : ByteArray := prog_6_method_47_code
def yX4_rocks : MethodName := ⟨RX4, "rocks", "()I"⟩
abbrev cX4_rule : ByteArray := prog_6_method_48_code
def yX4_rule : MethodName := ⟨RX4, "rule", "(I)I"⟩
abbrev cX4_digger : ByteArray := prog_6_method_49_code
def yX4_digger : MethodName := ⟨RX4, "digger", "(II)I"⟩
abbrev cX4_rock : ByteArray := prog_6_method_50_code
def yX4_rock : MethodName := ⟨RX4, "rock", "(I)I"⟩
abbrev cX4_word : ByteArray := prog_6_method_51_code
def yX4_word : MethodName := ⟨RX4, "word", "(II)I"⟩
abbrev cX4_becomes : ByteArray := prog_6_method_52_code
def yX4_becomes : MethodName := ⟨RX4, "becomes", "(II)I"⟩
abbrev cX4_isUp : ByteArray := prog_6_method_53_code
def yX4_isUp : MethodName := ⟨RX4, "isUp", "(I)Z"⟩
abbrev cX4_canBe : ByteArray := prog_6_method_54_code
def yX4_canBe : MethodName := ⟨RX4, "canBe", "(II)Z"⟩
abbrev cX4_alter : ByteArray := prog_6_method_55_code
def yX4_alter : MethodName := ⟨RX4, "alter", "(III)I"⟩
abbrev cX4_isTaken : ByteArray := prog_6_method_56_code
def yX4_isTaken : MethodName := ⟨RX4, "isTaken", "(I)Z"⟩
abbrev cX4_stone : ByteArray := prog_6_method_57_code
def yX4_stone : MethodName := ⟨RX4, "stone", "(IZ)I"⟩
abbrev cX4_tell : ByteArray := prog_6_method_58_code
def yX4_tell : MethodName := ⟨RX4, "tell", "(III)I"⟩
abbrev cX4_hush : ByteArray := prog_6_method_59_code
def yX4_hush : MethodName := ⟨RX4, "hush", "(I)I"⟩
abbrev cX4_dig : ByteArray := prog_6_method_60_code
def yX4_dig : MethodName := ⟨RX4, "dig", "(I)I"⟩
abbrev cX4_runs : ByteArray := prog_6_method_61_code
def yX4_runs : MethodName := ⟨RX4, "runs", "(II)I"⟩
abbrev cX4_ahead : ByteArray := prog_6_method_62_code
def yX4_ahead : MethodName := ⟨RX4, "ahead", "(II)I"⟩
abbrev cX4_feetTo : ByteArray := prog_6_method_63_code
def yX4_feetTo : MethodName := ⟨RX4, "feetTo", "(III)I"⟩
abbrev cX4_reaches : ByteArray := prog_6_method_64_code
def yX4_reaches : MethodName := ⟨RX4, "reaches", "(II)I"⟩
abbrev cX4_meet : ByteArray := prog_6_method_65_code
def yX4_meet : MethodName := ⟨RX4, "meet", "(II)I"⟩
abbrev cX4_isAgain : ByteArray := prog_6_method_66_code
def yX4_isAgain : MethodName := ⟨RX4, "isAgain", "(II)Z"⟩
abbrev cX4_ring : ByteArray := prog_6_method_67_code
def yX4_ring : MethodName := ⟨RX4, "ring", "(I)I"⟩
abbrev cX4_cellAt : ByteArray := prog_6_method_68_code
def yX4_cellAt : MethodName := ⟨RX4, "cellAt", "(I)I"⟩
abbrev cX4_startsAimed : ByteArray := prog_6_method_69_code
def yX4_startsAimed : MethodName := ⟨RX4, "startsAimed", "(II)V"⟩
abbrev cX4_aim : ByteArray := prog_6_method_70_code
def yX4_aim : MethodName := ⟨RX4, "aim", "(IIII)I"⟩
abbrev cX4_comesBy : ByteArray := prog_6_method_71_code
def yX4_comesBy : MethodName := ⟨RX4, "comesBy", "(IIIII)Z"⟩
abbrev cX4_comesByTwo : ByteArray := prog_6_method_72_code
def yX4_comesByTwo : MethodName := ⟨RX4, "comesByTwo", "(II)Z"⟩
abbrev cX4_words : ByteArray := prog_6_method_73_code
def yX4_words : MethodName := ⟨RX4, "words", "(II)I"⟩
abbrev cX4_spread : ByteArray := prog_6_method_74_code
def yX4_spread : MethodName := ⟨RX4, "spread", "(II)I"⟩
abbrev cX4_block : ByteArray := prog_6_method_75_code
def yX4_block : MethodName := ⟨RX4, "block", "(II)I"⟩
abbrev cX4_common : ByteArray := prog_6_method_76_code
def yX4_common : MethodName := ⟨RX4, "common", "(JJ)J"⟩
abbrev cX4_told : ByteArray := prog_6_method_77_code
def yX4_told : MethodName := ⟨RX4, "told", "(JJI)J"⟩
abbrev cX4_findOdds : ByteArray := prog_6_method_78_code
def yX4_findOdds : MethodName := ⟨RX4, "findOdds", "(III)V"⟩
abbrev cX4_luck : ByteArray := prog_6_method_79_code
def yX4_luck : MethodName := ⟨RX4, "luck", "(IIII)J"⟩
abbrev cX4_mean : ByteArray := prog_6_method_80_code
def yX4_mean : MethodName := ⟨RX4, "mean", "(III)J"⟩
abbrev cX4_see : ByteArray := prog_6_method_81_code
def yX4_see : MethodName := ⟨RX4, "see", "(III)I"⟩
abbrev cX4_forget : ByteArray := prog_6_method_82_code
def yX4_forget : MethodName := ⟨RX4, "forget", "(I)I"⟩
abbrev cX4_isSo : ByteArray := prog_6_method_83_code
def yX4_isSo : MethodName := ⟨RX4, "isSo", "()Z"⟩
abbrev cX4_aims : ByteArray := prog_6_method_84_code
def yX4_aims : MethodName := ⟨RX4, "aims", "(II)I"⟩
abbrev cX4_kinds : ByteArray := prog_6_method_85_code
def yX4_kinds : MethodName := ⟨RX4, "kinds", "(I)I"⟩
abbrev cX4_look : ByteArray := prog_6_method_86_code
def yX4_look : MethodName := ⟨RX4, "look", "(II)I"⟩
abbrev cX4_drift : ByteArray := prog_6_method_87_code
def yX4_drift : MethodName := ⟨RX4, "drift", "(III)I"⟩
abbrev cX4_copies : ByteArray := prog_6_method_88_code
def yX4_copies : MethodName := ⟨RX4, "copies", "(II)V"⟩
abbrev cX4_keep : ByteArray := prog_6_method_89_code
def yX4_keep : MethodName := ⟨RX4, "keep", "(I)I"⟩
abbrev cX4_back : ByteArray := prog_6_method_90_code
def yX4_back : MethodName := ⟨RX4, "back", "(I)I"⟩
abbrev cX4_isSheet : ByteArray := prog_6_method_91_code
def yX4_isSheet : MethodName := ⟨RX4, "isSheet", "(II)Z"⟩
abbrev cX4_sheet : ByteArray := prog_6_method_92_code
def yX4_sheet : MethodName := ⟨RX4, "sheet", "(III)I"⟩
abbrev cX4_lay : ByteArray := prog_6_method_93_code
def yX4_lay : MethodName := ⟨RX4, "lay", "(III)I"⟩
abbrev cX4_read : ByteArray := prog_6_method_94_code
def yX4_read : MethodName := ⟨RX4, "read", "(IIII)I"⟩
abbrev cX4_torn : ByteArray := prog_6_method_95_code
def yX4_torn : MethodName := ⟨RX4, "torn", "()I"⟩
abbrev cX4_count : ByteArray := prog_6_method_96_code
def yX4_count : MethodName := ⟨RX4, "count", "(I)I"⟩
def RJ6 : String := "java/lang/Integer"
def TJ6 : u_T := fun k => match k with
  | _ => ("", "", "", false)
def tyJ6 : Nat → FieldType := fun k => match k with
  | _ => .int
abbrev wsJ60 : List Cond := u_ws RJ6 TJ6 0
theorem nmJ6 : ∀ a, a < 0 → ∀ b, b < 0 → a ≠ b → (TJ6 a).2.1 ≠ (TJ6 b).2.1 := by decide +kernel
theorem tyJ6_ok : ∀ k, k < 0 → parseFieldDescriptor (TJ6 k).2.2.1 = some (tyJ6 k) := by decide +kernel
abbrev cJ6_bitCount_0f7a4 : ByteArray := prog_7_method_49_code
def yJ6_bitCount_0f7a4 : MethodName := ⟨RJ6, "bitCount", "(I)I"⟩
def RJ13 : String := "java/lang/Long"
def TJ13 : u_T := fun k => match k with
  | _ => ("", "", "", false)
def tyJ13 : Nat → FieldType := fun k => match k with
  | _ => .int
abbrev wsJ130 : List Cond := u_ws RJ13 TJ13 0
theorem nmJ13 : ∀ a, a < 0 → ∀ b, b < 0 → a ≠ b → (TJ13 a).2.1 ≠ (TJ13 b).2.1 := by decide +kernel
theorem tyJ13_ok : ∀ k, k < 0 → parseFieldDescriptor (TJ13 k).2.2.1 = some (tyJ13 k) := by decide +kernel
abbrev cJ13_bitCount_95d88 : ByteArray := prog_8_method_50_code
def yJ13_bitCount_95d88 : MethodName := ⟨RJ13, "bitCount", "(J)I"⟩
def RJ9 : String := "java/lang/Math"
def TJ9 : u_T := fun k => match k with
  | _ => ("", "", "", false)
def tyJ9 : Nat → FieldType := fun k => match k with
  | _ => .int
abbrev wsJ90 : List Cond := u_ws RJ9 TJ9 0
theorem nmJ9 : ∀ a, a < 0 → ∀ b, b < 0 → a ≠ b → (TJ9 a).2.1 ≠ (TJ9 b).2.1 := by decide +kernel
theorem tyJ9_ok : ∀ k, k < 0 → parseFieldDescriptor (TJ9 k).2.2.1 = some (tyJ9 k) := by decide +kernel
abbrev cJ9_max_7cf53 : ByteArray := prog_9_method_65_code
def yJ9_max_7cf53 : MethodName := ⟨RJ9, "max", "(II)I"⟩
def RJ0 : String := "java/lang/String"
def TJ0 : u_T := fun k => match k with
  | _ => ("", "", "", false)
def tyJ0 : Nat → FieldType := fun k => match k with
  | _ => .int
abbrev wsJ00 : List Cond := u_ws RJ0 TJ0 0
theorem nmJ0 : ∀ a, a < 0 → ∀ b, b < 0 → a ≠ b → (TJ0 a).2.1 ≠ (TJ0 b).2.1 := by decide +kernel
theorem tyJ0_ok : ∀ k, k < 0 → parseFieldDescriptor (TJ0 k).2.2.1 = some (tyJ0 k) := by decide +kernel
abbrev cJ0_length_8abf5 : ByteArray := prog_10_method_54_code
def yJ0_length_8abf5 : MethodName := ⟨RJ0, "length", "()I"⟩
abbrev cJ0_charAt_5068e : ByteArray := prog_10_method_56_code
def yJ0_charAt_5068e : MethodName := ⟨RJ0, "charAt", "(I)C"⟩
abbrev cJ0_coder_7d493 : ByteArray := prog_10_method_152_code
def yJ0_coder_7d493 : MethodName := ⟨RJ0, "coder", "()B"⟩
abbrev cJ0_isLatin1_aae02 : ByteArray := prog_10_method_154_code
def yJ0_isLatin1_aae02 : MethodName := ⟨RJ0, "isLatin1", "()Z"⟩
abbrev cJ0_checkIndex_df160 : ByteArray := prog_10_method_155_code
def yJ0_checkIndex_df160 : MethodName := ⟨RJ0, "checkIndex", "(II)V"⟩
def RJ1 : String := "java/lang/StringLatin1"
def TJ1 : u_T := fun k => match k with
  | _ => ("", "", "", false)
def tyJ1 : Nat → FieldType := fun k => match k with
  | _ => .int
abbrev wsJ10 : List Cond := u_ws RJ1 TJ1 0
theorem nmJ1 : ∀ a, a < 0 → ∀ b, b < 0 → a ≠ b → (TJ1 a).2.1 ≠ (TJ1 b).2.1 := by decide +kernel
theorem tyJ1_ok : ∀ k, k < 0 → parseFieldDescriptor (TJ1 k).2.2.1 = some (tyJ1 k) := by decide +kernel
abbrev cJ1_charAt_3b067 : ByteArray := prog_11_method_2_code
def yJ1_charAt_3b067 : MethodName := ⟨RJ1, "charAt", "([BI)C"⟩
def RJ2 : String := "java/lang/StringUTF16"
def TJ2 : u_T := fun k => match k with
  | _ => ("", "", "", false)
def tyJ2 : Nat → FieldType := fun k => match k with
  | _ => .int
abbrev wsJ20 : List Cond := u_ws RJ2 TJ2 0
theorem nmJ2 : ∀ a, a < 0 → ∀ b, b < 0 → a ≠ b → (TJ2 a).2.1 ≠ (TJ2 b).2.1 := by decide +kernel
theorem tyJ2_ok : ∀ k, k < 0 → parseFieldDescriptor (TJ2 k).2.2.1 = some (tyJ2 k) := by decide +kernel
abbrev cJ2_getChar_3b067 : ByteArray := prog_12_method_5_code
def yJ2_getChar_3b067 : MethodName := ⟨RJ2, "getChar", "([BI)C"⟩
abbrev cJ2_length_9d52b : ByteArray := prog_12_method_6_code
def yJ2_length_9d52b : MethodName := ⟨RJ2, "length", "([B)I"⟩
abbrev cJ2_charAt_3b067 : ByteArray := prog_12_method_83_code
def yJ2_charAt_3b067 : MethodName := ⟨RJ2, "charAt", "([BI)C"⟩
abbrev cJ2_checkIndex_2214a : ByteArray := prog_12_method_91_code
def yJ2_checkIndex_2214a : MethodName := ⟨RJ2, "checkIndex", "(I[B)V"⟩
def RJ3 : String := "jdk/internal/util/Preconditions"
def TJ3 : u_T := fun k => match k with
  | _ => ("", "", "", false)
def tyJ3 : Nat → FieldType := fun k => match k with
  | _ => .int
abbrev wsJ30 : List Cond := u_ws RJ3 TJ3 0
theorem nmJ3 : ∀ a, a < 0 → ∀ b, b < 0 → a ≠ b → (TJ3 a).2.1 ≠ (TJ3 b).2.1 := by decide +kernel
theorem tyJ3_ok : ∀ k, k < 0 → parseFieldDescriptor (TJ3 k).2.2.1 = some (tyJ3 k) := by decide +kernel
abbrev cJ3_checkIndex_8e157 : ByteArray := prog_13_method_11_code
def yJ3_checkIndex_8e157 : MethodName := ⟨RJ3, "checkIndex", "(IILjava/util/function/BiFunction;)I"⟩
abbrev vwCl : List vw_C := [(RX0, TX0, 17), (RX1, TX1, 3), (RX2, TX2, 7), (RX3, TX3, 13), (RX4, TX4, 30)]
