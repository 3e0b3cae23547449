section
-- ===== PART A: goes FIRST, ahead of the names: the tables' words, and 'selects' of the private methods out of them =====
/-- a private method of a class that the tables say can be made, by its rows of tables_1 -/
def lw_okq (q : MethodName × Nat) : Prop := (q.1.cls ≠ "java/lang/invoke/MethodHandle" ∧ q.1.cls ≠ "java/lang/invoke/VarHandle") ∧ Cond.instantiable q.1.cls q.2 ∈ tables_1 ∧ Cond.privateMethod q.1 ∈ tables_1 ∧ Cond.instanceMethod q.1 ∈ tables_1
theorem lw_p0 : lw_okq (⟨"CableNames", "hostThatIsOn", "(I)LCableNames$Host;"⟩, 10) := ⟨⟨by decide +kernel, by decide +kernel⟩, List.mem_of_getElem? (i := 22) (by decide +kernel), List.mem_of_getElem? (i := 532) (by decide +kernel), List.mem_of_getElem? (i := 533) (by decide +kernel)⟩
theorem lw_p1 : lw_okq (⟨"CableNames", "tellAll", "(LCableNames$Host;I)V"⟩, 10) := ⟨⟨by decide +kernel, by decide +kernel⟩, List.mem_of_getElem? (i := 22) (by decide +kernel), List.mem_of_getElem? (i := 536) (by decide +kernel), List.mem_of_getElem? (i := 537) (by decide +kernel)⟩
theorem lw_p2 : lw_okq (⟨"CableNames", "newPacket", "(LCableNames$Host;I)LCableNames$Packet;"⟩, 10) := ⟨⟨by decide +kernel, by decide +kernel⟩, List.mem_of_getElem? (i := 22) (by decide +kernel), List.mem_of_getElem? (i := 540) (by decide +kernel), List.mem_of_getElem? (i := 541) (by decide +kernel)⟩
theorem lw_p3 : lw_okq (⟨"CableNames", "send", "(LCableNames$Packet;)V"⟩, 10) := ⟨⟨by decide +kernel, by decide +kernel⟩, List.mem_of_getElem? (i := 22) (by decide +kernel), List.mem_of_getElem? (i := 570) (by decide +kernel), List.mem_of_getElem? (i := 571) (by decide +kernel)⟩
theorem lw_p4 : lw_okq (⟨"CableNames", "tapeIsWord", "()Z"⟩, 10) := ⟨⟨by decide +kernel, by decide +kernel⟩, List.mem_of_getElem? (i := 22) (by decide +kernel), List.mem_of_getElem? (i := 578) (by decide +kernel), List.mem_of_getElem? (i := 579) (by decide +kernel)⟩
theorem lw_p5 : lw_okq (⟨"CableNames", "moveTapeTo", "(LCableNames$Word;)V"⟩, 10) := ⟨⟨by decide +kernel, by decide +kernel⟩, List.mem_of_getElem? (i := 22) (by decide +kernel), List.mem_of_getElem? (i := 589) (by decide +kernel), List.mem_of_getElem? (i := 590) (by decide +kernel)⟩
theorem lw_p6 : lw_okq (⟨"CableNames", "openQuestion", "(II)LCableNames$Question;"⟩, 10) := ⟨⟨by decide +kernel, by decide +kernel⟩, List.mem_of_getElem? (i := 22) (by decide +kernel), List.mem_of_getElem? (i := 634) (by decide +kernel), List.mem_of_getElem? (i := 635) (by decide +kernel)⟩
theorem lw_p7 : lw_okq (⟨"CableNames$Reader", "readByte", "(LCableNames$Packet;)I"⟩, 9) := ⟨⟨by decide +kernel, by decide +kernel⟩, List.mem_of_getElem? (i := 65) (by decide +kernel), List.mem_of_getElem? (i := 650) (by decide +kernel), List.mem_of_getElem? (i := 651) (by decide +kernel)⟩
theorem lw_p8 : lw_okq (⟨"CableNames$Reader", "readClaim", "(LCableNames$Packet;)V"⟩, 9) := ⟨⟨by decide +kernel, by decide +kernel⟩, List.mem_of_getElem? (i := 65) (by decide +kernel), List.mem_of_getElem? (i := 654) (by decide +kernel), List.mem_of_getElem? (i := 655) (by decide +kernel)⟩
theorem lw_p9 : lw_okq (⟨"CableNames$Reader", "readAddress", "(LCableNames$Packet;)I"⟩, 9) := ⟨⟨by decide +kernel, by decide +kernel⟩, List.mem_of_getElem? (i := 65) (by decide +kernel), List.mem_of_getElem? (i := 658) (by decide +kernel), List.mem_of_getElem? (i := 659) (by decide +kernel)⟩
theorem lw_p10 : lw_okq (⟨"CableNames$Reader", "readPair", "(LCableNames$Packet;)I"⟩, 9) := ⟨⟨by decide +kernel, by decide +kernel⟩, List.mem_of_getElem? (i := 65) (by decide +kernel), List.mem_of_getElem? (i := 662) (by decide +kernel), List.mem_of_getElem? (i := 663) (by decide +kernel)⟩
theorem lw_p11 : lw_okq (⟨"CableNames$Reader", "readWord", "(LCableNames$Packet;LCableNames$Word;)V"⟩, 9) := ⟨⟨by decide +kernel, by decide +kernel⟩, List.mem_of_getElem? (i := 65) (by decide +kernel), List.mem_of_getElem? (i := 667) (by decide +kernel), List.mem_of_getElem? (i := 668) (by decide +kernel)⟩
theorem lw_p12 : lw_okq (⟨"CableNames$Reader", "readWordAgain", "(LCableNames$Packet;LCableNames$Word;I)V"⟩, 9) := ⟨⟨by decide +kernel, by decide +kernel⟩, List.mem_of_getElem? (i := 65) (by decide +kernel), List.mem_of_getElem? (i := 672) (by decide +kernel), List.mem_of_getElem? (i := 673) (by decide +kernel)⟩
theorem lw_p13 : lw_okq (⟨"CableNames$Reader", "readAsk", "(LCableNames$Packet;)V"⟩, 9) := ⟨⟨by decide +kernel, by decide +kernel⟩, List.mem_of_getElem? (i := 65) (by decide +kernel), List.mem_of_getElem? (i := 684) (by decide +kernel), List.mem_of_getElem? (i := 685) (by decide +kernel)⟩
theorem lw_p14 : lw_okq (⟨"CableNames$Reader", "readSort", "(LCableNames$Packet;)I"⟩, 9) := ⟨⟨by decide +kernel, by decide +kernel⟩, List.mem_of_getElem? (i := 65) (by decide +kernel), List.mem_of_getElem? (i := 688) (by decide +kernel), List.mem_of_getElem? (i := 689) (by decide +kernel)⟩
theorem lw_p15 : lw_okq (⟨"CableNames$Reader", "readUpTo", "(LCableNames$Packet;I)I"⟩, 9) := ⟨⟨by decide +kernel, by decide +kernel⟩, List.mem_of_getElem? (i := 65) (by decide +kernel), List.mem_of_getElem? (i := 692) (by decide +kernel), List.mem_of_getElem? (i := 693) (by decide +kernel)⟩
def lw_privs_1 : List (MethodName × Nat) := [(⟨"CableNames", "hostThatIsOn", "(I)LCableNames$Host;"⟩, 10), (⟨"CableNames", "tellAll", "(LCableNames$Host;I)V"⟩, 10), (⟨"CableNames", "newPacket", "(LCableNames$Host;I)LCableNames$Packet;"⟩, 10), (⟨"CableNames", "send", "(LCableNames$Packet;)V"⟩, 10), (⟨"CableNames", "tapeIsWord", "()Z"⟩, 10), (⟨"CableNames", "moveTapeTo", "(LCableNames$Word;)V"⟩, 10), (⟨"CableNames", "openQuestion", "(II)LCableNames$Question;"⟩, 10), (⟨"CableNames$Reader", "readByte", "(LCableNames$Packet;)I"⟩, 9), (⟨"CableNames$Reader", "readClaim", "(LCableNames$Packet;)V"⟩, 9), (⟨"CableNames$Reader", "readAddress", "(LCableNames$Packet;)I"⟩, 9), (⟨"CableNames$Reader", "readPair", "(LCableNames$Packet;)I"⟩, 9), (⟨"CableNames$Reader", "readWord", "(LCableNames$Packet;LCableNames$Word;)V"⟩, 9), (⟨"CableNames$Reader", "readWordAgain", "(LCableNames$Packet;LCableNames$Word;I)V"⟩, 9), (⟨"CableNames$Reader", "readAsk", "(LCableNames$Packet;)V"⟩, 9), (⟨"CableNames$Reader", "readSort", "(LCableNames$Packet;)I"⟩, 9), (⟨"CableNames$Reader", "readUpTo", "(LCableNames$Packet;I)I"⟩, 9)]
theorem lw_r1 : ∀ q ∈ lw_privs_1, lw_okq q := List.forall_mem_cons.mpr ⟨lw_p0, List.forall_mem_cons.mpr ⟨lw_p1, List.forall_mem_cons.mpr ⟨lw_p2, List.forall_mem_cons.mpr ⟨lw_p3, List.forall_mem_cons.mpr ⟨lw_p4, List.forall_mem_cons.mpr ⟨lw_p5, List.forall_mem_cons.mpr ⟨lw_p6, List.forall_mem_cons.mpr ⟨lw_p7, List.forall_mem_cons.mpr ⟨lw_p8, List.forall_mem_cons.mpr ⟨lw_p9, List.forall_mem_cons.mpr ⟨lw_p10, List.forall_mem_cons.mpr ⟨lw_p11, List.forall_mem_cons.mpr ⟨lw_p12, List.forall_mem_cons.mpr ⟨lw_p13, List.forall_mem_cons.mpr ⟨lw_p14, List.forall_mem_cons.mpr ⟨lw_p15, fun _ h => absurd h List.not_mem_nil⟩⟩⟩⟩⟩⟩⟩⟩⟩⟩⟩⟩⟩⟩⟩⟩
theorem lw_p16 : lw_okq (⟨"CableNames$Reader", "readTelling", "(LCableNames$Packet;LCableNames$Told;I)V"⟩, 9) := ⟨⟨by decide +kernel, by decide +kernel⟩, List.mem_of_getElem? (i := 65) (by decide +kernel), List.mem_of_getElem? (i := 696) (by decide +kernel), List.mem_of_getElem? (i := 697) (by decide +kernel)⟩
theorem lw_p17 : lw_okq (⟨"CableNames$Reader", "readAnswer", "(LCableNames$Packet;)V"⟩, 9) := ⟨⟨by decide +kernel, by decide +kernel⟩, List.mem_of_getElem? (i := 65) (by decide +kernel), List.mem_of_getElem? (i := 700) (by decide +kernel), List.mem_of_getElem? (i := 701) (by decide +kernel)⟩
theorem lw_p18 : lw_okq (⟨"CableNames$Reader", "readLife", "(LCableNames$Packet;)I"⟩, 9) := ⟨⟨by decide +kernel, by decide +kernel⟩, List.mem_of_getElem? (i := 65) (by decide +kernel), List.mem_of_getElem? (i := 704) (by decide +kernel), List.mem_of_getElem? (i := 705) (by decide +kernel)⟩
theorem lw_p19 : lw_okq (⟨"CableNames", "hear", "(LCableNames$Host;Z)V"⟩, 10) := ⟨⟨by decide +kernel, by decide +kernel⟩, List.mem_of_getElem? (i := 22) (by decide +kernel), List.mem_of_getElem? (i := 708) (by decide +kernel), List.mem_of_getElem? (i := 709) (by decide +kernel)⟩
theorem lw_p20 : lw_okq (⟨"CableNames", "hearAddressProbe", "(LCableNames$Host;)V"⟩, 10) := ⟨⟨by decide +kernel, by decide +kernel⟩, List.mem_of_getElem? (i := 22) (by decide +kernel), List.mem_of_getElem? (i := 712) (by decide +kernel), List.mem_of_getElem? (i := 713) (by decide +kernel)⟩
theorem lw_p21 : lw_okq (⟨"CableNames", "sendAddress", "(LCableNames$Host;I)V"⟩, 10) := ⟨⟨by decide +kernel, by decide +kernel⟩, List.mem_of_getElem? (i := 22) (by decide +kernel), List.mem_of_getElem? (i := 716) (by decide +kernel), List.mem_of_getElem? (i := 717) (by decide +kernel)⟩
theorem lw_p22 : lw_okq (⟨"CableNames", "hearAddressTold", "(LCableNames$Host;)V"⟩, 10) := ⟨⟨by decide +kernel, by decide +kernel⟩, List.mem_of_getElem? (i := 22) (by decide +kernel), List.mem_of_getElem? (i := 726) (by decide +kernel), List.mem_of_getElem? (i := 727) (by decide +kernel)⟩
theorem lw_p23 : lw_okq (⟨"CableNames", "hearNameProbe", "(LCableNames$Host;)V"⟩, 10) := ⟨⟨by decide +kernel, by decide +kernel⟩, List.mem_of_getElem? (i := 22) (by decide +kernel), List.mem_of_getElem? (i := 735) (by decide +kernel), List.mem_of_getElem? (i := 736) (by decide +kernel)⟩
theorem lw_p24 : lw_okq (⟨"CableNames", "tellAddress", "(LCableNames$Host;)V"⟩, 10) := ⟨⟨by decide +kernel, by decide +kernel⟩, List.mem_of_getElem? (i := 22) (by decide +kernel), List.mem_of_getElem? (i := 747) (by decide +kernel), List.mem_of_getElem? (i := 748) (by decide +kernel)⟩
theorem lw_p25 : lw_okq (⟨"CableNames", "hearAsk", "(LCableNames$Host;)V"⟩, 10) := ⟨⟨by decide +kernel, by decide +kernel⟩, List.mem_of_getElem? (i := 22) (by decide +kernel), List.mem_of_getElem? (i := 757) (by decide +kernel), List.mem_of_getElem? (i := 758) (by decide +kernel)⟩
theorem lw_p26 : lw_okq (⟨"CableNames", "planReply", "(LCableNames$Host;)V"⟩, 10) := ⟨⟨by decide +kernel, by decide +kernel⟩, List.mem_of_getElem? (i := 22) (by decide +kernel), List.mem_of_getElem? (i := 779) (by decide +kernel), List.mem_of_getElem? (i := 780) (by decide +kernel)⟩
theorem lw_p27 : lw_okq (⟨"CableNames", "hasUntoldService", "(LCableNames$Host;)Z"⟩, 10) := ⟨⟨by decide +kernel, by decide +kernel⟩, List.mem_of_getElem? (i := 22) (by decide +kernel), List.mem_of_getElem? (i := 788) (by decide +kernel), List.mem_of_getElem? (i := 789) (by decide +kernel)⟩
theorem lw_p28 : lw_okq (⟨"CableNames", "hearAnswer", "(LCableNames$Host;)V"⟩, 10) := ⟨⟨by decide +kernel, by decide +kernel⟩, List.mem_of_getElem? (i := 22) (by decide +kernel), List.mem_of_getElem? (i := 803) (by decide +kernel), List.mem_of_getElem? (i := 804) (by decide +kernel)⟩
theorem lw_p29 : lw_okq (⟨"CableNames$Cache", "placeOf", "(LCableNames$Told;)I"⟩, 2) := ⟨⟨by decide +kernel, by decide +kernel⟩, List.mem_of_getElem? (i := 252) (by decide +kernel), List.mem_of_getElem? (i := 811) (by decide +kernel), List.mem_of_getElem? (i := 812) (by decide +kernel)⟩
theorem lw_p30 : lw_okq (⟨"CableNames$Entry", "plan", "()V"⟩, 10) := ⟨⟨by decide +kernel, by decide +kernel⟩, List.mem_of_getElem? (i := 259) (by decide +kernel), List.mem_of_getElem? (i := 828) (by decide +kernel), List.mem_of_getElem? (i := 829) (by decide +kernel)⟩
theorem lw_p31 : lw_okq (⟨"CableNames$Cache", "outdateOthers", "(LCableNames$Told;IJ)V"⟩, 2) := ⟨⟨by decide +kernel, by decide +kernel⟩, List.mem_of_getElem? (i := 252) (by decide +kernel), List.mem_of_getElem? (i := 842) (by decide +kernel), List.mem_of_getElem? (i := 843) (by decide +kernel)⟩
def lw_privs_2 : List (MethodName × Nat) := [(⟨"CableNames$Reader", "readTelling", "(LCableNames$Packet;LCableNames$Told;I)V"⟩, 9), (⟨"CableNames$Reader", "readAnswer", "(LCableNames$Packet;)V"⟩, 9), (⟨"CableNames$Reader", "readLife", "(LCableNames$Packet;)I"⟩, 9), (⟨"CableNames", "hear", "(LCableNames$Host;Z)V"⟩, 10), (⟨"CableNames", "hearAddressProbe", "(LCableNames$Host;)V"⟩, 10), (⟨"CableNames", "sendAddress", "(LCableNames$Host;I)V"⟩, 10), (⟨"CableNames", "hearAddressTold", "(LCableNames$Host;)V"⟩, 10), (⟨"CableNames", "hearNameProbe", "(LCableNames$Host;)V"⟩, 10), (⟨"CableNames", "tellAddress", "(LCableNames$Host;)V"⟩, 10), (⟨"CableNames", "hearAsk", "(LCableNames$Host;)V"⟩, 10), (⟨"CableNames", "planReply", "(LCableNames$Host;)V"⟩, 10), (⟨"CableNames", "hasUntoldService", "(LCableNames$Host;)Z"⟩, 10), (⟨"CableNames", "hearAnswer", "(LCableNames$Host;)V"⟩, 10), (⟨"CableNames$Cache", "placeOf", "(LCableNames$Told;)I"⟩, 2), (⟨"CableNames$Entry", "plan", "()V"⟩, 10), (⟨"CableNames$Cache", "outdateOthers", "(LCableNames$Told;IJ)V"⟩, 2)]
theorem lw_r2 : ∀ q ∈ lw_privs_2, lw_okq q := List.forall_mem_cons.mpr ⟨lw_p16, List.forall_mem_cons.mpr ⟨lw_p17, List.forall_mem_cons.mpr ⟨lw_p18, List.forall_mem_cons.mpr ⟨lw_p19, List.forall_mem_cons.mpr ⟨lw_p20, List.forall_mem_cons.mpr ⟨lw_p21, List.forall_mem_cons.mpr ⟨lw_p22, List.forall_mem_cons.mpr ⟨lw_p23, List.forall_mem_cons.mpr ⟨lw_p24, List.forall_mem_cons.mpr ⟨lw_p25, List.forall_mem_cons.mpr ⟨lw_p26, List.forall_mem_cons.mpr ⟨lw_p27, List.forall_mem_cons.mpr ⟨lw_p28, List.forall_mem_cons.mpr ⟨lw_p29, List.forall_mem_cons.mpr ⟨lw_p30, List.forall_mem_cons.mpr ⟨lw_p31, fun _ h => absurd h List.not_mem_nil⟩⟩⟩⟩⟩⟩⟩⟩⟩⟩⟩⟩⟩⟩⟩⟩
theorem lw_p32 : lw_okq (⟨"CableNames", "hearOfRival", "(LCableNames$Host;LCableNames$Word;)V"⟩, 10) := ⟨⟨by decide +kernel, by decide +kernel⟩, List.mem_of_getElem? (i := 22) (by decide +kernel), List.mem_of_getElem? (i := 851) (by decide +kernel), List.mem_of_getElem? (i := 852) (by decide +kernel)⟩
theorem lw_p33 : lw_okq (⟨"CableNames", "deliverFirst", "()V"⟩, 10) := ⟨⟨by decide +kernel, by decide +kernel⟩, List.mem_of_getElem? (i := 22) (by decide +kernel), List.mem_of_getElem? (i := 867) (by decide +kernel), List.mem_of_getElem? (i := 868) (by decide +kernel)⟩
theorem lw_p34 : lw_okq (⟨"CableNames", "actFirst", "()Z"⟩, 10) := ⟨⟨by decide +kernel, by decide +kernel⟩, List.mem_of_getElem? (i := 22) (by decide +kernel), List.mem_of_getElem? (i := 871) (by decide +kernel), List.mem_of_getElem? (i := 872) (by decide +kernel)⟩
theorem lw_p35 : lw_okq (⟨"CableNames", "act", "(LCableNames$Host;)Z"⟩, 10) := ⟨⟨by decide +kernel, by decide +kernel⟩, List.mem_of_getElem? (i := 22) (by decide +kernel), List.mem_of_getElem? (i := 875) (by decide +kernel), List.mem_of_getElem? (i := 876) (by decide +kernel)⟩
theorem lw_p36 : lw_okq (⟨"CableNames", "actAddress", "(LCableNames$Host;)V"⟩, 10) := ⟨⟨by decide +kernel, by decide +kernel⟩, List.mem_of_getElem? (i := 22) (by decide +kernel), List.mem_of_getElem? (i := 879) (by decide +kernel), List.mem_of_getElem? (i := 880) (by decide +kernel)⟩
theorem lw_p37 : lw_okq (⟨"CableNames", "actName", "(LCableNames$Host;)V"⟩, 10) := ⟨⟨by decide +kernel, by decide +kernel⟩, List.mem_of_getElem? (i := 22) (by decide +kernel), List.mem_of_getElem? (i := 888) (by decide +kernel), List.mem_of_getElem? (i := 889) (by decide +kernel)⟩
theorem lw_p38 : lw_okq (⟨"CableNames", "sendNameProbe", "(LCableNames$Host;)V"⟩, 10) := ⟨⟨by decide +kernel, by decide +kernel⟩, List.mem_of_getElem? (i := 22) (by decide +kernel), List.mem_of_getElem? (i := 892) (by decide +kernel), List.mem_of_getElem? (i := 893) (by decide +kernel)⟩
theorem lw_p39 : lw_okq (⟨"CableNames", "sendAsk", "(LCableNames$Host;LCableNames$Question;Z)V"⟩, 10) := ⟨⟨by decide +kernel, by decide +kernel⟩, List.mem_of_getElem? (i := 22) (by decide +kernel), List.mem_of_getElem? (i := 902) (by decide +kernel), List.mem_of_getElem? (i := 903) (by decide +kernel)⟩
theorem lw_p40 : lw_okq (⟨"CableNames", "tellType", "(LCableNames$Host;LCableNames$Word;)V"⟩, 10) := ⟨⟨by decide +kernel, by decide +kernel⟩, List.mem_of_getElem? (i := 22) (by decide +kernel), List.mem_of_getElem? (i := 916) (by decide +kernel), List.mem_of_getElem? (i := 917) (by decide +kernel)⟩
theorem lw_p41 : lw_okq (⟨"CableNames", "actEntry", "(LCableNames$Host;I)V"⟩, 10) := ⟨⟨by decide +kernel, by decide +kernel⟩, List.mem_of_getElem? (i := 22) (by decide +kernel), List.mem_of_getElem? (i := 928) (by decide +kernel), List.mem_of_getElem? (i := 929) (by decide +kernel)⟩
theorem lw_p42 : lw_okq (⟨"CableNames", "nextDue", "()J"⟩, 10) := ⟨⟨by decide +kernel, by decide +kernel⟩, List.mem_of_getElem? (i := 22) (by decide +kernel), List.mem_of_getElem? (i := 945) (by decide +kernel), List.mem_of_getElem? (i := 946) (by decide +kernel)⟩
theorem lw_p43 : lw_okq (⟨"java/lang/Throwable", "fillInStackTrace", "(I)Ljava/lang/Throwable;"⟩, 6) := ⟨⟨by decide +kernel, by decide +kernel⟩, List.mem_of_getElem? (i := 1062) (by decide +kernel), List.mem_of_getElem? (i := 1060) (by decide +kernel), List.mem_of_getElem? (i := 1061) (by decide +kernel)⟩
theorem lw_p44 : lw_okq (⟨"CableNamesModel", "millisecond", "()V"⟩, 68) := ⟨⟨by decide +kernel, by decide +kernel⟩, List.mem_of_getElem? (i := 1116) (by decide +kernel), List.mem_of_getElem? (i := 1346) (by decide +kernel), List.mem_of_getElem? (i := 1347) (by decide +kernel)⟩
theorem lw_p45 : lw_okq (⟨"CableNamesModel", "takes", "(I)Z"⟩, 68) := ⟨⟨by decide +kernel, by decide +kernel⟩, List.mem_of_getElem? (i := 1116) (by decide +kernel), List.mem_of_getElem? (i := 1350) (by decide +kernel), List.mem_of_getElem? (i := 1351) (by decide +kernel)⟩
theorem lw_p46 : lw_okq (⟨"CableNamesModel", "take", "(I)I"⟩, 68) := ⟨⟨by decide +kernel, by decide +kernel⟩, List.mem_of_getElem? (i := 1116) (by decide +kernel), List.mem_of_getElem? (i := 1354) (by decide +kernel), List.mem_of_getElem? (i := 1355) (by decide +kernel)⟩
theorem lw_p47 : lw_okq (⟨"CableNamesModel", "takeWord", "([II)V"⟩, 68) := ⟨⟨by decide +kernel, by decide +kernel⟩, List.mem_of_getElem? (i := 1116) (by decide +kernel), List.mem_of_getElem? (i := 1358) (by decide +kernel), List.mem_of_getElem? (i := 1359) (by decide +kernel)⟩
def lw_privs_3 : List (MethodName × Nat) := [(⟨"CableNames", "hearOfRival", "(LCableNames$Host;LCableNames$Word;)V"⟩, 10), (⟨"CableNames", "deliverFirst", "()V"⟩, 10), (⟨"CableNames", "actFirst", "()Z"⟩, 10), (⟨"CableNames", "act", "(LCableNames$Host;)Z"⟩, 10), (⟨"CableNames", "actAddress", "(LCableNames$Host;)V"⟩, 10), (⟨"CableNames", "actName", "(LCableNames$Host;)V"⟩, 10), (⟨"CableNames", "sendNameProbe", "(LCableNames$Host;)V"⟩, 10), (⟨"CableNames", "sendAsk", "(LCableNames$Host;LCableNames$Question;Z)V"⟩, 10), (⟨"CableNames", "tellType", "(LCableNames$Host;LCableNames$Word;)V"⟩, 10), (⟨"CableNames", "actEntry", "(LCableNames$Host;I)V"⟩, 10), (⟨"CableNames", "nextDue", "()J"⟩, 10), (⟨"java/lang/Throwable", "fillInStackTrace", "(I)Ljava/lang/Throwable;"⟩, 6), (⟨"CableNamesModel", "millisecond", "()V"⟩, 68), (⟨"CableNamesModel", "takes", "(I)Z"⟩, 68), (⟨"CableNamesModel", "take", "(I)I"⟩, 68), (⟨"CableNamesModel", "takeWord", "([II)V"⟩, 68)]
theorem lw_r3 : ∀ q ∈ lw_privs_3, lw_okq q := List.forall_mem_cons.mpr ⟨lw_p32, List.forall_mem_cons.mpr ⟨lw_p33, List.forall_mem_cons.mpr ⟨lw_p34, List.forall_mem_cons.mpr ⟨lw_p35, List.forall_mem_cons.mpr ⟨lw_p36, List.forall_mem_cons.mpr ⟨lw_p37, List.forall_mem_cons.mpr ⟨lw_p38, List.forall_mem_cons.mpr ⟨lw_p39, List.forall_mem_cons.mpr ⟨lw_p40, List.forall_mem_cons.mpr ⟨lw_p41, List.forall_mem_cons.mpr ⟨lw_p42, List.forall_mem_cons.mpr ⟨lw_p43, List.forall_mem_cons.mpr ⟨lw_p44, List.forall_mem_cons.mpr ⟨lw_p45, List.forall_mem_cons.mpr ⟨lw_p46, List.forall_mem_cons.mpr ⟨lw_p47, fun _ h => absurd h List.not_mem_nil⟩⟩⟩⟩⟩⟩⟩⟩⟩⟩⟩⟩⟩⟩⟩⟩
theorem lw_p48 : lw_okq (⟨"CableNamesModel", "takeAddress", "()I"⟩, 68) := ⟨⟨by decide +kernel, by decide +kernel⟩, List.mem_of_getElem? (i := 1116) (by decide +kernel), List.mem_of_getElem? (i := 1365) (by decide +kernel), List.mem_of_getElem? (i := 1366) (by decide +kernel)⟩
theorem lw_p49 : lw_okq (⟨"CableNamesModel", "takeTold", "(II)V"⟩, 68) := ⟨⟨by decide +kernel, by decide +kernel⟩, List.mem_of_getElem? (i := 1116) (by decide +kernel), List.mem_of_getElem? (i := 1370) (by decide +kernel), List.mem_of_getElem? (i := 1371) (by decide +kernel)⟩
theorem lw_p50 : lw_okq (⟨"CableNamesModel", "aprobe", "(III)V"⟩, 68) := ⟨⟨by decide +kernel, by decide +kernel⟩, List.mem_of_getElem? (i := 1116) (by decide +kernel), List.mem_of_getElem? (i := 1374) (by decide +kernel), List.mem_of_getElem? (i := 1375) (by decide +kernel)⟩
theorem lw_p51 : lw_okq (⟨"CableNamesModel", "address", "(I)I"⟩, 68) := ⟨⟨by decide +kernel, by decide +kernel⟩, List.mem_of_getElem? (i := 1116) (by decide +kernel), List.mem_of_getElem? (i := 1378) (by decide +kernel), List.mem_of_getElem? (i := 1379) (by decide +kernel)⟩
theorem lw_p52 : lw_okq (⟨"CableNamesModel", "sendAddress", "(II)V"⟩, 68) := ⟨⟨by decide +kernel, by decide +kernel⟩, List.mem_of_getElem? (i := 1116) (by decide +kernel), List.mem_of_getElem? (i := 1385) (by decide +kernel), List.mem_of_getElem? (i := 1386) (by decide +kernel)⟩
theorem lw_p53 : lw_okq (⟨"CableNamesModel", "begin", "(I)V"⟩, 68) := ⟨⟨by decide +kernel, by decide +kernel⟩, List.mem_of_getElem? (i := 1116) (by decide +kernel), List.mem_of_getElem? (i := 1389) (by decide +kernel), List.mem_of_getElem? (i := 1390) (by decide +kernel)⟩
theorem lw_p54 : lw_okq (⟨"CableNamesModel", "put", "(II)V"⟩, 68) := ⟨⟨by decide +kernel, by decide +kernel⟩, List.mem_of_getElem? (i := 1116) (by decide +kernel), List.mem_of_getElem? (i := 1393) (by decide +kernel), List.mem_of_getElem? (i := 1394) (by decide +kernel)⟩
theorem lw_p55 : lw_okq (⟨"CableNamesModel", "send", "(I)V"⟩, 68) := ⟨⟨by decide +kernel, by decide +kernel⟩, List.mem_of_getElem? (i := 1116) (by decide +kernel), List.mem_of_getElem? (i := 1397) (by decide +kernel), List.mem_of_getElem? (i := 1398) (by decide +kernel)⟩
theorem lw_p56 : lw_okq (⟨"CableNamesModel", "movesOn", "(I)V"⟩, 68) := ⟨⟨by decide +kernel, by decide +kernel⟩, List.mem_of_getElem? (i := 1116) (by decide +kernel), List.mem_of_getElem? (i := 1401) (by decide +kernel), List.mem_of_getElem? (i := 1402) (by decide +kernel)⟩
theorem lw_p57 : lw_okq (⟨"CableNamesModel", "probes", "(I)V"⟩, 68) := ⟨⟨by decide +kernel, by decide +kernel⟩, List.mem_of_getElem? (i := 1116) (by decide +kernel), List.mem_of_getElem? (i := 1405) (by decide +kernel), List.mem_of_getElem? (i := 1406) (by decide +kernel)⟩
theorem lw_p58 : lw_okq (⟨"CableNamesModel", "atell", "(III)V"⟩, 68) := ⟨⟨by decide +kernel, by decide +kernel⟩, List.mem_of_getElem? (i := 1116) (by decide +kernel), List.mem_of_getElem? (i := 1413) (by decide +kernel), List.mem_of_getElem? (i := 1414) (by decide +kernel)⟩
theorem lw_p59 : lw_okq (⟨"CableNamesModel", "nprobe", "(II)V"⟩, 68) := ⟨⟨by decide +kernel, by decide +kernel⟩, List.mem_of_getElem? (i := 1116) (by decide +kernel), List.mem_of_getElem? (i := 1418) (by decide +kernel), List.mem_of_getElem? (i := 1419) (by decide +kernel)⟩
theorem lw_p60 : lw_okq (⟨"CableNamesModel", "tells", "(IIZ)V"⟩, 68) := ⟨⟨by decide +kernel, by decide +kernel⟩, List.mem_of_getElem? (i := 1116) (by decide +kernel), List.mem_of_getElem? (i := 1429) (by decide +kernel), List.mem_of_getElem? (i := 1430) (by decide +kernel)⟩
theorem lw_p61 : lw_okq (⟨"CableNamesModel", "putOwn", "(II)V"⟩, 68) := ⟨⟨by decide +kernel, by decide +kernel⟩, List.mem_of_getElem? (i := 1116) (by decide +kernel), List.mem_of_getElem? (i := 1433) (by decide +kernel), List.mem_of_getElem? (i := 1434) (by decide +kernel)⟩
theorem lw_p62 : lw_okq (⟨"CableNamesModel", "putWord", "([II)V"⟩, 68) := ⟨⟨by decide +kernel, by decide +kernel⟩, List.mem_of_getElem? (i := 1116) (by decide +kernel), List.mem_of_getElem? (i := 1437) (by decide +kernel), List.mem_of_getElem? (i := 1438) (by decide +kernel)⟩
theorem lw_p63 : lw_okq (⟨"CableNamesModel", "putService", "(III)V"⟩, 68) := ⟨⟨by decide +kernel, by decide +kernel⟩, List.mem_of_getElem? (i := 1116) (by decide +kernel), List.mem_of_getElem? (i := 1447) (by decide +kernel), List.mem_of_getElem? (i := 1448) (by decide +kernel)⟩
def lw_privs_4 : List (MethodName × Nat) := [(⟨"CableNamesModel", "takeAddress", "()I"⟩, 68), (⟨"CableNamesModel", "takeTold", "(II)V"⟩, 68), (⟨"CableNamesModel", "aprobe", "(III)V"⟩, 68), (⟨"CableNamesModel", "address", "(I)I"⟩, 68), (⟨"CableNamesModel", "sendAddress", "(II)V"⟩, 68), (⟨"CableNamesModel", "begin", "(I)V"⟩, 68), (⟨"CableNamesModel", "put", "(II)V"⟩, 68), (⟨"CableNamesModel", "send", "(I)V"⟩, 68), (⟨"CableNamesModel", "movesOn", "(I)V"⟩, 68), (⟨"CableNamesModel", "probes", "(I)V"⟩, 68), (⟨"CableNamesModel", "atell", "(III)V"⟩, 68), (⟨"CableNamesModel", "nprobe", "(II)V"⟩, 68), (⟨"CableNamesModel", "tells", "(IIZ)V"⟩, 68), (⟨"CableNamesModel", "putOwn", "(II)V"⟩, 68), (⟨"CableNamesModel", "putWord", "([II)V"⟩, 68), (⟨"CableNamesModel", "putService", "(III)V"⟩, 68)]
theorem lw_r4 : ∀ q ∈ lw_privs_4, lw_okq q := List.forall_mem_cons.mpr ⟨lw_p48, List.forall_mem_cons.mpr ⟨lw_p49, List.forall_mem_cons.mpr ⟨lw_p50, List.forall_mem_cons.mpr ⟨lw_p51, List.forall_mem_cons.mpr ⟨lw_p52, List.forall_mem_cons.mpr ⟨lw_p53, List.forall_mem_cons.mpr ⟨lw_p54, List.forall_mem_cons.mpr ⟨lw_p55, List.forall_mem_cons.mpr ⟨lw_p56, List.forall_mem_cons.mpr ⟨lw_p57, List.forall_mem_cons.mpr ⟨lw_p58, List.forall_mem_cons.mpr ⟨lw_p59, List.forall_mem_cons.mpr ⟨lw_p60, List.forall_mem_cons.mpr ⟨lw_p61, List.forall_mem_cons.mpr ⟨lw_p62, List.forall_mem_cons.mpr ⟨lw_p63, fun _ h => absurd h List.not_mem_nil⟩⟩⟩⟩⟩⟩⟩⟩⟩⟩⟩⟩⟩⟩⟩⟩
theorem lw_p64 : lw_okq (⟨"CableNamesModel", "ask1", "(II)V"⟩, 68) := ⟨⟨by decide +kernel, by decide +kernel⟩, List.mem_of_getElem? (i := 1116) (by decide +kernel), List.mem_of_getElem? (i := 1452) (by decide +kernel), List.mem_of_getElem? (i := 1453) (by decide +kernel)⟩
theorem lw_p65 : lw_okq (⟨"CableNamesModel", "record", "(II)V"⟩, 68) := ⟨⟨by decide +kernel, by decide +kernel⟩, List.mem_of_getElem? (i := 1116) (by decide +kernel), List.mem_of_getElem? (i := 1460) (by decide +kernel), List.mem_of_getElem? (i := 1461) (by decide +kernel)⟩
theorem lw_p66 : lw_okq (⟨"CableNamesModel", "renames", "(I)V"⟩, 68) := ⟨⟨by decide +kernel, by decide +kernel⟩, List.mem_of_getElem? (i := 1116) (by decide +kernel), List.mem_of_getElem? (i := 1464) (by decide +kernel), List.mem_of_getElem? (i := 1465) (by decide +kernel)⟩
theorem lw_p67 : lw_okq (⟨"CableNamesModel", "probesName", "(I)V"⟩, 68) := ⟨⟨by decide +kernel, by decide +kernel⟩, List.mem_of_getElem? (i := 1116) (by decide +kernel), List.mem_of_getElem? (i := 1468) (by decide +kernel), List.mem_of_getElem? (i := 1469) (by decide +kernel)⟩
theorem lw_p68 : lw_okq (⟨"CableNamesModel", "dies", "(I)V"⟩, 68) := ⟨⟨by decide +kernel, by decide +kernel⟩, List.mem_of_getElem? (i := 1116) (by decide +kernel), List.mem_of_getElem? (i := 1474) (by decide +kernel), List.mem_of_getElem? (i := 1475) (by decide +kernel)⟩
theorem lw_p69 : lw_okq (⟨"CableNamesModel", "acts", "()Z"⟩, 68) := ⟨⟨by decide +kernel, by decide +kernel⟩, List.mem_of_getElem? (i := 1116) (by decide +kernel), List.mem_of_getElem? (i := 1478) (by decide +kernel), List.mem_of_getElem? (i := 1479) (by decide +kernel)⟩
theorem lw_p70 : lw_okq (⟨"CableNamesModel", "address1", "(I)V"⟩, 68) := ⟨⟨by decide +kernel, by decide +kernel⟩, List.mem_of_getElem? (i := 1116) (by decide +kernel), List.mem_of_getElem? (i := 1482) (by decide +kernel), List.mem_of_getElem? (i := 1483) (by decide +kernel)⟩
theorem lw_p71 : lw_okq (⟨"CableNamesModel", "name1", "(I)V"⟩, 68) := ⟨⟨by decide +kernel, by decide +kernel⟩, List.mem_of_getElem? (i := 1116) (by decide +kernel), List.mem_of_getElem? (i := 1487) (by decide +kernel), List.mem_of_getElem? (i := 1488) (by decide +kernel)⟩
theorem lw_p72 : lw_okq (⟨"CableNamesModel", "asks", "(I)V"⟩, 68) := ⟨⟨by decide +kernel, by decide +kernel⟩, List.mem_of_getElem? (i := 1116) (by decide +kernel), List.mem_of_getElem? (i := 1491) (by decide +kernel), List.mem_of_getElem? (i := 1492) (by decide +kernel)⟩
theorem lw_p73 : lw_okq (⟨"CableNamesModel", "sendAsk", "(II[IIZ)V"⟩, 68) := ⟨⟨by decide +kernel, by decide +kernel⟩, List.mem_of_getElem? (i := 1116) (by decide +kernel), List.mem_of_getElem? (i := 1495) (by decide +kernel), List.mem_of_getElem? (i := 1496) (by decide +kernel)⟩
theorem lw_p74 : lw_okq (⟨"CableNamesModel", "replies1", "(II)V"⟩, 68) := ⟨⟨by decide +kernel, by decide +kernel⟩, List.mem_of_getElem? (i := 1116) (by decide +kernel), List.mem_of_getElem? (i := 1500) (by decide +kernel), List.mem_of_getElem? (i := 1501) (by decide +kernel)⟩
theorem lw_p75 : lw_okq (⟨"CableNamesModel", "entryDue", "(I)J"⟩, 68) := ⟨⟨by decide +kernel, by decide +kernel⟩, List.mem_of_getElem? (i := 1116) (by decide +kernel), List.mem_of_getElem? (i := 1504) (by decide +kernel), List.mem_of_getElem? (i := 1505) (by decide +kernel)⟩
theorem lw_p76 : lw_okq (⟨"CableNamesModel", "entry1", "(II)V"⟩, 68) := ⟨⟨by decide +kernel, by decide +kernel⟩, List.mem_of_getElem? (i := 1116) (by decide +kernel), List.mem_of_getElem? (i := 1508) (by decide +kernel), List.mem_of_getElem? (i := 1509) (by decide +kernel)⟩
theorem lw_p77 : lw_okq (⟨"CableNamesModel", "nextDue", "()J"⟩, 68) := ⟨⟨by decide +kernel, by decide +kernel⟩, List.mem_of_getElem? (i := 1116) (by decide +kernel), List.mem_of_getElem? (i := 1512) (by decide +kernel), List.mem_of_getElem? (i := 1513) (by decide +kernel)⟩
theorem lw_p78 : lw_okq (⟨"CableNamesModel", "isHost", "(I)Z"⟩, 68) := ⟨⟨by decide +kernel, by decide +kernel⟩, List.mem_of_getElem? (i := 1116) (by decide +kernel), List.mem_of_getElem? (i := 1520) (by decide +kernel), List.mem_of_getElem? (i := 1521) (by decide +kernel)⟩
theorem lw_p79 : lw_okq (⟨"CableNamesModel", "forgets", "(I)V"⟩, 68) := ⟨⟨by decide +kernel, by decide +kernel⟩, List.mem_of_getElem? (i := 1116) (by decide +kernel), List.mem_of_getElem? (i := 1525) (by decide +kernel), List.mem_of_getElem? (i := 1526) (by decide +kernel)⟩
def lw_privs_5 : List (MethodName × Nat) := [(⟨"CableNamesModel", "ask1", "(II)V"⟩, 68), (⟨"CableNamesModel", "record", "(II)V"⟩, 68), (⟨"CableNamesModel", "renames", "(I)V"⟩, 68), (⟨"CableNamesModel", "probesName", "(I)V"⟩, 68), (⟨"CableNamesModel", "dies", "(I)V"⟩, 68), (⟨"CableNamesModel", "acts", "()Z"⟩, 68), (⟨"CableNamesModel", "address1", "(I)V"⟩, 68), (⟨"CableNamesModel", "name1", "(I)V"⟩, 68), (⟨"CableNamesModel", "asks", "(I)V"⟩, 68), (⟨"CableNamesModel", "sendAsk", "(II[IIZ)V"⟩, 68), (⟨"CableNamesModel", "replies1", "(II)V"⟩, 68), (⟨"CableNamesModel", "entryDue", "(I)J"⟩, 68), (⟨"CableNamesModel", "entry1", "(II)V"⟩, 68), (⟨"CableNamesModel", "nextDue", "()J"⟩, 68), (⟨"CableNamesModel", "isHost", "(I)Z"⟩, 68), (⟨"CableNamesModel", "forgets", "(I)V"⟩, 68)]
theorem lw_r5 : ∀ q ∈ lw_privs_5, lw_okq q := List.forall_mem_cons.mpr ⟨lw_p64, List.forall_mem_cons.mpr ⟨lw_p65, List.forall_mem_cons.mpr ⟨lw_p66, List.forall_mem_cons.mpr ⟨lw_p67, List.forall_mem_cons.mpr ⟨lw_p68, List.forall_mem_cons.mpr ⟨lw_p69, List.forall_mem_cons.mpr ⟨lw_p70, List.forall_mem_cons.mpr ⟨lw_p71, List.forall_mem_cons.mpr ⟨lw_p72, List.forall_mem_cons.mpr ⟨lw_p73, List.forall_mem_cons.mpr ⟨lw_p74, List.forall_mem_cons.mpr ⟨lw_p75, List.forall_mem_cons.mpr ⟨lw_p76, List.forall_mem_cons.mpr ⟨lw_p77, List.forall_mem_cons.mpr ⟨lw_p78, List.forall_mem_cons.mpr ⟨lw_p79, fun _ h => absurd h List.not_mem_nil⟩⟩⟩⟩⟩⟩⟩⟩⟩⟩⟩⟩⟩⟩⟩⟩
theorem lw_p80 : lw_okq (⟨"CableNamesModel", "takesWord", "()Z"⟩, 68) := ⟨⟨by decide +kernel, by decide +kernel⟩, List.mem_of_getElem? (i := 1116) (by decide +kernel), List.mem_of_getElem? (i := 1537) (by decide +kernel), List.mem_of_getElem? (i := 1538) (by decide +kernel)⟩
theorem lw_p81 : lw_okq (⟨"CableNamesModel", "isOpen", "(II)Z"⟩, 68) := ⟨⟨by decide +kernel, by decide +kernel⟩, List.mem_of_getElem? (i := 1116) (by decide +kernel), List.mem_of_getElem? (i := 1554) (by decide +kernel), List.mem_of_getElem? (i := 1555) (by decide +kernel)⟩
theorem lw_p82 : lw_okq (⟨"CableNamesModel", "fails", "(I)I"⟩, 68) := ⟨⟨by decide +kernel, by decide +kernel⟩, List.mem_of_getElem? (i := 1116) (by decide +kernel), List.mem_of_getElem? (i := 1578) (by decide +kernel), List.mem_of_getElem? (i := 1579) (by decide +kernel)⟩
theorem lw_p83 : lw_okq (⟨"CableNamesModel", "foundAt", "(III)I"⟩, 68) := ⟨⟨by decide +kernel, by decide +kernel⟩, List.mem_of_getElem? (i := 1116) (by decide +kernel), List.mem_of_getElem? (i := 1590) (by decide +kernel), List.mem_of_getElem? (i := 1591) (by decide +kernel)⟩
def lw_privs_6 : List (MethodName × Nat) := [(⟨"CableNamesModel", "takesWord", "()Z"⟩, 68), (⟨"CableNamesModel", "isOpen", "(II)Z"⟩, 68), (⟨"CableNamesModel", "fails", "(I)I"⟩, 68), (⟨"CableNamesModel", "foundAt", "(III)I"⟩, 68)]
theorem lw_r6 : ∀ q ∈ lw_privs_6, lw_okq q := List.forall_mem_cons.mpr ⟨lw_p80, List.forall_mem_cons.mpr ⟨lw_p81, List.forall_mem_cons.mpr ⟨lw_p82, List.forall_mem_cons.mpr ⟨lw_p83, fun _ h => absurd h List.not_mem_nil⟩⟩⟩⟩
def lw_privs : List (MethodName × Nat) := lw_privs_1 ++ (lw_privs_2 ++ (lw_privs_3 ++ (lw_privs_4 ++ (lw_privs_5 ++ (lw_privs_6)))))
def lw_tbl : List Cond := k2_sels lw_privs ++ tables_1
theorem lw_privs_ok : ∀ q ∈ lw_privs, lw_okq q := by
  show ∀ q ∈ lw_privs_1 ++ (lw_privs_2 ++ (lw_privs_3 ++ (lw_privs_4 ++ (lw_privs_5 ++ (lw_privs_6))))), lw_okq q
  exact List.forall_mem_append.mpr ⟨lw_r1, List.forall_mem_append.mpr ⟨lw_r2, List.forall_mem_append.mpr ⟨lw_r3, List.forall_mem_append.mpr ⟨lw_r4, List.forall_mem_append.mpr ⟨lw_r5, lw_r6⟩⟩⟩⟩⟩
end
section
def RX0 : String := "CableNames$AddressClaim"
def TX0 : u_T := fun k => match k with
  | 0 => ("CableNames$AddressClaim", "tries", "I", false)
  | 1 => ("CableNames$AddressClaim", "address", "I", false)
  | 2 => ("CableNames$AddressClaim", "step", "I", false)
  | 3 => ("CableNames$AddressClaim", "due", "J", false)
  | _ => ("CableNames$AddressClaim", "defended", "J", false)
def tyX0 : Nat → FieldType := fun k => match k with
  | 0 => .int
  | 1 => .int
  | 2 => .int
  | 3 => .long
  | _ => .long
abbrev wsX00 : List Cond := u_ws RX0 TX0 5
theorem nmX0 : ∀ a, a < 5 → ∀ b, b < 5 → a ≠ b → (TX0 a).2.1 ≠ (TX0 b).2.1 := by decide +kernel
theorem tyX0_ok : ∀ k, k < 5 → parseFieldDescriptor (TX0 k).2.2.1 = some (tyX0 k) := by decide +kernel
abbrev cX0_init : ByteArray := prog_2_method_1_code
def yX0_init : MethodName := ⟨RX0, "<init>", "()V"⟩
abbrev cX0_start : ByteArray := prog_2_method_2_code
def yX0_start : MethodName := ⟨RX0, "start", "(IJ)V"⟩
abbrev cX0_probe : ByteArray := prog_2_method_3_code
def yX0_probe : MethodName := ⟨RX0, "probe", "(IJ)V"⟩
abbrev cX0_isHeld : ByteArray := prog_2_method_4_code
def yX0_isHeld : MethodName := ⟨RX0, "isHeld", "()Z"⟩
abbrev cX0_mayDefend : ByteArray := prog_2_method_5_code
def yX0_mayDefend : MethodName := ⟨RX0, "mayDefend", "(J)Z"⟩
abbrev cX0_advance : ByteArray := prog_2_method_6_code
def yX0_advance : MethodName := ⟨RX0, "advance", "(J)V"⟩
abbrev cX0_tellAgain : ByteArray := prog_2_method_7_code
def yX0_tellAgain : MethodName := ⟨RX0, "tellAgain", "(IJ)V"⟩
def RX1 : String := "CableNames$Cache"
def TX1 : u_T := fun k => match k with
  | 0 => ("CableNames$Cache", "entries", "[LCableNames$Entry;", true)
  | _ => ("CableNames$Cache", "size", "I", false)
def tyX1 : Nat → FieldType := fun k => match k with
  | 0 => .array (.object "CableNames$Entry")
  | _ => .int
abbrev wsX10 : List Cond := u_ws RX1 TX1 2
theorem nmX1 : ∀ a, a < 2 → ∀ b, b < 2 → a ≠ b → (TX1 a).2.1 ≠ (TX1 b).2.1 := by decide +kernel
theorem tyX1_ok : ∀ k, k < 2 → parseFieldDescriptor (TX1 k).2.2.1 = some (tyX1 k) := by decide +kernel
abbrev cX1_init : ByteArray := prog_3_method_1_code
def yX1_init : MethodName := ⟨RX1, "<init>", "()V"⟩
abbrev cX1_hear : ByteArray := prog_3_method_2_code
def yX1_hear : MethodName := ⟨RX1, "hear", "(LCableNames$Told;J)V"⟩
abbrev cX1_placeOf : ByteArray := prog_3_method_3_code
def yX1_placeOf : MethodName := ⟨RX1, "placeOf", "(LCableNames$Told;)I"⟩
abbrev cX1_outdateOthers : ByteArray := prog_3_method_4_code
def yX1_outdateOthers : MethodName := ⟨RX1, "outdateOthers", "(LCableNames$Told;IJ)V"⟩
abbrev cX1_remove : ByteArray := prog_3_method_5_code
def yX1_remove : MethodName := ⟨RX1, "remove", "(I)V"⟩
abbrev cX1_knownCount : ByteArray := prog_3_method_6_code
def yX1_knownCount : MethodName := ⟨RX1, "knownCount", "(LCableNames$Question;J)I"⟩
abbrev cX1_countOf : ByteArray := prog_3_method_7_code
def yX1_countOf : MethodName := ⟨RX1, "countOf", "(LCableNames$Question;)I"⟩
abbrev cX1_entryOf : ByteArray := prog_3_method_8_code
def yX1_entryOf : MethodName := ⟨RX1, "entryOf", "(LCableNames$Question;I)LCableNames$Entry;"⟩
def RX2 : String := "CableNames$Entry"
def TX2 : u_T := fun k => match k with
  | 0 => ("CableNames$Entry", "word", "LCableNames$Word;", true)
  | 1 => ("CableNames$Entry", "name", "LCableNames$Word;", true)
  | 2 => ("CableNames$Entry", "sort", "I", false)
  | 3 => ("CableNames$Entry", "value", "I", false)
  | 4 => ("CableNames$Entry", "life", "I", false)
  | 5 => ("CableNames$Entry", "refreshes", "I", false)
  | 6 => ("CableNames$Entry", "begins", "J", false)
  | 7 => ("CableNames$Entry", "ends", "J", false)
  | 8 => ("CableNames$Entry", "due", "J", false)
  | _ => ("CableNames$Entry", "isDying", "Z", false)
def tyX2 : Nat → FieldType := fun k => match k with
  | 0 => .object "CableNames$Word"
  | 1 => .object "CableNames$Word"
  | 2 => .int
  | 3 => .int
  | 4 => .int
  | 5 => .int
  | 6 => .long
  | 7 => .long
  | 8 => .long
  | _ => .boolean
abbrev wsX20 : List Cond := u_ws RX2 TX2 10
theorem nmX2 : ∀ a, a < 10 → ∀ b, b < 10 → a ≠ b → (TX2 a).2.1 ≠ (TX2 b).2.1 := by decide +kernel
theorem tyX2_ok : ∀ k, k < 10 → parseFieldDescriptor (TX2 k).2.2.1 = some (tyX2 k) := by decide +kernel
abbrev cX2_init : ByteArray := prog_4_method_1_code
def yX2_init : MethodName := ⟨RX2, "<init>", "()V"⟩
abbrev cX2_become : ByteArray := prog_4_method_2_code
def yX2_become : MethodName := ⟨RX2, "become", "(LCableNames$Told;)V"⟩
abbrev cX2_begin : ByteArray := prog_4_method_3_code
def yX2_begin : MethodName := ⟨RX2, "begin", "(IJ)V"⟩
abbrev cX2_die : ByteArray := prog_4_method_4_code
def yX2_die : MethodName := ⟨RX2, "die", "(J)V"⟩
abbrev cX2_countRefresh : ByteArray := prog_4_method_5_code
def yX2_countRefresh : MethodName := ⟨RX2, "countRefresh", "()V"⟩
abbrev cX2_plan : ByteArray := prog_4_method_6_code
def yX2_plan : MethodName := ⟨RX2, "plan", "()V"⟩
abbrev cX2_isOf : ByteArray := prog_4_method_7_code
def yX2_isOf : MethodName := ⟨RX2, "isOf", "(ILCableNames$Word;)Z"⟩
abbrev cX2_isTheOne : ByteArray := prog_4_method_8_code
def yX2_isTheOne : MethodName := ⟨RX2, "isTheOne", "(LCableNames$Told;)Z"⟩
abbrev cX2_isKnownTo : ByteArray := prog_4_method_9_code
def yX2_isKnownTo : MethodName := ⟨RX2, "isKnownTo", "(LCableNames$Question;J)Z"⟩
abbrev cX2_view : ByteArray := prog_4_method_10_code
def yX2_view : MethodName := ⟨RX2, "view", "(IJ)I"⟩
def RX3 : String := "CableNames$Host"
def TX3 : u_T := fun k => match k with
  | 0 => ("CableNames$Host", "number", "I", true)
  | 1 => ("CableNames$Host", "address", "LCableNames$AddressClaim;", true)
  | 2 => ("CableNames$Host", "name", "LCableNames$NameClaim;", true)
  | 3 => ("CableNames$Host", "services", "[LCableNames$Service;", true)
  | 4 => ("CableNames$Host", "questions", "[LCableNames$Question;", true)
  | 5 => ("CableNames$Host", "replies", "[LCableNames$Reply;", true)
  | 6 => ("CableNames$Host", "cache", "LCableNames$Cache;", true)
  | 7 => ("CableNames$Host", "isOn", "Z", false)
  | 8 => ("CableNames$Host", "id", "I", false)
  | 9 => ("CableNames$Host", "part", "I", false)
  | 10 => ("CableNames$Host", "conflicts", "I", false)
  | 11 => ("CableNames$Host", "serviceCount", "I", false)
  | 12 => ("CableNames$Host", "replyCount", "I", false)
  | 13 => ("CableNames$Host", "saved", "I", false)
  | 14 => ("CableNames$Host", "unreadable", "I", false)
  | _ => ("CableNames$Host", "toLose", "I", false)
def tyX3 : Nat → FieldType := fun k => match k with
  | 0 => .int
  | 1 => .object "CableNames$AddressClaim"
  | 2 => .object "CableNames$NameClaim"
  | 3 => .array (.object "CableNames$Service")
  | 4 => .array (.object "CableNames$Question")
  | 5 => .array (.object "CableNames$Reply")
  | 6 => .object "CableNames$Cache"
  | 7 => .boolean
  | 8 => .int
  | 9 => .int
  | 10 => .int
  | 11 => .int
  | 12 => .int
  | 13 => .int
  | 14 => .int
  | _ => .int
abbrev wsX30 : List Cond := u_ws RX3 TX3 16
theorem nmX3 : ∀ a, a < 16 → ∀ b, b < 16 → a ≠ b → (TX3 a).2.1 ≠ (TX3 b).2.1 := by decide +kernel
theorem tyX3_ok : ∀ k, k < 16 → parseFieldDescriptor (TX3 k).2.2.1 = some (tyX3 k) := by decide +kernel
abbrev cX3_init : ByteArray := prog_5_method_1_code
def yX3_init : MethodName := ⟨RX3, "<init>", "(I)V"⟩
abbrev cX3_start : ByteArray := prog_5_method_2_code
def yX3_start : MethodName := ⟨RX3, "start", "(IJ)V"⟩
abbrev cX3_moveOn : ByteArray := prog_5_method_3_code
def yX3_moveOn : MethodName := ⟨RX3, "moveOn", "(J)V"⟩
abbrev cX3_nextDue : ByteArray := prog_5_method_4_code
def yX3_nextDue : MethodName := ⟨RX3, "nextDue", "()J"⟩
abbrev cX3_questionOf : ByteArray := prog_5_method_5_code
def yX3_questionOf : MethodName := ⟨RX3, "questionOf", "(ILCableNames$Word;)LCableNames$Question;"⟩
abbrev cX3_openQuestions : ByteArray := prog_5_method_6_code
def yX3_openQuestions : MethodName := ⟨RX3, "openQuestions", "()I"⟩
abbrev cX3_serviceCountOf : ByteArray := prog_5_method_7_code
def yX3_serviceCountOf : MethodName := ⟨RX3, "serviceCountOf", "(LCableNames$Word;)I"⟩
abbrev cX3_hasReply : ByteArray := prog_5_method_8_code
def yX3_hasReply : MethodName := ⟨RX3, "hasReply", "(LCableNames$Word;)Z"⟩
abbrev cX3_removeReply : ByteArray := prog_5_method_9_code
def yX3_removeReply : MethodName := ⟨RX3, "removeReply", "(I)V"⟩
abbrev cX3_view : ByteArray := prog_5_method_10_code
def yX3_view : MethodName := ⟨RX3, "view", "(I)I"⟩
def RX4 : String := "CableNames$NameClaim"
def TX4 : u_T := fun k => match k with
  | 0 => ("CableNames$NameClaim", "wish", "LCableNames$Word;", true)
  | 1 => ("CableNames$NameClaim", "name", "LCableNames$Word;", true)
  | 2 => ("CableNames$NameClaim", "state", "I", false)
  | 3 => ("CableNames$NameClaim", "number", "I", false)
  | 4 => ("CableNames$NameClaim", "step", "I", false)
  | _ => ("CableNames$NameClaim", "due", "J", false)
def tyX4 : Nat → FieldType := fun k => match k with
  | 0 => .object "CableNames$Word"
  | 1 => .object "CableNames$Word"
  | 2 => .int
  | 3 => .int
  | 4 => .int
  | _ => .long
abbrev wsX40 : List Cond := u_ws RX4 TX4 6
theorem nmX4 : ∀ a, a < 6 → ∀ b, b < 6 → a ≠ b → (TX4 a).2.1 ≠ (TX4 b).2.1 := by decide +kernel
theorem tyX4_ok : ∀ k, k < 6 → parseFieldDescriptor (TX4 k).2.2.1 = some (tyX4 k) := by decide +kernel
abbrev cX4_init : ByteArray := prog_6_method_1_code
def yX4_init : MethodName := ⟨RX4, "<init>", "()V"⟩
abbrev cX4_forget : ByteArray := prog_6_method_2_code
def yX4_forget : MethodName := ⟨RX4, "forget", "()V"⟩
abbrev cX4_pause : ByteArray := prog_6_method_3_code
def yX4_pause : MethodName := ⟨RX4, "pause", "()V"⟩
abbrev cX4_probe : ByteArray := prog_6_method_4_code
def yX4_probe : MethodName := ⟨RX4, "probe", "(IJ)V"⟩
abbrev cX4_restart : ByteArray := prog_6_method_5_code
def yX4_restart : MethodName := ⟨RX4, "restart", "(J)V"⟩
abbrev cX4_advance : ByteArray := prog_6_method_6_code
def yX4_advance : MethodName := ⟨RX4, "advance", "(J)V"⟩
abbrev cX4_tellAgain : ByteArray := prog_6_method_7_code
def yX4_tellAgain : MethodName := ⟨RX4, "tellAgain", "(IJ)V"⟩
abbrev cX4_isOf : ByteArray := prog_6_method_8_code
def yX4_isOf : MethodName := ⟨RX4, "isOf", "(LCableNames$Word;)Z"⟩
abbrev cX4_rename : ByteArray := prog_6_method_9_code
def yX4_rename : MethodName := ⟨RX4, "rename", "()V"⟩
def RX5 : String := "CableNames$Packet"
def TX5 : u_T := fun k => match k with
  | 0 => ("CableNames$Packet", "bytes", "[B", true)
  | 1 => ("CableNames$Packet", "wordPlaces", "[I", true)
  | 2 => ("CableNames$Packet", "size", "I", false)
  | 3 => ("CableNames$Packet", "wordCount", "I", false)
  | 4 => ("CableNames$Packet", "sender", "I", false)
  | _ => ("CableNames$Packet", "part", "I", false)
def tyX5 : Nat → FieldType := fun k => match k with
  | 0 => .array .byte
  | 1 => .array .int
  | 2 => .int
  | 3 => .int
  | 4 => .int
  | _ => .int
abbrev wsX50 : List Cond := u_ws RX5 TX5 6
theorem nmX5 : ∀ a, a < 6 → ∀ b, b < 6 → a ≠ b → (TX5 a).2.1 ≠ (TX5 b).2.1 := by decide +kernel
theorem tyX5_ok : ∀ k, k < 6 → parseFieldDescriptor (TX5 k).2.2.1 = some (tyX5 k) := by decide +kernel
abbrev cX5_init : ByteArray := prog_7_method_1_code
def yX5_init : MethodName := ⟨RX5, "<init>", "()V"⟩
abbrev cX5_start : ByteArray := prog_7_method_2_code
def yX5_start : MethodName := ⟨RX5, "start", "(II)V"⟩
abbrev cX5_at : ByteArray := prog_7_method_3_code
def yX5_at : MethodName := ⟨RX5, "at", "(I)I"⟩
abbrev cX5_put : ByteArray := prog_7_method_4_code
def yX5_put : MethodName := ⟨RX5, "put", "(I)V"⟩
abbrev cX5_putNumber : ByteArray := prog_7_method_5_code
def yX5_putNumber : MethodName := ⟨RX5, "putNumber", "(II)V"⟩
abbrev cX5_putWord : ByteArray := prog_7_method_6_code
def yX5_putWord : MethodName := ⟨RX5, "putWord", "(LCableNames$Word;)V"⟩
abbrev cX5_putAddressRecord : ByteArray := prog_7_method_7_code
def yX5_putAddressRecord : MethodName := ⟨RX5, "putAddressRecord", "(LCableNames$Host;I)V"⟩
abbrev cX5_putServiceRecord : ByteArray := prog_7_method_8_code
def yX5_putServiceRecord : MethodName := ⟨RX5, "putServiceRecord", "(LCableNames$Service;LCableNames$Word;I)V"⟩
abbrev cX5_addWordPlace : ByteArray := prog_7_method_9_code
def yX5_addWordPlace : MethodName := ⟨RX5, "addWordPlace", "(I)V"⟩
abbrev cX5_isWordPlace : ByteArray := prog_7_method_10_code
def yX5_isWordPlace : MethodName := ⟨RX5, "isWordPlace", "(I)Z"⟩
abbrev cX5_spells : ByteArray := prog_7_method_11_code
def yX5_spells : MethodName := ⟨RX5, "spells", "(ILCableNames$Word;)Z"⟩
def RX6 : String := "CableNames$Question"
def TX6 : u_T := fun k => match k with
  | 0 => ("CableNames$Question", "word", "LCableNames$Word;", true)
  | 1 => ("CableNames$Question", "isOpen", "Z", false)
  | 2 => ("CableNames$Question", "sort", "I", false)
  | 3 => ("CableNames$Question", "wait", "I", false)
  | _ => ("CableNames$Question", "due", "J", false)
def tyX6 : Nat → FieldType := fun k => match k with
  | 0 => .object "CableNames$Word"
  | 1 => .boolean
  | 2 => .int
  | 3 => .int
  | _ => .long
abbrev wsX60 : List Cond := u_ws RX6 TX6 5
theorem nmX6 : ∀ a, a < 5 → ∀ b, b < 5 → a ≠ b → (TX6 a).2.1 ≠ (TX6 b).2.1 := by decide +kernel
theorem tyX6_ok : ∀ k, k < 5 → parseFieldDescriptor (TX6 k).2.2.1 = some (tyX6 k) := by decide +kernel
abbrev cX6_init : ByteArray := prog_8_method_1_code
def yX6_init : MethodName := ⟨RX6, "<init>", "()V"⟩
abbrev cX6_start : ByteArray := prog_8_method_2_code
def yX6_start : MethodName := ⟨RX6, "start", "(IIJ)V"⟩
abbrev cX6_isOf : ByteArray := prog_8_method_3_code
def yX6_isOf : MethodName := ⟨RX6, "isOf", "(ILCableNames$Word;)Z"⟩
abbrev cX6_isNear : ByteArray := prog_8_method_4_code
def yX6_isNear : MethodName := ⟨RX6, "isNear", "(J)Z"⟩
abbrev cX6_putOff : ByteArray := prog_8_method_5_code
def yX6_putOff : MethodName := ⟨RX6, "putOff", "(J)V"⟩
def RX7 : String := "CableNames$Reader"
def TX7 : u_T := fun k => match k with
  | 0 => ("CableNames$Reader", "told", "[LCableNames$Told;", true)
  | 1 => ("CableNames$Reader", "word", "LCableNames$Word;", true)
  | 2 => ("CableNames$Reader", "toldCount", "I", false)
  | 3 => ("CableNames$Reader", "kind", "I", false)
  | 4 => ("CableNames$Reader", "address", "I", false)
  | 5 => ("CableNames$Reader", "id", "I", false)
  | 6 => ("CableNames$Reader", "sort", "I", false)
  | 7 => ("CableNames$Reader", "place", "I", false)
  | _ => ("CableNames$Reader", "isBad", "Z", false)
def tyX7 : Nat → FieldType := fun k => match k with
  | 0 => .array (.object "CableNames$Told")
  | 1 => .object "CableNames$Word"
  | 2 => .int
  | 3 => .int
  | 4 => .int
  | 5 => .int
  | 6 => .int
  | 7 => .int
  | _ => .boolean
abbrev wsX70 : List Cond := u_ws RX7 TX7 9
theorem nmX7 : ∀ a, a < 9 → ∀ b, b < 9 → a ≠ b → (TX7 a).2.1 ≠ (TX7 b).2.1 := by decide +kernel
theorem tyX7_ok : ∀ k, k < 9 → parseFieldDescriptor (TX7 k).2.2.1 = some (tyX7 k) := by decide +kernel
abbrev cX7_init : ByteArray := prog_9_method_1_code
def yX7_init : MethodName := ⟨RX7, "<init>", "()V"⟩
abbrev cX7_reads : ByteArray := prog_9_method_2_code
def yX7_reads : MethodName := ⟨RX7, "reads", "(LCableNames$Packet;)Z"⟩
abbrev cX7_readClaim : ByteArray := prog_9_method_3_code
def yX7_readClaim : MethodName := ⟨RX7, "readClaim", "(LCableNames$Packet;)V"⟩
abbrev cX7_readAsk : ByteArray := prog_9_method_4_code
def yX7_readAsk : MethodName := ⟨RX7, "readAsk", "(LCableNames$Packet;)V"⟩
abbrev cX7_readAnswer : ByteArray := prog_9_method_5_code
def yX7_readAnswer : MethodName := ⟨RX7, "readAnswer", "(LCableNames$Packet;)V"⟩
abbrev cX7_readTelling : ByteArray := prog_9_method_6_code
def yX7_readTelling : MethodName := ⟨RX7, "readTelling", "(LCableNames$Packet;LCableNames$Told;I)V"⟩
abbrev cX7_readByte : ByteArray := prog_9_method_7_code
def yX7_readByte : MethodName := ⟨RX7, "readByte", "(LCableNames$Packet;)I"⟩
abbrev cX7_readPair : ByteArray := prog_9_method_8_code
def yX7_readPair : MethodName := ⟨RX7, "readPair", "(LCableNames$Packet;)I"⟩
abbrev cX7_readUpTo : ByteArray := prog_9_method_9_code
def yX7_readUpTo : MethodName := ⟨RX7, "readUpTo", "(LCableNames$Packet;I)I"⟩
abbrev cX7_readSort : ByteArray := prog_9_method_10_code
def yX7_readSort : MethodName := ⟨RX7, "readSort", "(LCableNames$Packet;)I"⟩
abbrev cX7_readAddress : ByteArray := prog_9_method_11_code
def yX7_readAddress : MethodName := ⟨RX7, "readAddress", "(LCableNames$Packet;)I"⟩
abbrev cX7_readLife : ByteArray := prog_9_method_12_code
def yX7_readLife : MethodName := ⟨RX7, "readLife", "(LCableNames$Packet;)I"⟩
abbrev cX7_readWord : ByteArray := prog_9_method_13_code
def yX7_readWord : MethodName := ⟨RX7, "readWord", "(LCableNames$Packet;LCableNames$Word;)V"⟩
abbrev cX7_readWordAgain : ByteArray := prog_9_method_14_code
def yX7_readWordAgain : MethodName := ⟨RX7, "readWordAgain", "(LCableNames$Packet;LCableNames$Word;I)V"⟩
abbrev cX7_tellsAddress : ByteArray := prog_9_method_15_code
def yX7_tellsAddress : MethodName := ⟨RX7, "tellsAddress", "(I)Z"⟩
abbrev cX7_tellsService : ByteArray := prog_9_method_16_code
def yX7_tellsService : MethodName := ⟨RX7, "tellsService", "(LCableNames$Word;I)Z"⟩
def RX8 : String := "CableNames$Reply"
def TX8 : u_T := fun k => match k with
  | 0 => ("CableNames$Reply", "type", "LCableNames$Word;", true)
  | _ => ("CableNames$Reply", "due", "J", false)
def tyX8 : Nat → FieldType := fun k => match k with
  | 0 => .object "CableNames$Word"
  | _ => .long
abbrev wsX80 : List Cond := u_ws RX8 TX8 2
theorem nmX8 : ∀ a, a < 2 → ∀ b, b < 2 → a ≠ b → (TX8 a).2.1 ≠ (TX8 b).2.1 := by decide +kernel
theorem tyX8_ok : ∀ k, k < 2 → parseFieldDescriptor (TX8 k).2.2.1 = some (tyX8 k) := by decide +kernel
abbrev cX8_init : ByteArray := prog_10_method_1_code
def yX8_init : MethodName := ⟨RX8, "<init>", "()V"⟩
def RX9 : String := "CableNames$Service"
def TX9 : u_T := fun k => match k with
  | 0 => ("CableNames$Service", "type", "LCableNames$Word;", true)
  | _ => ("CableNames$Service", "port", "I", false)
def tyX9 : Nat → FieldType := fun k => match k with
  | 0 => .object "CableNames$Word"
  | _ => .int
abbrev wsX90 : List Cond := u_ws RX9 TX9 2
theorem nmX9 : ∀ a, a < 2 → ∀ b, b < 2 → a ≠ b → (TX9 a).2.1 ≠ (TX9 b).2.1 := by decide +kernel
theorem tyX9_ok : ∀ k, k < 2 → parseFieldDescriptor (TX9 k).2.2.1 = some (tyX9 k) := by decide +kernel
abbrev cX9_init : ByteArray := prog_11_method_1_code
def yX9_init : MethodName := ⟨RX9, "<init>", "()V"⟩
def RX10 : String := "CableNames$Told"
def TX10 : u_T := fun k => match k with
  | 0 => ("CableNames$Told", "word", "LCableNames$Word;", true)
  | 1 => ("CableNames$Told", "name", "LCableNames$Word;", true)
  | 2 => ("CableNames$Told", "sort", "I", false)
  | 3 => ("CableNames$Told", "life", "I", false)
  | 4 => ("CableNames$Told", "value", "I", false)
  | _ => ("CableNames$Told", "unique", "Z", false)
def tyX10 : Nat → FieldType := fun k => match k with
  | 0 => .object "CableNames$Word"
  | 1 => .object "CableNames$Word"
  | 2 => .int
  | 3 => .int
  | 4 => .int
  | _ => .boolean
abbrev wsX100 : List Cond := u_ws RX10 TX10 6
theorem nmX10 : ∀ a, a < 6 → ∀ b, b < 6 → a ≠ b → (TX10 a).2.1 ≠ (TX10 b).2.1 := by decide +kernel
theorem tyX10_ok : ∀ k, k < 6 → parseFieldDescriptor (TX10 k).2.2.1 = some (tyX10 k) := by decide +kernel
abbrev cX10_init : ByteArray := prog_12_method_1_code
def yX10_init : MethodName := ⟨RX10, "<init>", "()V"⟩
def RX11 : String := "CableNames$Word"
def TX11 : u_T := fun k => match k with
  | 0 => ("CableNames$Word", "signs", "[B", true)
  | _ => ("CableNames$Word", "size", "I", false)
def tyX11 : Nat → FieldType := fun k => match k with
  | 0 => .array .byte
  | _ => .int
abbrev wsX110 : List Cond := u_ws RX11 TX11 2
theorem nmX11 : ∀ a, a < 2 → ∀ b, b < 2 → a ≠ b → (TX11 a).2.1 ≠ (TX11 b).2.1 := by decide +kernel
theorem tyX11_ok : ∀ k, k < 2 → parseFieldDescriptor (TX11 k).2.2.1 = some (tyX11 k) := by decide +kernel
abbrev cX11_init : ByteArray := prog_13_method_1_code
def yX11_init : MethodName := ⟨RX11, "<init>", "()V"⟩
abbrev cX11_isSign : ByteArray := prog_13_method_2_code
def yX11_isSign : MethodName := ⟨RX11, "isSign", "(I)Z"⟩
abbrev cX11_clear : ByteArray := prog_13_method_3_code
def yX11_clear : MethodName := ⟨RX11, "clear", "()V"⟩
abbrev cX11_add : ByteArray := prog_13_method_4_code
def yX11_add : MethodName := ⟨RX11, "add", "(I)V"⟩
abbrev cX11_copy : ByteArray := prog_13_method_5_code
def yX11_copy : MethodName := ⟨RX11, "copy", "(LCableNames$Word;)V"⟩
abbrev cX11_at : ByteArray := prog_13_method_6_code
def yX11_at : MethodName := ⟨RX11, "at", "(I)I"⟩
abbrev cX11_like : ByteArray := prog_13_method_7_code
def yX11_like : MethodName := ⟨RX11, "like", "(LCableNames$Word;)Z"⟩
def RX12 : String := "CableNames"
def TX12 : u_T := fun k => match k with
  | 0 => ("CableNames", "hosts", "[LCableNames$Host;", true)
  | 1 => ("CableNames", "tape", "LCableNames$Packet;", true)
  | 2 => ("CableNames", "reader", "LCableNames$Reader;", true)
  | 3 => ("CableNames", "counts", "[I", true)
  | 4 => ("CableNames", "queue", "[LCableNames$Packet;", true)
  | 5 => ("CableNames", "head", "I", false)
  | 6 => ("CableNames", "tail", "I", false)
  | 7 => ("CableNames", "latest", "LCableNames$Packet;", false)
  | 8 => ("CableNames", "latestTime", "J", false)
  | _ => ("CableNames", "time", "J", false)
def tyX12 : Nat → FieldType := fun k => match k with
  | 0 => .array (.object "CableNames$Host")
  | 1 => .object "CableNames$Packet"
  | 2 => .object "CableNames$Reader"
  | 3 => .array .int
  | 4 => .array (.object "CableNames$Packet")
  | 5 => .int
  | 6 => .int
  | 7 => .object "CableNames$Packet"
  | 8 => .long
  | _ => .long
abbrev wsX120 : List Cond := u_ws RX12 TX12 10
theorem nmX12 : ∀ a, a < 10 → ∀ b, b < 10 → a ≠ b → (TX12 a).2.1 ≠ (TX12 b).2.1 := by decide +kernel
theorem tyX12_ok : ∀ k, k < 10 → parseFieldDescriptor (TX12 k).2.2.1 = some (tyX12 k) := by decide +kernel
abbrev cX12_init : ByteArray := prog_1_method_1_code
def yX12_init : MethodName := ⟨RX12, "<init>", "()V"⟩
abbrev cX12_feed : ByteArray := prog_1_method_2_code
def yX12_feed : MethodName := ⟨RX12, "feed", "(IIIII)I"⟩
abbrev cX12_end : ByteArray := prog_1_method_3_code
def yX12_end : MethodName := ⟨RX12, "end", "(I)I"⟩
abbrev cX12_tapeIsWord : ByteArray := prog_1_method_4_code
def yX12_tapeIsWord : MethodName := ⟨RX12, "tapeIsWord", "()Z"⟩
abbrev cX12_moveTapeTo : ByteArray := prog_1_method_5_code
def yX12_moveTapeTo : MethodName := ⟨RX12, "moveTapeTo", "(LCableNames$Word;)V"⟩
abbrev cX12_on : ByteArray := prog_1_method_6_code
def yX12_on : MethodName := ⟨RX12, "on", "(II)Z"⟩
abbrev cX12_off : ByteArray := prog_1_method_7_code
def yX12_off : MethodName := ⟨RX12, "off", "(IZ)Z"⟩
abbrev cX12_claim : ByteArray := prog_1_method_8_code
def yX12_claim : MethodName := ⟨RX12, "claim", "(I)Z"⟩
abbrev cX12_service : ByteArray := prog_1_method_9_code
def yX12_service : MethodName := ⟨RX12, "service", "(II)I"⟩
abbrev cX12_ask : ByteArray := prog_1_method_10_code
def yX12_ask : MethodName := ⟨RX12, "ask", "(II)I"⟩
abbrev cX12_close : ByteArray := prog_1_method_11_code
def yX12_close : MethodName := ⟨RX12, "close", "(II)Z"⟩
abbrev cX12_lose : ByteArray := prog_1_method_12_code
def yX12_lose : MethodName := ⟨RX12, "lose", "(II)Z"⟩
abbrev cX12_give : ByteArray := prog_1_method_13_code
def yX12_give : MethodName := ⟨RX12, "give", "(I)I"⟩
abbrev cX12_hostThatIsOn : ByteArray := prog_1_method_14_code
def yX12_hostThatIsOn : MethodName := ⟨RX12, "hostThatIsOn", "(I)LCableNames$Host;"⟩
abbrev cX12_openQuestion : ByteArray := prog_1_method_15_code
def yX12_openQuestion : MethodName := ⟨RX12, "openQuestion", "(II)LCableNames$Question;"⟩
abbrev cX12_go : ByteArray := prog_1_method_16_code
def yX12_go : MethodName := ⟨RX12, "go", "(I)I"⟩
abbrev cX12_split : ByteArray := prog_1_method_17_code
def yX12_split : MethodName := ⟨RX12, "split", "(I)V"⟩
abbrev cX12_join : ByteArray := prog_1_method_18_code
def yX12_join : MethodName := ⟨RX12, "join", "()V"⟩
abbrev cX12_deliverFirst : ByteArray := prog_1_method_19_code
def yX12_deliverFirst : MethodName := ⟨RX12, "deliverFirst", "()V"⟩
abbrev cX12_nextDue : ByteArray := prog_1_method_20_code
def yX12_nextDue : MethodName := ⟨RX12, "nextDue", "()J"⟩
abbrev cX12_actFirst : ByteArray := prog_1_method_21_code
def yX12_actFirst : MethodName := ⟨RX12, "actFirst", "()Z"⟩
abbrev cX12_act : ByteArray := prog_1_method_22_code
def yX12_act : MethodName := ⟨RX12, "act", "(LCableNames$Host;)Z"⟩
abbrev cX12_actAddress : ByteArray := prog_1_method_23_code
def yX12_actAddress : MethodName := ⟨RX12, "actAddress", "(LCableNames$Host;)V"⟩
abbrev cX12_actName : ByteArray := prog_1_method_24_code
def yX12_actName : MethodName := ⟨RX12, "actName", "(LCableNames$Host;)V"⟩
abbrev cX12_actEntry : ByteArray := prog_1_method_25_code
def yX12_actEntry : MethodName := ⟨RX12, "actEntry", "(LCableNames$Host;I)V"⟩
abbrev cX12_hear : ByteArray := prog_1_method_26_code
def yX12_hear : MethodName := ⟨RX12, "hear", "(LCableNames$Host;Z)V"⟩
abbrev cX12_hearAddressProbe : ByteArray := prog_1_method_27_code
def yX12_hearAddressProbe : MethodName := ⟨RX12, "hearAddressProbe", "(LCableNames$Host;)V"⟩
abbrev cX12_hearAddressTold : ByteArray := prog_1_method_28_code
def yX12_hearAddressTold : MethodName := ⟨RX12, "hearAddressTold", "(LCableNames$Host;)V"⟩
abbrev cX12_hearNameProbe : ByteArray := prog_1_method_29_code
def yX12_hearNameProbe : MethodName := ⟨RX12, "hearNameProbe", "(LCableNames$Host;)V"⟩
abbrev cX12_hearAnswer : ByteArray := prog_1_method_30_code
def yX12_hearAnswer : MethodName := ⟨RX12, "hearAnswer", "(LCableNames$Host;)V"⟩
abbrev cX12_hearOfRival : ByteArray := prog_1_method_31_code
def yX12_hearOfRival : MethodName := ⟨RX12, "hearOfRival", "(LCableNames$Host;LCableNames$Word;)V"⟩
abbrev cX12_hearAsk : ByteArray := prog_1_method_32_code
def yX12_hearAsk : MethodName := ⟨RX12, "hearAsk", "(LCableNames$Host;)V"⟩
abbrev cX12_planReply : ByteArray := prog_1_method_33_code
def yX12_planReply : MethodName := ⟨RX12, "planReply", "(LCableNames$Host;)V"⟩
abbrev cX12_hasUntoldService : ByteArray := prog_1_method_34_code
def yX12_hasUntoldService : MethodName := ⟨RX12, "hasUntoldService", "(LCableNames$Host;)Z"⟩
abbrev cX12_newPacket : ByteArray := prog_1_method_35_code
def yX12_newPacket : MethodName := ⟨RX12, "newPacket", "(LCableNames$Host;I)LCableNames$Packet;"⟩
abbrev cX12_send : ByteArray := prog_1_method_36_code
def yX12_send : MethodName := ⟨RX12, "send", "(LCableNames$Packet;)V"⟩
abbrev cX12_sendAddress : ByteArray := prog_1_method_37_code
def yX12_sendAddress : MethodName := ⟨RX12, "sendAddress", "(LCableNames$Host;I)V"⟩
abbrev cX12_sendNameProbe : ByteArray := prog_1_method_38_code
def yX12_sendNameProbe : MethodName := ⟨RX12, "sendNameProbe", "(LCableNames$Host;)V"⟩
abbrev cX12_sendAsk : ByteArray := prog_1_method_39_code
def yX12_sendAsk : MethodName := ⟨RX12, "sendAsk", "(LCableNames$Host;LCableNames$Question;Z)V"⟩
abbrev cX12_tellAddress : ByteArray := prog_1_method_40_code
def yX12_tellAddress : MethodName := ⟨RX12, "tellAddress", "(LCableNames$Host;)V"⟩
abbrev cX12_tellAll : ByteArray := prog_1_method_41_code
def yX12_tellAll : MethodName := ⟨RX12, "tellAll", "(LCableNames$Host;I)V"⟩
abbrev cX12_tellType : ByteArray := prog_1_method_42_code
def yX12_tellType : MethodName := ⟨RX12, "tellType", "(LCableNames$Host;LCableNames$Word;)V"⟩
abbrev cX12_look : ByteArray := prog_1_method_43_code
def yX12_look : MethodName := ⟨RX12, "look", "(II)I"⟩
abbrev cX12_sign : ByteArray := prog_1_method_44_code
def yX12_sign : MethodName := ⟨RX12, "sign", "(II)I"⟩
abbrev cX12_answers : ByteArray := prog_1_method_45_code
def yX12_answers : MethodName := ⟨RX12, "answers", "(II)I"⟩
abbrev cX12_found : ByteArray := prog_1_method_46_code
def yX12_found : MethodName := ⟨RX12, "found", "(IIII)I"⟩
abbrev cX12_entry : ByteArray := prog_1_method_47_code
def yX12_entry : MethodName := ⟨RX12, "entry", "(III)I"⟩
abbrev cX12_count : ByteArray := prog_1_method_48_code
def yX12_count : MethodName := ⟨RX12, "count", "(I)I"⟩
abbrev cX12_holders : ByteArray := prog_1_method_49_code
def yX12_holders : MethodName := ⟨RX12, "holders", "(I)I"⟩
abbrev cX12_sent : ByteArray := prog_1_method_50_code
def yX12_sent : MethodName := ⟨RX12, "sent", "(I)I"⟩
def RX13 : String := "CableNamesModel"
def TX13 : u_T := fun k => match k with
  | 0 => ("CableNamesModel", "time", "J", false)
  | 1 => ("CableNamesModel", "tape", "[I", true)
  | 2 => ("CableNamesModel", "tapeSize", "I", false)
  | 3 => ("CableNamesModel", "thrown", "I", false)
  | 4 => ("CableNamesModel", "isOn", "[Z", true)
  | 5 => ("CableNamesModel", "id", "[I", true)
  | 6 => ("CableNamesModel", "part", "[I", true)
  | 7 => ("CableNamesModel", "tries", "[I", true)
  | 8 => ("CableNamesModel", "conflicts", "[I", true)
  | 9 => ("CableNamesModel", "loses", "[I", true)
  | 10 => ("CableNamesModel", "saved", "[I", true)
  | 11 => ("CableNamesModel", "unread", "[I", true)
  | 12 => ("CableNamesModel", "aStep", "[I", true)
  | 13 => ("CableNamesModel", "holds", "[Z", true)
  | 14 => ("CableNamesModel", "aDue", "[J", true)
  | 15 => ("CableNamesModel", "defended", "[J", true)
  | 16 => ("CableNamesModel", "nState", "[I", true)
  | 17 => ("CableNamesModel", "nStep", "[I", true)
  | 18 => ("CableNamesModel", "nDue", "[J", true)
  | 19 => ("CableNamesModel", "number", "[I", true)
  | 20 => ("CableNamesModel", "wish", "[I", true)
  | 21 => ("CableNamesModel", "name", "[I", true)
  | 22 => ("CableNamesModel", "types", "[I", true)
  | 23 => ("CableNamesModel", "ports", "[I", true)
  | 24 => ("CableNamesModel", "services", "[I", true)
  | 25 => ("CableNamesModel", "qWord", "[I", true)
  | 26 => ("CableNamesModel", "qSort", "[I", true)
  | 27 => ("CableNamesModel", "qDue", "[J", true)
  | 28 => ("CableNamesModel", "qWait", "[I", true)
  | 29 => ("CableNamesModel", "rWord", "[I", true)
  | 30 => ("CableNamesModel", "rDue", "[J", true)
  | 31 => ("CableNamesModel", "replies", "[I", true)
  | 32 => ("CableNamesModel", "entries", "[I", true)
  | 33 => ("CableNamesModel", "eSort", "[I", true)
  | 34 => ("CableNamesModel", "eNumber", "[I", true)
  | 35 => ("CableNamesModel", "eLife", "[I", true)
  | 36 => ("CableNamesModel", "eBegin", "[J", true)
  | 37 => ("CableNamesModel", "eEnd", "[J", true)
  | 38 => ("CableNamesModel", "eDying", "[Z", true)
  | 39 => ("CableNamesModel", "eAsked", "[I", true)
  | 40 => ("CableNamesModel", "eWord", "[I", true)
  | 41 => ("CableNamesModel", "eName", "[I", true)
  | 42 => ("CableNamesModel", "ring", "[I", true)
  | 43 => ("CableNamesModel", "ringSize", "[I", true)
  | 44 => ("CableNamesModel", "ringFrom", "[I", true)
  | 45 => ("CableNamesModel", "ringPart", "[I", true)
  | 46 => ("CableNamesModel", "ringAt", "I", false)
  | 47 => ("CableNamesModel", "ringMany", "I", false)
  | 48 => ("CableNamesModel", "counts", "[I", true)
  | 49 => ("CableNamesModel", "last", "[I", true)
  | 50 => ("CableNamesModel", "lastSize", "I", false)
  | 51 => ("CableNamesModel", "word", "[I", true)
  | 52 => ("CableNamesModel", "out", "[I", true)
  | 53 => ("CableNamesModel", "outSize", "I", false)
  | 54 => ("CableNamesModel", "outPlace", "[I", true)
  | 55 => ("CableNamesModel", "outPlaces", "I", false)
  | 56 => ("CableNamesModel", "outWord", "[I", true)
  | 57 => ("CableNamesModel", "packet", "[I", true)
  | 58 => ("CableNamesModel", "packetSize", "I", false)
  | 59 => ("CableNamesModel", "at", "I", false)
  | 60 => ("CableNamesModel", "good", "Z", false)
  | 61 => ("CableNamesModel", "isWordAt", "[Z", true)
  | 62 => ("CableNamesModel", "got", "[I", true)
  | 63 => ("CableNamesModel", "gotTold", "[I", true)
  | 64 => ("CableNamesModel", "gotSort", "[I", true)
  | 65 => ("CableNamesModel", "gotUnique", "[I", true)
  | 66 => ("CableNamesModel", "gotLife", "[I", true)
  | _ => ("CableNamesModel", "gotNumber", "[I", true)
def tyX13 : Nat → FieldType := fun k => match k with
  | 0 => .long
  | 1 => .array .int
  | 2 => .int
  | 3 => .int
  | 4 => .array .boolean
  | 5 => .array .int
  | 6 => .array .int
  | 7 => .array .int
  | 8 => .array .int
  | 9 => .array .int
  | 10 => .array .int
  | 11 => .array .int
  | 12 => .array .int
  | 13 => .array .boolean
  | 14 => .array .long
  | 15 => .array .long
  | 16 => .array .int
  | 17 => .array .int
  | 18 => .array .long
  | 19 => .array .int
  | 20 => .array .int
  | 21 => .array .int
  | 22 => .array .int
  | 23 => .array .int
  | 24 => .array .int
  | 25 => .array .int
  | 26 => .array .int
  | 27 => .array .long
  | 28 => .array .int
  | 29 => .array .int
  | 30 => .array .long
  | 31 => .array .int
  | 32 => .array .int
  | 33 => .array .int
  | 34 => .array .int
  | 35 => .array .int
  | 36 => .array .long
  | 37 => .array .long
  | 38 => .array .boolean
  | 39 => .array .int
  | 40 => .array .int
  | 41 => .array .int
  | 42 => .array .int
  | 43 => .array .int
  | 44 => .array .int
  | 45 => .array .int
  | 46 => .int
  | 47 => .int
  | 48 => .array .int
  | 49 => .array .int
  | 50 => .int
  | 51 => .array .int
  | 52 => .array .int
  | 53 => .int
  | 54 => .array .int
  | 55 => .int
  | 56 => .array .int
  | 57 => .array .int
  | 58 => .int
  | 59 => .int
  | 60 => .boolean
  | 61 => .array .boolean
  | 62 => .array .int
  | 63 => .array .int
  | 64 => .array .int
  | 65 => .array .int
  | 66 => .array .int
  | _ => .array .int
abbrev wsX130 : List Cond := u_ws RX13 TX13 68
theorem nmX13 : ∀ a, a < 68 → ∀ b, b < 68 → a ≠ b → (TX13 a).2.1 ≠ (TX13 b).2.1 := by decide +kernel
theorem tyX13_ok : ∀ k, k < 68 → parseFieldDescriptor (TX13 k).2.2.1 = some (tyX13 k) := by decide +kernel
abbrev cX13_init : ByteArray := prog_15_method_1_code
def yX13_init : MethodName := ⟨RX13, "<init>", "()V"⟩
abbrev cX13_thrown : ByteArray := prog_15_method_2_code
def yX13_thrown : MethodName := ⟨RX13, "thrown", "()I"⟩
abbrev cX13_feed : ByteArray := prog_15_method_3_code
def yX13_feed : MethodName := ⟨RX13, "feed", "(IIIII)I"⟩
abbrev cX13_end : ByteArray := prog_15_method_4_code
def yX13_end : MethodName := ⟨RX13, "end", "(I)I"⟩
abbrev cX13_small : ByteArray := prog_15_method_5_code
def yX13_small : MethodName := ⟨RX13, "small", "(I)I"⟩
abbrev cX13_isSign : ByteArray := prog_15_method_6_code
def yX13_isSign : MethodName := ⟨RX13, "isSign", "(I)Z"⟩
abbrev cX13_alike : ByteArray := prog_15_method_7_code
def yX13_alike : MethodName := ⟨RX13, "alike", "([II[II)Z"⟩
abbrev cX13_same : ByteArray := prog_15_method_8_code
def yX13_same : MethodName := ⟨RX13, "same", "([II[II)Z"⟩
abbrev cX13_copy : ByteArray := prog_15_method_9_code
def yX13_copy : MethodName := ⟨RX13, "copy", "([II[II)V"⟩
abbrev cX13_takesWord : ByteArray := prog_15_method_10_code
def yX13_takesWord : MethodName := ⟨RX13, "takesWord", "()Z"⟩
abbrev cX13_begin : ByteArray := prog_15_method_11_code
def yX13_begin : MethodName := ⟨RX13, "begin", "(I)V"⟩
abbrev cX13_put : ByteArray := prog_15_method_12_code
def yX13_put : MethodName := ⟨RX13, "put", "(II)V"⟩
abbrev cX13_putWord : ByteArray := prog_15_method_13_code
def yX13_putWord : MethodName := ⟨RX13, "putWord", "([II)V"⟩
abbrev cX13_send : ByteArray := prog_15_method_14_code
def yX13_send : MethodName := ⟨RX13, "send", "(I)V"⟩
abbrev cX13_address : ByteArray := prog_15_method_15_code
def yX13_address : MethodName := ⟨RX13, "address", "(I)I"⟩
abbrev cX13_sendAddress : ByteArray := prog_15_method_16_code
def yX13_sendAddress : MethodName := ⟨RX13, "sendAddress", "(II)V"⟩
abbrev cX13_putOwn : ByteArray := prog_15_method_17_code
def yX13_putOwn : MethodName := ⟨RX13, "putOwn", "(II)V"⟩
abbrev cX13_putService : ByteArray := prog_15_method_18_code
def yX13_putService : MethodName := ⟨RX13, "putService", "(III)V"⟩
abbrev cX13_tells : ByteArray := prog_15_method_19_code
def yX13_tells : MethodName := ⟨RX13, "tells", "(IIZ)V"⟩
abbrev cX13_sendAsk : ByteArray := prog_15_method_20_code
def yX13_sendAsk : MethodName := ⟨RX13, "sendAsk", "(II[IIZ)V"⟩
abbrev cX13_probes : ByteArray := prog_15_method_21_code
def yX13_probes : MethodName := ⟨RX13, "probes", "(I)V"⟩
abbrev cX13_movesOn : ByteArray := prog_15_method_22_code
def yX13_movesOn : MethodName := ⟨RX13, "movesOn", "(I)V"⟩
abbrev cX13_probesName : ByteArray := prog_15_method_23_code
def yX13_probesName : MethodName := ⟨RX13, "probesName", "(I)V"⟩
abbrev cX13_renames : ByteArray := prog_15_method_24_code
def yX13_renames : MethodName := ⟨RX13, "renames", "(I)V"⟩
abbrev cX13_address1 : ByteArray := prog_15_method_25_code
def yX13_address1 : MethodName := ⟨RX13, "address1", "(I)V"⟩
abbrev cX13_name1 : ByteArray := prog_15_method_26_code
def yX13_name1 : MethodName := ⟨RX13, "name1", "(I)V"⟩
abbrev cX13_asks : ByteArray := prog_15_method_27_code
def yX13_asks : MethodName := ⟨RX13, "asks", "(I)V"⟩
abbrev cX13_replies1 : ByteArray := prog_15_method_28_code
def yX13_replies1 : MethodName := ⟨RX13, "replies1", "(II)V"⟩
abbrev cX13_entryDue : ByteArray := prog_15_method_29_code
def yX13_entryDue : MethodName := ⟨RX13, "entryDue", "(I)J"⟩
abbrev cX13_entry1 : ByteArray := prog_15_method_30_code
def yX13_entry1 : MethodName := ⟨RX13, "entry1", "(II)V"⟩
abbrev cX13_acts : ByteArray := prog_15_method_31_code
def yX13_acts : MethodName := ⟨RX13, "acts", "()Z"⟩
abbrev cX13_nextDue : ByteArray := prog_15_method_32_code
def yX13_nextDue : MethodName := ⟨RX13, "nextDue", "()J"⟩
abbrev cX13_millisecond : ByteArray := prog_15_method_33_code
def yX13_millisecond : MethodName := ⟨RX13, "millisecond", "()V"⟩
abbrev cX13_go : ByteArray := prog_15_method_34_code
def yX13_go : MethodName := ⟨RX13, "go", "(I)I"⟩
abbrev cX13_take : ByteArray := prog_15_method_35_code
def yX13_take : MethodName := ⟨RX13, "take", "(I)I"⟩
abbrev cX13_takeAddress : ByteArray := prog_15_method_36_code
def yX13_takeAddress : MethodName := ⟨RX13, "takeAddress", "()I"⟩
abbrev cX13_takeWord : ByteArray := prog_15_method_37_code
def yX13_takeWord : MethodName := ⟨RX13, "takeWord", "([II)V"⟩
abbrev cX13_takeTold : ByteArray := prog_15_method_38_code
def yX13_takeTold : MethodName := ⟨RX13, "takeTold", "(II)V"⟩
abbrev cX13_takes : ByteArray := prog_15_method_39_code
def yX13_takes : MethodName := ⟨RX13, "takes", "(I)Z"⟩
abbrev cX13_aprobe : ByteArray := prog_15_method_40_code
def yX13_aprobe : MethodName := ⟨RX13, "aprobe", "(III)V"⟩
abbrev cX13_atell : ByteArray := prog_15_method_41_code
def yX13_atell : MethodName := ⟨RX13, "atell", "(III)V"⟩
abbrev cX13_nprobe : ByteArray := prog_15_method_42_code
def yX13_nprobe : MethodName := ⟨RX13, "nprobe", "(II)V"⟩
abbrev cX13_ask1 : ByteArray := prog_15_method_43_code
def yX13_ask1 : MethodName := ⟨RX13, "ask1", "(II)V"⟩
abbrev cX13_dies : ByteArray := prog_15_method_44_code
def yX13_dies : MethodName := ⟨RX13, "dies", "(I)V"⟩
abbrev cX13_record : ByteArray := prog_15_method_45_code
def yX13_record : MethodName := ⟨RX13, "record", "(II)V"⟩
abbrev cX13_isHost : ByteArray := prog_15_method_46_code
def yX13_isHost : MethodName := ⟨RX13, "isHost", "(I)Z"⟩
abbrev cX13_on : ByteArray := prog_15_method_47_code
def yX13_on : MethodName := ⟨RX13, "on", "(II)Z"⟩
abbrev cX13_forgets : ByteArray := prog_15_method_48_code
def yX13_forgets : MethodName := ⟨RX13, "forgets", "(I)V"⟩
abbrev cX13_off : ByteArray := prog_15_method_49_code
def yX13_off : MethodName := ⟨RX13, "off", "(IZ)Z"⟩
abbrev cX13_claim : ByteArray := prog_15_method_50_code
def yX13_claim : MethodName := ⟨RX13, "claim", "(I)Z"⟩
abbrev cX13_service : ByteArray := prog_15_method_51_code
def yX13_service : MethodName := ⟨RX13, "service", "(II)I"⟩
abbrev cX13_ask : ByteArray := prog_15_method_52_code
def yX13_ask : MethodName := ⟨RX13, "ask", "(II)I"⟩
abbrev cX13_isOpen : ByteArray := prog_15_method_53_code
def yX13_isOpen : MethodName := ⟨RX13, "isOpen", "(II)Z"⟩
abbrev cX13_close : ByteArray := prog_15_method_54_code
def yX13_close : MethodName := ⟨RX13, "close", "(II)Z"⟩
abbrev cX13_split : ByteArray := prog_15_method_55_code
def yX13_split : MethodName := ⟨RX13, "split", "(I)V"⟩
abbrev cX13_join : ByteArray := prog_15_method_56_code
def yX13_join : MethodName := ⟨RX13, "join", "()V"⟩
abbrev cX13_lose : ByteArray := prog_15_method_57_code
def yX13_lose : MethodName := ⟨RX13, "lose", "(II)Z"⟩
abbrev cX13_give : ByteArray := prog_15_method_58_code
def yX13_give : MethodName := ⟨RX13, "give", "(I)I"⟩
abbrev cX13_fails : ByteArray := prog_15_method_59_code
def yX13_fails : MethodName := ⟨RX13, "fails", "(I)I"⟩
abbrev cX13_look : ByteArray := prog_15_method_60_code
def yX13_look : MethodName := ⟨RX13, "look", "(II)I"⟩
abbrev cX13_sign : ByteArray := prog_15_method_61_code
def yX13_sign : MethodName := ⟨RX13, "sign", "(II)I"⟩
abbrev cX13_foundAt : ByteArray := prog_15_method_62_code
def yX13_foundAt : MethodName := ⟨RX13, "foundAt", "(III)I"⟩
abbrev cX13_answers : ByteArray := prog_15_method_63_code
def yX13_answers : MethodName := ⟨RX13, "answers", "(II)I"⟩
abbrev cX13_found : ByteArray := prog_15_method_64_code
def yX13_found : MethodName := ⟨RX13, "found", "(IIII)I"⟩
abbrev cX13_entry : ByteArray := prog_15_method_65_code
def yX13_entry : MethodName := ⟨RX13, "entry", "(III)I"⟩
abbrev cX13_count : ByteArray := prog_15_method_66_code
def yX13_count : MethodName := ⟨RX13, "count", "(I)I"⟩
abbrev cX13_holders : ByteArray := prog_15_method_67_code
def yX13_holders : MethodName := ⟨RX13, "holders", "(I)I"⟩
abbrev cX13_sent : ByteArray := prog_15_method_68_code
def yX13_sent : MethodName := ⟨RX13, "sent", "(I)I"⟩
def RJ9 : String := "java/lang/Math"
def TJ9 : u_T := fun k => match k with
  | _ => ("", "", "", false)
def tyJ9 : Nat → FieldType := fun k => match k with
  | _ => .int
abbrev wsJ90 : List Cond := u_ws RJ9 TJ9 0
theorem nmJ9 : ∀ a, a < 0 → ∀ b, b < 0 → a ≠ b → (TJ9 a).2.1 ≠ (TJ9 b).2.1 := by decide +kernel
theorem tyJ9_ok : ∀ k, k < 0 → parseFieldDescriptor (TJ9 k).2.2.1 = some (tyJ9 k) := by decide +kernel
abbrev cJ9_min_7cf53 : ByteArray := prog_18_method_69_code
def yJ9_min_7cf53 : MethodName := ⟨RJ9, "min", "(II)I"⟩
abbrev cJ9_min_f86c9 : ByteArray := prog_18_method_70_code
def yJ9_min_f86c9 : MethodName := ⟨RJ9, "min", "(JJ)J"⟩
def RJ0 : String := "java/lang/String"
def TJ0 : u_T := fun k => match k with
  | _ => ("", "", "", false)
def tyJ0 : Nat → FieldType := fun k => match k with
  | _ => .int
abbrev wsJ00 : List Cond := u_ws RJ0 TJ0 0
theorem nmJ0 : ∀ a, a < 0 → ∀ b, b < 0 → a ≠ b → (TJ0 a).2.1 ≠ (TJ0 b).2.1 := by decide +kernel
theorem tyJ0_ok : ∀ k, k < 0 → parseFieldDescriptor (TJ0 k).2.2.1 = some (tyJ0 k) := by decide +kernel
def RL : String := "CableNamesLaw"
abbrev cL_look : ByteArray := method_3_code
def yL_look : MethodName := ⟨RL, "look", "(LCableNames;II[J)I"⟩
abbrev cL_law : ByteArray := code
def yL_law : MethodName := ⟨RL, "law", "([I)Z"⟩
abbrev vwCl : List vw_C := [(RX0, TX0, 5), (RX1, TX1, 2), (RX2, TX2, 10), (RX3, TX3, 16), (RX4, TX4, 6), (RX5, TX5, 6), (RX6, TX6, 5), (RX7, TX7, 9), (RX8, TX8, 2), (RX9, TX9, 2), (RX10, TX10, 6), (RX11, TX11, 2), (RX12, TX12, 10), (RX13, TX13, 68)]
end
section
theorem dX11_init_0 : decode cX11_init 0 = .ok (.aload_n 0, 1) := by decide +kernel
theorem dX11_init_1 : decode cX11_init 1 = .ok (.invokespecial 3, 3) := by decide +kernel
theorem dX11_init_4 : decode cX11_init 4 = .ok (.aload_n 0, 1) := by decide +kernel
theorem dX11_init_5 : decode cX11_init 5 = .ok (.bipush 15, 2) := by decide +kernel
theorem dX11_init_7 : decode cX11_init 7 = .ok (.newarray .byte, 2) := by decide +kernel
theorem dX11_init_9 : decode cX11_init 9 = .ok (.putfield 11, 3) := by decide +kernel
theorem dX11_init_12 : decode cX11_init 12 = .ok (.aload_n 0, 1) := by decide +kernel
theorem dX11_init_13 : decode cX11_init 13 = .ok (.iconst 0, 1) := by decide +kernel
theorem dX11_init_14 : decode cX11_init 14 = .ok (.putfield 15, 3) := by decide +kernel
theorem dX11_init_17 : decode cX11_init 17 = .ok (.return_, 1) := by decide +kernel
theorem dX10_init_0 : decode cX10_init 0 = .ok (.aload_n 0, 1) := by decide +kernel
theorem dX10_init_1 : decode cX10_init 1 = .ok (.invokespecial 1, 3) := by decide +kernel
theorem dX10_init_4 : decode cX10_init 4 = .ok (.aload_n 0, 1) := by decide +kernel
theorem dX10_init_5 : decode cX10_init 5 = .ok (.new 7, 3) := by decide +kernel
theorem dX10_init_8 : decode cX10_init 8 = .ok (.dup, 1) := by decide +kernel
theorem dX10_init_9 : decode cX10_init 9 = .ok (.invokespecial 9, 3) := by decide +kernel
theorem dX10_init_12 : decode cX10_init 12 = .ok (.putfield 10, 3) := by decide +kernel
theorem dX10_init_15 : decode cX10_init 15 = .ok (.aload_n 0, 1) := by decide +kernel
theorem dX10_init_16 : decode cX10_init 16 = .ok (.new 7, 3) := by decide +kernel
theorem dX10_init_19 : decode cX10_init 19 = .ok (.dup, 1) := by decide +kernel
theorem dX10_init_20 : decode cX10_init 20 = .ok (.invokespecial 9, 3) := by decide +kernel
theorem dX10_init_23 : decode cX10_init 23 = .ok (.putfield 16, 3) := by decide +kernel
theorem dX10_init_26 : decode cX10_init 26 = .ok (.aload_n 0, 1) := by decide +kernel
theorem dX10_init_27 : decode cX10_init 27 = .ok (.iconst 0, 1) := by decide +kernel
theorem dX10_init_28 : decode cX10_init 28 = .ok (.putfield 19, 3) := by decide +kernel
theorem dX10_init_31 : decode cX10_init 31 = .ok (.aload_n 0, 1) := by decide +kernel
theorem dX10_init_32 : decode cX10_init 32 = .ok (.iconst 0, 1) := by decide +kernel
theorem dX10_init_33 : decode cX10_init 33 = .ok (.putfield 23, 3) := by decide +kernel
theorem dX10_init_36 : decode cX10_init 36 = .ok (.aload_n 0, 1) := by decide +kernel
theorem dX10_init_37 : decode cX10_init 37 = .ok (.iconst 0, 1) := by decide +kernel
theorem dX10_init_38 : decode cX10_init 38 = .ok (.putfield 26, 3) := by decide +kernel
theorem dX10_init_41 : decode cX10_init 41 = .ok (.aload_n 0, 1) := by decide +kernel
theorem dX10_init_42 : decode cX10_init 42 = .ok (.iconst 0, 1) := by decide +kernel
theorem dX10_init_43 : decode cX10_init 43 = .ok (.putfield 29, 3) := by decide +kernel
theorem dX10_init_46 : decode cX10_init 46 = .ok (.return_, 1) := by decide +kernel
theorem dX7_init_0 : decode cX7_init 0 = .ok (.aload_n 0, 1) := by decide +kernel
theorem dX7_init_1 : decode cX7_init 1 = .ok (.invokespecial 3, 3) := by decide +kernel
theorem dX7_init_4 : decode cX7_init 4 = .ok (.aload_n 0, 1) := by decide +kernel
theorem dX7_init_5 : decode cX7_init 5 = .ok (.bipush 8, 2) := by decide +kernel
theorem dX7_init_7 : decode cX7_init 7 = .ok (.anewarray 9, 3) := by decide +kernel
theorem dX7_init_10 : decode cX7_init 10 = .ok (.putfield 11, 3) := by decide +kernel
theorem dX7_init_13 : decode cX7_init 13 = .ok (.aload_n 0, 1) := by decide +kernel
theorem dX7_init_14 : decode cX7_init 14 = .ok (.new 17, 3) := by decide +kernel
theorem dX7_init_17 : decode cX7_init 17 = .ok (.dup, 1) := by decide +kernel
theorem dX7_init_18 : decode cX7_init 18 = .ok (.invokespecial 19, 3) := by decide +kernel
theorem dX7_init_21 : decode cX7_init 21 = .ok (.putfield 20, 3) := by decide +kernel
theorem dX7_init_24 : decode cX7_init 24 = .ok (.aload_n 0, 1) := by decide +kernel
theorem dX7_init_25 : decode cX7_init 25 = .ok (.iconst 0, 1) := by decide +kernel
theorem dX7_init_26 : decode cX7_init 26 = .ok (.putfield 24, 3) := by decide +kernel
theorem dX7_init_29 : decode cX7_init 29 = .ok (.aload_n 0, 1) := by decide +kernel
theorem dX7_init_30 : decode cX7_init 30 = .ok (.iconst 0, 1) := by decide +kernel
theorem dX7_init_31 : decode cX7_init 31 = .ok (.putfield 28, 3) := by decide +kernel
theorem dX7_init_34 : decode cX7_init 34 = .ok (.aload_n 0, 1) := by decide +kernel
theorem dX7_init_35 : decode cX7_init 35 = .ok (.iconst 0, 1) := by decide +kernel
theorem dX7_init_36 : decode cX7_init 36 = .ok (.putfield 31, 3) := by decide +kernel
theorem dX7_init_39 : decode cX7_init 39 = .ok (.aload_n 0, 1) := by decide +kernel
theorem dX7_init_40 : decode cX7_init 40 = .ok (.iconst 0, 1) := by decide +kernel
theorem dX7_init_41 : decode cX7_init 41 = .ok (.putfield 34, 3) := by decide +kernel
theorem dX7_init_44 : decode cX7_init 44 = .ok (.aload_n 0, 1) := by decide +kernel
theorem dX7_init_45 : decode cX7_init 45 = .ok (.iconst 0, 1) := by decide +kernel
theorem dX7_init_46 : decode cX7_init 46 = .ok (.putfield 37, 3) := by decide +kernel
theorem dX7_init_49 : decode cX7_init 49 = .ok (.aload_n 0, 1) := by decide +kernel
theorem dX7_init_50 : decode cX7_init 50 = .ok (.iconst 0, 1) := by decide +kernel
theorem dX7_init_51 : decode cX7_init 51 = .ok (.putfield 40, 3) := by decide +kernel
theorem dX7_init_54 : decode cX7_init 54 = .ok (.aload_n 0, 1) := by decide +kernel
theorem dX7_init_55 : decode cX7_init 55 = .ok (.iconst 0, 1) := by decide +kernel
theorem dX7_init_56 : decode cX7_init 56 = .ok (.putfield 43, 3) := by decide +kernel
theorem dX7_init_59 : decode cX7_init 59 = .ok (.iconst 0, 1) := by decide +kernel
theorem dX7_init_60 : decode cX7_init 60 = .ok (.istore_n 1, 1) := by decide +kernel
theorem dX7_init_61 : decode cX7_init 61 = .ok (.iload_n 1, 1) := by decide +kernel
theorem dX7_init_62 : decode cX7_init 62 = .ok (.bipush 8, 2) := by decide +kernel
theorem dX7_init_64 : decode cX7_init 64 = .ok (.if_icmp .ge 22, 3) := by decide +kernel
theorem dX7_init_67 : decode cX7_init 67 = .ok (.aload_n 0, 1) := by decide +kernel
theorem dX7_init_68 : decode cX7_init 68 = .ok (.getfield 11, 3) := by decide +kernel
theorem dX7_init_71 : decode cX7_init 71 = .ok (.iload_n 1, 1) := by decide +kernel
theorem dX7_init_72 : decode cX7_init 72 = .ok (.new 9, 3) := by decide +kernel
theorem dX7_init_75 : decode cX7_init 75 = .ok (.dup, 1) := by decide +kernel
theorem dX7_init_76 : decode cX7_init 76 = .ok (.invokespecial 47, 3) := by decide +kernel
theorem dX7_init_79 : decode cX7_init 79 = .ok (.aastore, 1) := by decide +kernel
theorem dX7_init_80 : decode cX7_init 80 = .ok (.iinc 1 1, 3) := by decide +kernel
theorem dX7_init_83 : decode cX7_init 83 = .ok (.goto (-22), 3) := by decide +kernel
theorem dX7_init_86 : decode cX7_init 86 = .ok (.return_, 1) := by decide +kernel
theorem dX2_init_0 : decode cX2_init 0 = .ok (.aload_n 0, 1) := by decide +kernel
theorem dX2_init_1 : decode cX2_init 1 = .ok (.invokespecial 3, 3) := by decide +kernel
theorem dX2_init_4 : decode cX2_init 4 = .ok (.aload_n 0, 1) := by decide +kernel
theorem dX2_init_5 : decode cX2_init 5 = .ok (.new 9, 3) := by decide +kernel
theorem dX2_init_8 : decode cX2_init 8 = .ok (.dup, 1) := by decide +kernel
theorem dX2_init_9 : decode cX2_init 9 = .ok (.invokespecial 11, 3) := by decide +kernel
theorem dX2_init_12 : decode cX2_init 12 = .ok (.putfield 12, 3) := by decide +kernel
theorem dX2_init_15 : decode cX2_init 15 = .ok (.aload_n 0, 1) := by decide +kernel
theorem dX2_init_16 : decode cX2_init 16 = .ok (.new 9, 3) := by decide +kernel
theorem dX2_init_19 : decode cX2_init 19 = .ok (.dup, 1) := by decide +kernel
theorem dX2_init_20 : decode cX2_init 20 = .ok (.invokespecial 11, 3) := by decide +kernel
theorem dX2_init_23 : decode cX2_init 23 = .ok (.putfield 18, 3) := by decide +kernel
theorem dX2_init_26 : decode cX2_init 26 = .ok (.aload_n 0, 1) := by decide +kernel
theorem dX2_init_27 : decode cX2_init 27 = .ok (.iconst 0, 1) := by decide +kernel
theorem dX2_init_28 : decode cX2_init 28 = .ok (.putfield 21, 3) := by decide +kernel
theorem dX2_init_31 : decode cX2_init 31 = .ok (.aload_n 0, 1) := by decide +kernel
theorem dX2_init_32 : decode cX2_init 32 = .ok (.iconst 0, 1) := by decide +kernel
theorem dX2_init_33 : decode cX2_init 33 = .ok (.putfield 25, 3) := by decide +kernel
theorem dX2_init_36 : decode cX2_init 36 = .ok (.aload_n 0, 1) := by decide +kernel
theorem dX2_init_37 : decode cX2_init 37 = .ok (.iconst 0, 1) := by decide +kernel
theorem dX2_init_38 : decode cX2_init 38 = .ok (.putfield 28, 3) := by decide +kernel
theorem dX2_init_41 : decode cX2_init 41 = .ok (.aload_n 0, 1) := by decide +kernel
theorem dX2_init_42 : decode cX2_init 42 = .ok (.iconst 0, 1) := by decide +kernel
theorem dX2_init_43 : decode cX2_init 43 = .ok (.putfield 31, 3) := by decide +kernel
theorem dX2_init_46 : decode cX2_init 46 = .ok (.aload_n 0, 1) := by decide +kernel
theorem dX2_init_47 : decode cX2_init 47 = .ok (.lconst 0, 1) := by decide +kernel
theorem dX2_init_48 : decode cX2_init 48 = .ok (.putfield 34, 3) := by decide +kernel
theorem dX2_init_51 : decode cX2_init 51 = .ok (.aload_n 0, 1) := by decide +kernel
theorem dX2_init_52 : decode cX2_init 52 = .ok (.lconst 0, 1) := by decide +kernel
theorem dX2_init_53 : decode cX2_init 53 = .ok (.putfield 38, 3) := by decide +kernel
theorem dX2_init_56 : decode cX2_init 56 = .ok (.aload_n 0, 1) := by decide +kernel
theorem dX2_init_57 : decode cX2_init 57 = .ok (.lconst 0, 1) := by decide +kernel
theorem dX2_init_58 : decode cX2_init 58 = .ok (.putfield 41, 3) := by decide +kernel
theorem dX2_init_61 : decode cX2_init 61 = .ok (.aload_n 0, 1) := by decide +kernel
theorem dX2_init_62 : decode cX2_init 62 = .ok (.iconst 0, 1) := by decide +kernel
theorem dX2_init_63 : decode cX2_init 63 = .ok (.putfield 44, 3) := by decide +kernel
theorem dX2_init_66 : decode cX2_init 66 = .ok (.return_, 1) := by decide +kernel
theorem dX1_init_0 : decode cX1_init 0 = .ok (.aload_n 0, 1) := by decide +kernel
theorem dX1_init_1 : decode cX1_init 1 = .ok (.invokespecial 3, 3) := by decide +kernel
theorem dX1_init_4 : decode cX1_init 4 = .ok (.aload_n 0, 1) := by decide +kernel
theorem dX1_init_5 : decode cX1_init 5 = .ok (.bipush 24, 2) := by decide +kernel
theorem dX1_init_7 : decode cX1_init 7 = .ok (.anewarray 11, 3) := by decide +kernel
theorem dX1_init_10 : decode cX1_init 10 = .ok (.putfield 13, 3) := by decide +kernel
theorem dX1_init_13 : decode cX1_init 13 = .ok (.aload_n 0, 1) := by decide +kernel
theorem dX1_init_14 : decode cX1_init 14 = .ok (.iconst 0, 1) := by decide +kernel
theorem dX1_init_15 : decode cX1_init 15 = .ok (.putfield 17, 3) := by decide +kernel
theorem dX1_init_18 : decode cX1_init 18 = .ok (.iconst 0, 1) := by decide +kernel
theorem dX1_init_19 : decode cX1_init 19 = .ok (.istore_n 1, 1) := by decide +kernel
theorem dX1_init_20 : decode cX1_init 20 = .ok (.iload_n 1, 1) := by decide +kernel
theorem dX1_init_21 : decode cX1_init 21 = .ok (.bipush 24, 2) := by decide +kernel
theorem dX1_init_23 : decode cX1_init 23 = .ok (.if_icmp .ge 22, 3) := by decide +kernel
theorem dX1_init_26 : decode cX1_init 26 = .ok (.aload_n 0, 1) := by decide +kernel
theorem dX1_init_27 : decode cX1_init 27 = .ok (.getfield 13, 3) := by decide +kernel
theorem dX1_init_30 : decode cX1_init 30 = .ok (.iload_n 1, 1) := by decide +kernel
theorem dX1_init_31 : decode cX1_init 31 = .ok (.new 11, 3) := by decide +kernel
theorem dX1_init_34 : decode cX1_init 34 = .ok (.dup, 1) := by decide +kernel
theorem dX1_init_35 : decode cX1_init 35 = .ok (.invokespecial 21, 3) := by decide +kernel
theorem dX1_init_38 : decode cX1_init 38 = .ok (.aastore, 1) := by decide +kernel
theorem dX1_init_39 : decode cX1_init 39 = .ok (.iinc 1 1, 3) := by decide +kernel
theorem dX1_init_42 : decode cX1_init 42 = .ok (.goto (-22), 3) := by decide +kernel
theorem dX1_init_45 : decode cX1_init 45 = .ok (.return_, 1) := by decide +kernel
theorem dX9_init_0 : decode cX9_init 0 = .ok (.aload_n 0, 1) := by decide +kernel
theorem dX9_init_1 : decode cX9_init 1 = .ok (.invokespecial 1, 3) := by decide +kernel
theorem dX9_init_4 : decode cX9_init 4 = .ok (.aload_n 0, 1) := by decide +kernel
theorem dX9_init_5 : decode cX9_init 5 = .ok (.new 7, 3) := by decide +kernel
theorem dX9_init_8 : decode cX9_init 8 = .ok (.dup, 1) := by decide +kernel
theorem dX9_init_9 : decode cX9_init 9 = .ok (.invokespecial 9, 3) := by decide +kernel
theorem dX9_init_12 : decode cX9_init 12 = .ok (.putfield 10, 3) := by decide +kernel
theorem dX9_init_15 : decode cX9_init 15 = .ok (.aload_n 0, 1) := by decide +kernel
theorem dX9_init_16 : decode cX9_init 16 = .ok (.iconst 0, 1) := by decide +kernel
theorem dX9_init_17 : decode cX9_init 17 = .ok (.putfield 16, 3) := by decide +kernel
theorem dX9_init_20 : decode cX9_init 20 = .ok (.return_, 1) := by decide +kernel
theorem dX6_init_0 : decode cX6_init 0 = .ok (.aload_n 0, 1) := by decide +kernel
theorem dX6_init_1 : decode cX6_init 1 = .ok (.invokespecial 1, 3) := by decide +kernel
theorem dX6_init_4 : decode cX6_init 4 = .ok (.aload_n 0, 1) := by decide +kernel
theorem dX6_init_5 : decode cX6_init 5 = .ok (.new 7, 3) := by decide +kernel
theorem dX6_init_8 : decode cX6_init 8 = .ok (.dup, 1) := by decide +kernel
theorem dX6_init_9 : decode cX6_init 9 = .ok (.invokespecial 9, 3) := by decide +kernel
theorem dX6_init_12 : decode cX6_init 12 = .ok (.putfield 10, 3) := by decide +kernel
theorem dX6_init_15 : decode cX6_init 15 = .ok (.aload_n 0, 1) := by decide +kernel
theorem dX6_init_16 : decode cX6_init 16 = .ok (.iconst 0, 1) := by decide +kernel
theorem dX6_init_17 : decode cX6_init 17 = .ok (.putfield 16, 3) := by decide +kernel
theorem dX6_init_20 : decode cX6_init 20 = .ok (.aload_n 0, 1) := by decide +kernel
theorem dX6_init_21 : decode cX6_init 21 = .ok (.iconst 0, 1) := by decide +kernel
theorem dX6_init_22 : decode cX6_init 22 = .ok (.putfield 20, 3) := by decide +kernel
theorem dX6_init_25 : decode cX6_init 25 = .ok (.aload_n 0, 1) := by decide +kernel
theorem dX6_init_26 : decode cX6_init 26 = .ok (.iconst 0, 1) := by decide +kernel
theorem dX6_init_27 : decode cX6_init 27 = .ok (.putfield 24, 3) := by decide +kernel
theorem dX6_init_30 : decode cX6_init 30 = .ok (.aload_n 0, 1) := by decide +kernel
theorem dX6_init_31 : decode cX6_init 31 = .ok (.lconst 0, 1) := by decide +kernel
theorem dX6_init_32 : decode cX6_init 32 = .ok (.putfield 27, 3) := by decide +kernel
theorem dX6_init_35 : decode cX6_init 35 = .ok (.return_, 1) := by decide +kernel
theorem dX8_init_0 : decode cX8_init 0 = .ok (.aload_n 0, 1) := by decide +kernel
theorem dX8_init_1 : decode cX8_init 1 = .ok (.invokespecial 1, 3) := by decide +kernel
theorem dX8_init_4 : decode cX8_init 4 = .ok (.aload_n 0, 1) := by decide +kernel
theorem dX8_init_5 : decode cX8_init 5 = .ok (.new 7, 3) := by decide +kernel
theorem dX8_init_8 : decode cX8_init 8 = .ok (.dup, 1) := by decide +kernel
theorem dX8_init_9 : decode cX8_init 9 = .ok (.invokespecial 9, 3) := by decide +kernel
theorem dX8_init_12 : decode cX8_init 12 = .ok (.putfield 10, 3) := by decide +kernel
theorem dX8_init_15 : decode cX8_init 15 = .ok (.aload_n 0, 1) := by decide +kernel
theorem dX8_init_16 : decode cX8_init 16 = .ok (.lconst 0, 1) := by decide +kernel
theorem dX8_init_17 : decode cX8_init 17 = .ok (.putfield 16, 3) := by decide +kernel
theorem dX8_init_20 : decode cX8_init 20 = .ok (.return_, 1) := by decide +kernel
theorem dX0_init_0 : decode cX0_init 0 = .ok (.aload_n 0, 1) := by decide +kernel
theorem dX0_init_1 : decode cX0_init 1 = .ok (.invokespecial 3, 3) := by decide +kernel
theorem dX0_init_4 : decode cX0_init 4 = .ok (.aload_n 0, 1) := by decide +kernel
theorem dX0_init_5 : decode cX0_init 5 = .ok (.iconst 0, 1) := by decide +kernel
theorem dX0_init_6 : decode cX0_init 6 = .ok (.putfield 9, 3) := by decide +kernel
theorem dX0_init_9 : decode cX0_init 9 = .ok (.aload_n 0, 1) := by decide +kernel
theorem dX0_init_10 : decode cX0_init 10 = .ok (.iconst 0, 1) := by decide +kernel
theorem dX0_init_11 : decode cX0_init 11 = .ok (.putfield 15, 3) := by decide +kernel
theorem dX0_init_14 : decode cX0_init 14 = .ok (.aload_n 0, 1) := by decide +kernel
theorem dX0_init_15 : decode cX0_init 15 = .ok (.iconst 0, 1) := by decide +kernel
theorem dX0_init_16 : decode cX0_init 16 = .ok (.putfield 18, 3) := by decide +kernel
theorem dX0_init_19 : decode cX0_init 19 = .ok (.aload_n 0, 1) := by decide +kernel
theorem dX0_init_20 : decode cX0_init 20 = .ok (.ldc2_w 21, 3) := by decide +kernel
theorem dX0_init_23 : decode cX0_init 23 = .ok (.putfield 23, 3) := by decide +kernel
theorem dX0_init_26 : decode cX0_init 26 = .ok (.aload_n 0, 1) := by decide +kernel
theorem dX0_init_27 : decode cX0_init 27 = .ok (.ldc2_w 27, 3) := by decide +kernel
theorem dX0_init_30 : decode cX0_init 30 = .ok (.putfield 29, 3) := by decide +kernel
theorem dX0_init_33 : decode cX0_init 33 = .ok (.return_, 1) := by decide +kernel
theorem dX4_init_0 : decode cX4_init 0 = .ok (.aload_n 0, 1) := by decide +kernel
theorem dX4_init_1 : decode cX4_init 1 = .ok (.invokespecial 3, 3) := by decide +kernel
theorem dX4_init_4 : decode cX4_init 4 = .ok (.aload_n 0, 1) := by decide +kernel
theorem dX4_init_5 : decode cX4_init 5 = .ok (.new 9, 3) := by decide +kernel
theorem dX4_init_8 : decode cX4_init 8 = .ok (.dup, 1) := by decide +kernel
theorem dX4_init_9 : decode cX4_init 9 = .ok (.invokespecial 11, 3) := by decide +kernel
theorem dX4_init_12 : decode cX4_init 12 = .ok (.putfield 12, 3) := by decide +kernel
theorem dX4_init_15 : decode cX4_init 15 = .ok (.aload_n 0, 1) := by decide +kernel
theorem dX4_init_16 : decode cX4_init 16 = .ok (.new 9, 3) := by decide +kernel
theorem dX4_init_19 : decode cX4_init 19 = .ok (.dup, 1) := by decide +kernel
theorem dX4_init_20 : decode cX4_init 20 = .ok (.invokespecial 11, 3) := by decide +kernel
theorem dX4_init_23 : decode cX4_init 23 = .ok (.putfield 18, 3) := by decide +kernel
theorem dX4_init_26 : decode cX4_init 26 = .ok (.aload_n 0, 1) := by decide +kernel
theorem dX4_init_27 : decode cX4_init 27 = .ok (.iconst 0, 1) := by decide +kernel
theorem dX4_init_28 : decode cX4_init 28 = .ok (.putfield 21, 3) := by decide +kernel
theorem dX4_init_31 : decode cX4_init 31 = .ok (.aload_n 0, 1) := by decide +kernel
theorem dX4_init_32 : decode cX4_init 32 = .ok (.iconst 1, 1) := by decide +kernel
theorem dX4_init_33 : decode cX4_init 33 = .ok (.putfield 25, 3) := by decide +kernel
theorem dX4_init_36 : decode cX4_init 36 = .ok (.aload_n 0, 1) := by decide +kernel
theorem dX4_init_37 : decode cX4_init 37 = .ok (.iconst 0, 1) := by decide +kernel
theorem dX4_init_38 : decode cX4_init 38 = .ok (.putfield 28, 3) := by decide +kernel
theorem dX4_init_41 : decode cX4_init 41 = .ok (.aload_n 0, 1) := by decide +kernel
theorem dX4_init_42 : decode cX4_init 42 = .ok (.ldc2_w 31, 3) := by decide +kernel
theorem dX4_init_45 : decode cX4_init 45 = .ok (.putfield 33, 3) := by decide +kernel
theorem dX4_init_48 : decode cX4_init 48 = .ok (.return_, 1) := by decide +kernel
theorem dX5_init_0 : decode cX5_init 0 = .ok (.aload_n 0, 1) := by decide +kernel
theorem dX5_init_1 : decode cX5_init 1 = .ok (.invokespecial 3, 3) := by decide +kernel
theorem dX5_init_4 : decode cX5_init 4 = .ok (.aload_n 0, 1) := by decide +kernel
theorem dX5_init_5 : decode cX5_init 5 = .ok (.sipush 200, 3) := by decide +kernel
theorem dX5_init_8 : decode cX5_init 8 = .ok (.newarray .byte, 2) := by decide +kernel
theorem dX5_init_10 : decode cX5_init 10 = .ok (.putfield 11, 3) := by decide +kernel
theorem dX5_init_13 : decode cX5_init 13 = .ok (.aload_n 0, 1) := by decide +kernel
theorem dX5_init_14 : decode cX5_init 14 = .ok (.bipush 17, 2) := by decide +kernel
theorem dX5_init_16 : decode cX5_init 16 = .ok (.newarray .int, 2) := by decide +kernel
theorem dX5_init_18 : decode cX5_init 18 = .ok (.putfield 15, 3) := by decide +kernel
theorem dX5_init_21 : decode cX5_init 21 = .ok (.aload_n 0, 1) := by decide +kernel
theorem dX5_init_22 : decode cX5_init 22 = .ok (.iconst 0, 1) := by decide +kernel
theorem dX5_init_23 : decode cX5_init 23 = .ok (.putfield 19, 3) := by decide +kernel
theorem dX5_init_26 : decode cX5_init 26 = .ok (.aload_n 0, 1) := by decide +kernel
theorem dX5_init_27 : decode cX5_init 27 = .ok (.iconst 0, 1) := by decide +kernel
theorem dX5_init_28 : decode cX5_init 28 = .ok (.putfield 23, 3) := by decide +kernel
theorem dX5_init_31 : decode cX5_init 31 = .ok (.aload_n 0, 1) := by decide +kernel
theorem dX5_init_32 : decode cX5_init 32 = .ok (.iconst (-1), 1) := by decide +kernel
theorem dX5_init_33 : decode cX5_init 33 = .ok (.putfield 26, 3) := by decide +kernel
theorem dX5_init_36 : decode cX5_init 36 = .ok (.aload_n 0, 1) := by decide +kernel
theorem dX5_init_37 : decode cX5_init 37 = .ok (.iconst 0, 1) := by decide +kernel
theorem dX5_init_38 : decode cX5_init 38 = .ok (.putfield 29, 3) := by decide +kernel
theorem dX5_init_41 : decode cX5_init 41 = .ok (.return_, 1) := by decide +kernel
theorem dX3_init_0 : decode cX3_init 0 = .ok (.aload_n 0, 1) := by decide +kernel
theorem dX3_init_1 : decode cX3_init 1 = .ok (.invokespecial 3, 3) := by decide +kernel
theorem dX3_init_4 : decode cX3_init 4 = .ok (.aload_n 0, 1) := by decide +kernel
theorem dX3_init_5 : decode cX3_init 5 = .ok (.new 9, 3) := by decide +kernel
theorem dX3_init_8 : decode cX3_init 8 = .ok (.dup, 1) := by decide +kernel
theorem dX3_init_9 : decode cX3_init 9 = .ok (.invokespecial 11, 3) := by decide +kernel
theorem dX3_init_12 : decode cX3_init 12 = .ok (.putfield 12, 3) := by decide +kernel
theorem dX3_init_15 : decode cX3_init 15 = .ok (.aload_n 0, 1) := by decide +kernel
theorem dX3_init_16 : decode cX3_init 16 = .ok (.new 18, 3) := by decide +kernel
theorem dX3_init_19 : decode cX3_init 19 = .ok (.dup, 1) := by decide +kernel
theorem dX3_init_20 : decode cX3_init 20 = .ok (.invokespecial 20, 3) := by decide +kernel
theorem dX3_init_23 : decode cX3_init 23 = .ok (.putfield 21, 3) := by decide +kernel
theorem dX3_init_26 : decode cX3_init 26 = .ok (.aload_n 0, 1) := by decide +kernel
theorem dX3_init_27 : decode cX3_init 27 = .ok (.iconst 4, 1) := by decide +kernel
theorem dX3_init_28 : decode cX3_init 28 = .ok (.anewarray 25, 3) := by decide +kernel
theorem dX3_init_31 : decode cX3_init 31 = .ok (.putfield 27, 3) := by decide +kernel
theorem dX3_init_34 : decode cX3_init 34 = .ok (.aload_n 0, 1) := by decide +kernel
theorem dX3_init_35 : decode cX3_init 35 = .ok (.iconst 4, 1) := by decide +kernel
theorem dX3_init_36 : decode cX3_init 36 = .ok (.anewarray 31, 3) := by decide +kernel
theorem dX3_init_39 : decode cX3_init 39 = .ok (.putfield 33, 3) := by decide +kernel
theorem dX3_init_42 : decode cX3_init 42 = .ok (.aload_n 0, 1) := by decide +kernel
theorem dX3_init_43 : decode cX3_init 43 = .ok (.iconst 4, 1) := by decide +kernel
theorem dX3_init_44 : decode cX3_init 44 = .ok (.anewarray 37, 3) := by decide +kernel
theorem dX3_init_47 : decode cX3_init 47 = .ok (.putfield 39, 3) := by decide +kernel
theorem dX3_init_50 : decode cX3_init 50 = .ok (.aload_n 0, 1) := by decide +kernel
theorem dX3_init_51 : decode cX3_init 51 = .ok (.new 43, 3) := by decide +kernel
theorem dX3_init_54 : decode cX3_init 54 = .ok (.dup, 1) := by decide +kernel
theorem dX3_init_55 : decode cX3_init 55 = .ok (.invokespecial 45, 3) := by decide +kernel
theorem dX3_init_58 : decode cX3_init 58 = .ok (.putfield 46, 3) := by decide +kernel
theorem dX3_init_61 : decode cX3_init 61 = .ok (.aload_n 0, 1) := by decide +kernel
theorem dX3_init_62 : decode cX3_init 62 = .ok (.iconst 0, 1) := by decide +kernel
theorem dX3_init_63 : decode cX3_init 63 = .ok (.putfield 50, 3) := by decide +kernel
theorem dX3_init_66 : decode cX3_init 66 = .ok (.aload_n 0, 1) := by decide +kernel
theorem dX3_init_67 : decode cX3_init 67 = .ok (.iconst 0, 1) := by decide +kernel
theorem dX3_init_68 : decode cX3_init 68 = .ok (.putfield 54, 3) := by decide +kernel
theorem dX3_init_71 : decode cX3_init 71 = .ok (.aload_n 0, 1) := by decide +kernel
theorem dX3_init_72 : decode cX3_init 72 = .ok (.iconst 0, 1) := by decide +kernel
theorem dX3_init_73 : decode cX3_init 73 = .ok (.putfield 58, 3) := by decide +kernel
theorem dX3_init_76 : decode cX3_init 76 = .ok (.aload_n 0, 1) := by decide +kernel
theorem dX3_init_77 : decode cX3_init 77 = .ok (.iconst 0, 1) := by decide +kernel
theorem dX3_init_78 : decode cX3_init 78 = .ok (.putfield 61, 3) := by decide +kernel
theorem dX3_init_81 : decode cX3_init 81 = .ok (.aload_n 0, 1) := by decide +kernel
theorem dX3_init_82 : decode cX3_init 82 = .ok (.iconst 0, 1) := by decide +kernel
theorem dX3_init_83 : decode cX3_init 83 = .ok (.putfield 64, 3) := by decide +kernel
theorem dX3_init_86 : decode cX3_init 86 = .ok (.aload_n 0, 1) := by decide +kernel
theorem dX3_init_87 : decode cX3_init 87 = .ok (.iconst 0, 1) := by decide +kernel
theorem dX3_init_88 : decode cX3_init 88 = .ok (.putfield 67, 3) := by decide +kernel
theorem dX3_init_91 : decode cX3_init 91 = .ok (.aload_n 0, 1) := by decide +kernel
theorem dX3_init_92 : decode cX3_init 92 = .ok (.iconst 0, 1) := by decide +kernel
theorem dX3_init_93 : decode cX3_init 93 = .ok (.putfield 70, 3) := by decide +kernel
theorem dX3_init_96 : decode cX3_init 96 = .ok (.aload_n 0, 1) := by decide +kernel
theorem dX3_init_97 : decode cX3_init 97 = .ok (.iconst 0, 1) := by decide +kernel
theorem dX3_init_98 : decode cX3_init 98 = .ok (.putfield 73, 3) := by decide +kernel
theorem dX3_init_101 : decode cX3_init 101 = .ok (.aload_n 0, 1) := by decide +kernel
theorem dX3_init_102 : decode cX3_init 102 = .ok (.iconst 0, 1) := by decide +kernel
theorem dX3_init_103 : decode cX3_init 103 = .ok (.putfield 76, 3) := by decide +kernel
theorem dX3_init_106 : decode cX3_init 106 = .ok (.aload_n 0, 1) := by decide +kernel
theorem dX3_init_107 : decode cX3_init 107 = .ok (.iload_n 1, 1) := by decide +kernel
theorem dX3_init_108 : decode cX3_init 108 = .ok (.putfield 79, 3) := by decide +kernel
theorem dX3_init_111 : decode cX3_init 111 = .ok (.iconst 0, 1) := by decide +kernel
theorem dX3_init_112 : decode cX3_init 112 = .ok (.istore_n 2, 1) := by decide +kernel
theorem dX3_init_113 : decode cX3_init 113 = .ok (.iload_n 2, 1) := by decide +kernel
theorem dX3_init_114 : decode cX3_init 114 = .ok (.iconst 4, 1) := by decide +kernel
theorem dX3_init_115 : decode cX3_init 115 = .ok (.if_icmp .ge 48, 3) := by decide +kernel
theorem dX3_init_118 : decode cX3_init 118 = .ok (.aload_n 0, 1) := by decide +kernel
theorem dX3_init_119 : decode cX3_init 119 = .ok (.getfield 27, 3) := by decide +kernel
theorem dX3_init_122 : decode cX3_init 122 = .ok (.iload_n 2, 1) := by decide +kernel
theorem dX3_init_123 : decode cX3_init 123 = .ok (.new 25, 3) := by decide +kernel
theorem dX3_init_126 : decode cX3_init 126 = .ok (.dup, 1) := by decide +kernel
theorem dX3_init_127 : decode cX3_init 127 = .ok (.invokespecial 82, 3) := by decide +kernel
theorem dX3_init_130 : decode cX3_init 130 = .ok (.aastore, 1) := by decide +kernel
theorem dX3_init_131 : decode cX3_init 131 = .ok (.aload_n 0, 1) := by decide +kernel
theorem dX3_init_132 : decode cX3_init 132 = .ok (.getfield 33, 3) := by decide +kernel
theorem dX3_init_135 : decode cX3_init 135 = .ok (.iload_n 2, 1) := by decide +kernel
theorem dX3_init_136 : decode cX3_init 136 = .ok (.new 31, 3) := by decide +kernel
theorem dX3_init_139 : decode cX3_init 139 = .ok (.dup, 1) := by decide +kernel
theorem dX3_init_140 : decode cX3_init 140 = .ok (.invokespecial 83, 3) := by decide +kernel
theorem dX3_init_143 : decode cX3_init 143 = .ok (.aastore, 1) := by decide +kernel
theorem dX3_init_144 : decode cX3_init 144 = .ok (.aload_n 0, 1) := by decide +kernel
theorem dX3_init_145 : decode cX3_init 145 = .ok (.getfield 39, 3) := by decide +kernel
theorem dX3_init_148 : decode cX3_init 148 = .ok (.iload_n 2, 1) := by decide +kernel
theorem dX3_init_149 : decode cX3_init 149 = .ok (.new 37, 3) := by decide +kernel
theorem dX3_init_152 : decode cX3_init 152 = .ok (.dup, 1) := by decide +kernel
theorem dX3_init_153 : decode cX3_init 153 = .ok (.invokespecial 84, 3) := by decide +kernel
theorem dX3_init_156 : decode cX3_init 156 = .ok (.aastore, 1) := by decide +kernel
theorem dX3_init_157 : decode cX3_init 157 = .ok (.iinc 2 1, 3) := by decide +kernel
theorem dX3_init_160 : decode cX3_init 160 = .ok (.goto (-47), 3) := by decide +kernel
theorem dX3_init_163 : decode cX3_init 163 = .ok (.return_, 1) := by decide +kernel
theorem dX12_init_0 : decode cX12_init 0 = .ok (.aload_n 0, 1) := by decide +kernel
theorem dX12_init_1 : decode cX12_init 1 = .ok (.invokespecial 1, 3) := by decide +kernel
theorem dX12_init_4 : decode cX12_init 4 = .ok (.aload_n 0, 1) := by decide +kernel
theorem dX12_init_5 : decode cX12_init 5 = .ok (.bipush 8, 2) := by decide +kernel
theorem dX12_init_7 : decode cX12_init 7 = .ok (.anewarray 9, 3) := by decide +kernel
theorem dX12_init_10 : decode cX12_init 10 = .ok (.putfield 11, 3) := by decide +kernel
theorem dX12_init_13 : decode cX12_init 13 = .ok (.aload_n 0, 1) := by decide +kernel
theorem dX12_init_14 : decode cX12_init 14 = .ok (.new 15, 3) := by decide +kernel
theorem dX12_init_17 : decode cX12_init 17 = .ok (.dup, 1) := by decide +kernel
theorem dX12_init_18 : decode cX12_init 18 = .ok (.invokespecial 17, 3) := by decide +kernel
theorem dX12_init_21 : decode cX12_init 21 = .ok (.putfield 18, 3) := by decide +kernel
theorem dX12_init_24 : decode cX12_init 24 = .ok (.aload_n 0, 1) := by decide +kernel
theorem dX12_init_25 : decode cX12_init 25 = .ok (.new 22, 3) := by decide +kernel
theorem dX12_init_28 : decode cX12_init 28 = .ok (.dup, 1) := by decide +kernel
theorem dX12_init_29 : decode cX12_init 29 = .ok (.invokespecial 24, 3) := by decide +kernel
theorem dX12_init_32 : decode cX12_init 32 = .ok (.putfield 25, 3) := by decide +kernel
theorem dX12_init_35 : decode cX12_init 35 = .ok (.aload_n 0, 1) := by decide +kernel
theorem dX12_init_36 : decode cX12_init 36 = .ok (.bipush 10, 2) := by decide +kernel
theorem dX12_init_38 : decode cX12_init 38 = .ok (.newarray .int, 2) := by decide +kernel
theorem dX12_init_40 : decode cX12_init 40 = .ok (.putfield 29, 3) := by decide +kernel
theorem dX12_init_43 : decode cX12_init 43 = .ok (.aload_n 0, 1) := by decide +kernel
theorem dX12_init_44 : decode cX12_init 44 = .ok (.sipush 1025, 3) := by decide +kernel
theorem dX12_init_47 : decode cX12_init 47 = .ok (.anewarray 15, 3) := by decide +kernel
theorem dX12_init_50 : decode cX12_init 50 = .ok (.putfield 33, 3) := by decide +kernel
theorem dX12_init_53 : decode cX12_init 53 = .ok (.aload_n 0, 1) := by decide +kernel
theorem dX12_init_54 : decode cX12_init 54 = .ok (.iconst 0, 1) := by decide +kernel
theorem dX12_init_55 : decode cX12_init 55 = .ok (.putfield 37, 3) := by decide +kernel
theorem dX12_init_58 : decode cX12_init 58 = .ok (.aload_n 0, 1) := by decide +kernel
theorem dX12_init_59 : decode cX12_init 59 = .ok (.iconst 0, 1) := by decide +kernel
theorem dX12_init_60 : decode cX12_init 60 = .ok (.putfield 41, 3) := by decide +kernel
theorem dX12_init_63 : decode cX12_init 63 = .ok (.aload_n 0, 1) := by decide +kernel
theorem dX12_init_64 : decode cX12_init 64 = .ok (.aconst_null, 1) := by decide +kernel
theorem dX12_init_65 : decode cX12_init 65 = .ok (.putfield 44, 3) := by decide +kernel
theorem dX12_init_68 : decode cX12_init 68 = .ok (.aload_n 0, 1) := by decide +kernel
theorem dX12_init_69 : decode cX12_init 69 = .ok (.ldc2_w 47, 3) := by decide +kernel
theorem dX12_init_72 : decode cX12_init 72 = .ok (.putfield 49, 3) := by decide +kernel
theorem dX12_init_75 : decode cX12_init 75 = .ok (.aload_n 0, 1) := by decide +kernel
theorem dX12_init_76 : decode cX12_init 76 = .ok (.lconst 0, 1) := by decide +kernel
theorem dX12_init_77 : decode cX12_init 77 = .ok (.putfield 53, 3) := by decide +kernel
theorem dX12_init_80 : decode cX12_init 80 = .ok (.iconst 0, 1) := by decide +kernel
theorem dX12_init_81 : decode cX12_init 81 = .ok (.istore_n 1, 1) := by decide +kernel
theorem dX12_init_82 : decode cX12_init 82 = .ok (.iload_n 1, 1) := by decide +kernel
theorem dX12_init_83 : decode cX12_init 83 = .ok (.bipush 8, 2) := by decide +kernel
theorem dX12_init_85 : decode cX12_init 85 = .ok (.if_icmp .ge 23, 3) := by decide +kernel
theorem dX12_init_88 : decode cX12_init 88 = .ok (.aload_n 0, 1) := by decide +kernel
theorem dX12_init_89 : decode cX12_init 89 = .ok (.getfield 11, 3) := by decide +kernel
theorem dX12_init_92 : decode cX12_init 92 = .ok (.iload_n 1, 1) := by decide +kernel
theorem dX12_init_93 : decode cX12_init 93 = .ok (.new 9, 3) := by decide +kernel
theorem dX12_init_96 : decode cX12_init 96 = .ok (.dup, 1) := by decide +kernel
theorem dX12_init_97 : decode cX12_init 97 = .ok (.iload_n 1, 1) := by decide +kernel
theorem dX12_init_98 : decode cX12_init 98 = .ok (.invokespecial 56, 3) := by decide +kernel
theorem dX12_init_101 : decode cX12_init 101 = .ok (.aastore, 1) := by decide +kernel
theorem dX12_init_102 : decode cX12_init 102 = .ok (.iinc 1 1, 3) := by decide +kernel
theorem dX12_init_105 : decode cX12_init 105 = .ok (.goto (-23), 3) := by decide +kernel
theorem dX12_init_108 : decode cX12_init 108 = .ok (.return_, 1) := by decide +kernel
theorem dX5_put_0 : decode cX5_put 0 = .ok (.aload_n 0, 1) := by decide +kernel
theorem dX5_put_1 : decode cX5_put 1 = .ok (.getfield 19, 3) := by decide +kernel
theorem dX5_put_4 : decode cX5_put 4 = .ok (.sipush 200, 3) := by decide +kernel
theorem dX5_put_7 : decode cX5_put 7 = .ok (.if_icmp .ge 24, 3) := by decide +kernel
theorem dX5_put_10 : decode cX5_put 10 = .ok (.aload_n 0, 1) := by decide +kernel
theorem dX5_put_11 : decode cX5_put 11 = .ok (.getfield 11, 3) := by decide +kernel
theorem dX5_put_14 : decode cX5_put 14 = .ok (.aload_n 0, 1) := by decide +kernel
theorem dX5_put_15 : decode cX5_put 15 = .ok (.getfield 19, 3) := by decide +kernel
theorem dX5_put_18 : decode cX5_put 18 = .ok (.iload_n 1, 1) := by decide +kernel
theorem dX5_put_19 : decode cX5_put 19 = .ok (.i2b, 1) := by decide +kernel
theorem dX5_put_20 : decode cX5_put 20 = .ok (.bastore, 1) := by decide +kernel
theorem dX5_put_21 : decode cX5_put 21 = .ok (.aload_n 0, 1) := by decide +kernel
theorem dX5_put_22 : decode cX5_put 22 = .ok (.dup, 1) := by decide +kernel
theorem dX5_put_23 : decode cX5_put 23 = .ok (.getfield 19, 3) := by decide +kernel
theorem dX5_put_26 : decode cX5_put 26 = .ok (.iconst 1, 1) := by decide +kernel
theorem dX5_put_27 : decode cX5_put 27 = .ok (.iadd, 1) := by decide +kernel
theorem dX5_put_28 : decode cX5_put 28 = .ok (.putfield 19, 3) := by decide +kernel
theorem dX5_put_31 : decode cX5_put 31 = .ok (.return_, 1) := by decide +kernel
theorem dX5_putNumber_0 : decode cX5_putNumber 0 = .ok (.iload_n 2, 1) := by decide +kernel
theorem dX5_putNumber_1 : decode cX5_putNumber 1 = .ok (.iconst 1, 1) := by decide +kernel
theorem dX5_putNumber_2 : decode cX5_putNumber 2 = .ok (.isub, 1) := by decide +kernel
theorem dX5_putNumber_3 : decode cX5_putNumber 3 = .ok (.istore_n 3, 1) := by decide +kernel
theorem dX5_putNumber_4 : decode cX5_putNumber 4 = .ok (.iload_n 3, 1) := by decide +kernel
theorem dX5_putNumber_5 : decode cX5_putNumber 5 = .ok (.ifCond .lt 19, 3) := by decide +kernel
theorem dX5_putNumber_8 : decode cX5_putNumber 8 = .ok (.aload_n 0, 1) := by decide +kernel
theorem dX5_putNumber_9 : decode cX5_putNumber 9 = .ok (.iload_n 1, 1) := by decide +kernel
theorem dX5_putNumber_10 : decode cX5_putNumber 10 = .ok (.bipush 8, 2) := by decide +kernel
theorem dX5_putNumber_12 : decode cX5_putNumber 12 = .ok (.iload_n 3, 1) := by decide +kernel
theorem dX5_putNumber_13 : decode cX5_putNumber 13 = .ok (.imul, 1) := by decide +kernel
theorem dX5_putNumber_14 : decode cX5_putNumber 14 = .ok (.ishr, 1) := by decide +kernel
theorem dX5_putNumber_15 : decode cX5_putNumber 15 = .ok (.invokevirtual 32, 3) := by decide +kernel
theorem dX5_putNumber_18 : decode cX5_putNumber 18 = .ok (.iinc 3 (-1), 3) := by decide +kernel
theorem dX5_putNumber_21 : decode cX5_putNumber 21 = .ok (.goto (-17), 3) := by decide +kernel
theorem dX5_putNumber_24 : decode cX5_putNumber 24 = .ok (.return_, 1) := by decide +kernel
theorem dX5_at_0 : decode cX5_at 0 = .ok (.iload_n 1, 1) := by decide +kernel
theorem dX5_at_1 : decode cX5_at 1 = .ok (.ifCond .lt 11, 3) := by decide +kernel
theorem dX5_at_4 : decode cX5_at 4 = .ok (.iload_n 1, 1) := by decide +kernel
theorem dX5_at_5 : decode cX5_at 5 = .ok (.aload_n 0, 1) := by decide +kernel
theorem dX5_at_6 : decode cX5_at 6 = .ok (.getfield 19, 3) := by decide +kernel
theorem dX5_at_9 : decode cX5_at 9 = .ok (.if_icmp .lt 7, 3) := by decide +kernel
theorem dX5_at_12 : decode cX5_at 12 = .ok (.iconst (-1), 1) := by decide +kernel
theorem dX5_at_13 : decode cX5_at 13 = .ok (.goto 13, 3) := by decide +kernel
theorem dX5_at_16 : decode cX5_at 16 = .ok (.aload_n 0, 1) := by decide +kernel
theorem dX5_at_17 : decode cX5_at 17 = .ok (.getfield 11, 3) := by decide +kernel
theorem dX5_at_20 : decode cX5_at 20 = .ok (.iload_n 1, 1) := by decide +kernel
theorem dX5_at_21 : decode cX5_at 21 = .ok (.baload, 1) := by decide +kernel
theorem dX5_at_22 : decode cX5_at 22 = .ok (.sipush 255, 3) := by decide +kernel
theorem dX5_at_25 : decode cX5_at 25 = .ok (.iand, 1) := by decide +kernel
theorem dX5_at_26 : decode cX5_at 26 = .ok (.ireturn, 1) := by decide +kernel
theorem dX12_feed_0 : decode cX12_feed 0 = .ok (.aload_n 0, 1) := by decide +kernel
theorem dX12_feed_1 : decode cX12_feed 1 = .ok (.getfield 18, 3) := by decide +kernel
theorem dX12_feed_4 : decode cX12_feed 4 = .ok (.getfield 59, 3) := by decide +kernel
theorem dX12_feed_7 : decode cX12_feed 7 = .ok (.bipush 20, 2) := by decide +kernel
theorem dX12_feed_9 : decode cX12_feed 9 = .ok (.iadd, 1) := by decide +kernel
theorem dX12_feed_10 : decode cX12_feed 10 = .ok (.sipush 200, 3) := by decide +kernel
theorem dX12_feed_13 : decode cX12_feed 13 = .ok (.if_icmp .le 5, 3) := by decide +kernel
theorem dX12_feed_16 : decode cX12_feed 16 = .ok (.iconst (-1), 1) := by decide +kernel
theorem dX12_feed_17 : decode cX12_feed 17 = .ok (.ireturn, 1) := by decide +kernel
theorem dX12_feed_18 : decode cX12_feed 18 = .ok (.aload_n 0, 1) := by decide +kernel
theorem dX12_feed_19 : decode cX12_feed 19 = .ok (.getfield 18, 3) := by decide +kernel
theorem dX12_feed_22 : decode cX12_feed 22 = .ok (.iload_n 1, 1) := by decide +kernel
theorem dX12_feed_23 : decode cX12_feed 23 = .ok (.iconst 4, 1) := by decide +kernel
theorem dX12_feed_24 : decode cX12_feed 24 = .ok (.invokevirtual 62, 3) := by decide +kernel
theorem dX12_feed_27 : decode cX12_feed 27 = .ok (.aload_n 0, 1) := by decide +kernel
theorem dX12_feed_28 : decode cX12_feed 28 = .ok (.getfield 18, 3) := by decide +kernel
theorem dX12_feed_31 : decode cX12_feed 31 = .ok (.iload_n 2, 1) := by decide +kernel
theorem dX12_feed_32 : decode cX12_feed 32 = .ok (.iconst 4, 1) := by decide +kernel
theorem dX12_feed_33 : decode cX12_feed 33 = .ok (.invokevirtual 62, 3) := by decide +kernel
theorem dX12_feed_36 : decode cX12_feed 36 = .ok (.aload_n 0, 1) := by decide +kernel
theorem dX12_feed_37 : decode cX12_feed 37 = .ok (.getfield 18, 3) := by decide +kernel
theorem dX12_feed_40 : decode cX12_feed 40 = .ok (.iload_n 3, 1) := by decide +kernel
theorem dX12_feed_41 : decode cX12_feed 41 = .ok (.iconst 4, 1) := by decide +kernel
theorem dX12_feed_42 : decode cX12_feed 42 = .ok (.invokevirtual 62, 3) := by decide +kernel
theorem dX12_feed_45 : decode cX12_feed 45 = .ok (.aload_n 0, 1) := by decide +kernel
theorem dX12_feed_46 : decode cX12_feed 46 = .ok (.getfield 18, 3) := by decide +kernel
theorem dX12_feed_49 : decode cX12_feed 49 = .ok (.iload 4, 2) := by decide +kernel
theorem dX12_feed_51 : decode cX12_feed 51 = .ok (.iconst 4, 1) := by decide +kernel
theorem dX12_feed_52 : decode cX12_feed 52 = .ok (.invokevirtual 62, 3) := by decide +kernel
theorem dX12_feed_55 : decode cX12_feed 55 = .ok (.aload_n 0, 1) := by decide +kernel
theorem dX12_feed_56 : decode cX12_feed 56 = .ok (.getfield 18, 3) := by decide +kernel
theorem dX12_feed_59 : decode cX12_feed 59 = .ok (.iload 5, 2) := by decide +kernel
theorem dX12_feed_61 : decode cX12_feed 61 = .ok (.iconst 4, 1) := by decide +kernel
theorem dX12_feed_62 : decode cX12_feed 62 = .ok (.invokevirtual 62, 3) := by decide +kernel
theorem dX12_feed_65 : decode cX12_feed 65 = .ok (.aload_n 0, 1) := by decide +kernel
theorem dX12_feed_66 : decode cX12_feed 66 = .ok (.getfield 18, 3) := by decide +kernel
theorem dX12_feed_69 : decode cX12_feed 69 = .ok (.getfield 59, 3) := by decide +kernel
theorem dX12_feed_72 : decode cX12_feed 72 = .ok (.ireturn, 1) := by decide +kernel
theorem dX12_end_0 : decode cX12_end 0 = .ok (.iload_n 1, 1) := by decide +kernel
theorem dX12_end_1 : decode cX12_end 1 = .ok (.ifCond .lt 14, 3) := by decide +kernel
theorem dX12_end_4 : decode cX12_end 4 = .ok (.iload_n 1, 1) := by decide +kernel
theorem dX12_end_5 : decode cX12_end 5 = .ok (.aload_n 0, 1) := by decide +kernel
theorem dX12_end_6 : decode cX12_end 6 = .ok (.getfield 18, 3) := by decide +kernel
theorem dX12_end_9 : decode cX12_end 9 = .ok (.getfield 59, 3) := by decide +kernel
theorem dX12_end_12 : decode cX12_end 12 = .ok (.if_icmp .le 5, 3) := by decide +kernel
theorem dX12_end_15 : decode cX12_end 15 = .ok (.iconst (-1), 1) := by decide +kernel
theorem dX12_end_16 : decode cX12_end 16 = .ok (.ireturn, 1) := by decide +kernel
theorem dX12_end_17 : decode cX12_end 17 = .ok (.aload_n 0, 1) := by decide +kernel
theorem dX12_end_18 : decode cX12_end 18 = .ok (.getfield 18, 3) := by decide +kernel
theorem dX12_end_21 : decode cX12_end 21 = .ok (.iload_n 1, 1) := by decide +kernel
theorem dX12_end_22 : decode cX12_end 22 = .ok (.putfield 59, 3) := by decide +kernel
theorem dX12_end_25 : decode cX12_end 25 = .ok (.iload_n 1, 1) := by decide +kernel
theorem dX12_end_26 : decode cX12_end 26 = .ok (.ireturn, 1) := by decide +kernel
theorem dX12_hostThatIsOn_0 : decode cX12_hostThatIsOn 0 = .ok (.iload_n 1, 1) := by decide +kernel
theorem dX12_hostThatIsOn_1 : decode cX12_hostThatIsOn 1 = .ok (.ifCond .lt 21, 3) := by decide +kernel
theorem dX12_hostThatIsOn_4 : decode cX12_hostThatIsOn 4 = .ok (.iload_n 1, 1) := by decide +kernel
theorem dX12_hostThatIsOn_5 : decode cX12_hostThatIsOn 5 = .ok (.bipush 8, 2) := by decide +kernel
theorem dX12_hostThatIsOn_7 : decode cX12_hostThatIsOn 7 = .ok (.if_icmp .ge 15, 3) := by decide +kernel
theorem dX12_hostThatIsOn_10 : decode cX12_hostThatIsOn 10 = .ok (.aload_n 0, 1) := by decide +kernel
theorem dX12_hostThatIsOn_11 : decode cX12_hostThatIsOn 11 = .ok (.getfield 11, 3) := by decide +kernel
theorem dX12_hostThatIsOn_14 : decode cX12_hostThatIsOn 14 = .ok (.iload_n 1, 1) := by decide +kernel
theorem dX12_hostThatIsOn_15 : decode cX12_hostThatIsOn 15 = .ok (.aaload, 1) := by decide +kernel
theorem dX12_hostThatIsOn_16 : decode cX12_hostThatIsOn 16 = .ok (.getfield 83, 3) := by decide +kernel
theorem dX12_hostThatIsOn_19 : decode cX12_hostThatIsOn 19 = .ok (.ifCond .ne 5, 3) := by decide +kernel
theorem dX12_hostThatIsOn_22 : decode cX12_hostThatIsOn 22 = .ok (.aconst_null, 1) := by decide +kernel
theorem dX12_hostThatIsOn_23 : decode cX12_hostThatIsOn 23 = .ok (.areturn, 1) := by decide +kernel
theorem dX12_hostThatIsOn_24 : decode cX12_hostThatIsOn 24 = .ok (.aload_n 0, 1) := by decide +kernel
theorem dX12_hostThatIsOn_25 : decode cX12_hostThatIsOn 25 = .ok (.getfield 11, 3) := by decide +kernel
theorem dX12_hostThatIsOn_28 : decode cX12_hostThatIsOn 28 = .ok (.iload_n 1, 1) := by decide +kernel
theorem dX12_hostThatIsOn_29 : decode cX12_hostThatIsOn 29 = .ok (.aaload, 1) := by decide +kernel
theorem dX12_hostThatIsOn_30 : decode cX12_hostThatIsOn 30 = .ok (.areturn, 1) := by decide +kernel
theorem dX12_openQuestion_0 : decode cX12_openQuestion 0 = .ok (.aload_n 0, 1) := by decide +kernel
theorem dX12_openQuestion_1 : decode cX12_openQuestion 1 = .ok (.iload_n 1, 1) := by decide +kernel
theorem dX12_openQuestion_2 : decode cX12_openQuestion 2 = .ok (.invokevirtual 94, 3) := by decide +kernel
theorem dX12_openQuestion_5 : decode cX12_openQuestion 5 = .ok (.astore_n 3, 1) := by decide +kernel
theorem dX12_openQuestion_6 : decode cX12_openQuestion 6 = .ok (.aload_n 3, 1) := by decide +kernel
theorem dX12_openQuestion_7 : decode cX12_openQuestion 7 = .ok (.ifnull 12, 3) := by decide +kernel
theorem dX12_openQuestion_10 : decode cX12_openQuestion 10 = .ok (.iload_n 2, 1) := by decide +kernel
theorem dX12_openQuestion_11 : decode cX12_openQuestion 11 = .ok (.ifCond .lt 8, 3) := by decide +kernel
theorem dX12_openQuestion_14 : decode cX12_openQuestion 14 = .ok (.iload_n 2, 1) := by decide +kernel
theorem dX12_openQuestion_15 : decode cX12_openQuestion 15 = .ok (.iconst 4, 1) := by decide +kernel
theorem dX12_openQuestion_16 : decode cX12_openQuestion 16 = .ok (.if_icmp .lt 5, 3) := by decide +kernel
theorem dX12_openQuestion_19 : decode cX12_openQuestion 19 = .ok (.aconst_null, 1) := by decide +kernel
theorem dX12_openQuestion_20 : decode cX12_openQuestion 20 = .ok (.areturn, 1) := by decide +kernel
theorem dX12_openQuestion_21 : decode cX12_openQuestion 21 = .ok (.aload_n 3, 1) := by decide +kernel
theorem dX12_openQuestion_22 : decode cX12_openQuestion 22 = .ok (.getfield 158, 3) := by decide +kernel
theorem dX12_openQuestion_25 : decode cX12_openQuestion 25 = .ok (.iload_n 2, 1) := by decide +kernel
theorem dX12_openQuestion_26 : decode cX12_openQuestion 26 = .ok (.aaload, 1) := by decide +kernel
theorem dX12_openQuestion_27 : decode cX12_openQuestion 27 = .ok (.astore 4, 2) := by decide +kernel
theorem dX12_openQuestion_29 : decode cX12_openQuestion 29 = .ok (.aload 4, 2) := by decide +kernel
theorem dX12_openQuestion_31 : decode cX12_openQuestion 31 = .ok (.getfield 162, 3) := by decide +kernel
theorem dX12_openQuestion_34 : decode cX12_openQuestion 34 = .ok (.ifCond .eq 8, 3) := by decide +kernel
theorem dX12_openQuestion_37 : decode cX12_openQuestion 37 = .ok (.aload 4, 2) := by decide +kernel
theorem dX12_openQuestion_39 : decode cX12_openQuestion 39 = .ok (.goto 4, 3) := by decide +kernel
theorem dX12_openQuestion_42 : decode cX12_openQuestion 42 = .ok (.aconst_null, 1) := by decide +kernel
theorem dX12_openQuestion_43 : decode cX12_openQuestion 43 = .ok (.areturn, 1) := by decide +kernel
theorem dX12_tapeIsWord_0 : decode cX12_tapeIsWord 0 = .ok (.aload_n 0, 1) := by decide +kernel
theorem dX12_tapeIsWord_1 : decode cX12_tapeIsWord 1 = .ok (.getfield 18, 3) := by decide +kernel
theorem dX12_tapeIsWord_4 : decode cX12_tapeIsWord 4 = .ok (.getfield 59, 3) := by decide +kernel
theorem dX12_tapeIsWord_7 : decode cX12_tapeIsWord 7 = .ok (.iconst 1, 1) := by decide +kernel
theorem dX12_tapeIsWord_8 : decode cX12_tapeIsWord 8 = .ok (.if_icmp .lt 15, 3) := by decide +kernel
theorem dX12_tapeIsWord_11 : decode cX12_tapeIsWord 11 = .ok (.aload_n 0, 1) := by decide +kernel
theorem dX12_tapeIsWord_12 : decode cX12_tapeIsWord 12 = .ok (.getfield 18, 3) := by decide +kernel
theorem dX12_tapeIsWord_15 : decode cX12_tapeIsWord 15 = .ok (.getfield 59, 3) := by decide +kernel
theorem dX12_tapeIsWord_18 : decode cX12_tapeIsWord 18 = .ok (.bipush 15, 2) := by decide +kernel
theorem dX12_tapeIsWord_20 : decode cX12_tapeIsWord 20 = .ok (.if_icmp .le 5, 3) := by decide +kernel
theorem dX12_tapeIsWord_23 : decode cX12_tapeIsWord 23 = .ok (.iconst 0, 1) := by decide +kernel
theorem dX12_tapeIsWord_24 : decode cX12_tapeIsWord 24 = .ok (.ireturn, 1) := by decide +kernel
theorem dX12_tapeIsWord_25 : decode cX12_tapeIsWord 25 = .ok (.iconst 0, 1) := by decide +kernel
theorem dX12_tapeIsWord_26 : decode cX12_tapeIsWord 26 = .ok (.istore_n 1, 1) := by decide +kernel
theorem dX12_tapeIsWord_27 : decode cX12_tapeIsWord 27 = .ok (.iload_n 1, 1) := by decide +kernel
theorem dX12_tapeIsWord_28 : decode cX12_tapeIsWord 28 = .ok (.aload_n 0, 1) := by decide +kernel
theorem dX12_tapeIsWord_29 : decode cX12_tapeIsWord 29 = .ok (.getfield 18, 3) := by decide +kernel
theorem dX12_tapeIsWord_32 : decode cX12_tapeIsWord 32 = .ok (.getfield 59, 3) := by decide +kernel
theorem dX12_tapeIsWord_35 : decode cX12_tapeIsWord 35 = .ok (.if_icmp .ge 25, 3) := by decide +kernel
theorem dX12_tapeIsWord_38 : decode cX12_tapeIsWord 38 = .ok (.aload_n 0, 1) := by decide +kernel
theorem dX12_tapeIsWord_39 : decode cX12_tapeIsWord 39 = .ok (.getfield 18, 3) := by decide +kernel
theorem dX12_tapeIsWord_42 : decode cX12_tapeIsWord 42 = .ok (.iload_n 1, 1) := by decide +kernel
theorem dX12_tapeIsWord_43 : decode cX12_tapeIsWord 43 = .ok (.invokevirtual 68, 3) := by decide +kernel
theorem dX12_tapeIsWord_46 : decode cX12_tapeIsWord 46 = .ok (.invokestatic 72, 3) := by decide +kernel
theorem dX12_tapeIsWord_49 : decode cX12_tapeIsWord 49 = .ok (.ifCond .ne 5, 3) := by decide +kernel
theorem dX12_tapeIsWord_52 : decode cX12_tapeIsWord 52 = .ok (.iconst 0, 1) := by decide +kernel
theorem dX12_tapeIsWord_53 : decode cX12_tapeIsWord 53 = .ok (.ireturn, 1) := by decide +kernel
theorem dX12_tapeIsWord_54 : decode cX12_tapeIsWord 54 = .ok (.iinc 1 1, 3) := by decide +kernel
theorem dX12_tapeIsWord_57 : decode cX12_tapeIsWord 57 = .ok (.goto (-30), 3) := by decide +kernel
theorem dX12_tapeIsWord_60 : decode cX12_tapeIsWord 60 = .ok (.iconst 1, 1) := by decide +kernel
theorem dX12_tapeIsWord_61 : decode cX12_tapeIsWord 61 = .ok (.ireturn, 1) := by decide +kernel
theorem dX12_on_0 : decode cX12_on 0 = .ok (.iload_n 1, 1) := by decide +kernel
theorem dX12_on_1 : decode cX12_on 1 = .ok (.ifCond .lt 32, 3) := by decide +kernel
theorem dX12_on_4 : decode cX12_on 4 = .ok (.iload_n 1, 1) := by decide +kernel
theorem dX12_on_5 : decode cX12_on 5 = .ok (.bipush 8, 2) := by decide +kernel
theorem dX12_on_7 : decode cX12_on 7 = .ok (.if_icmp .ge 26, 3) := by decide +kernel
theorem dX12_on_10 : decode cX12_on 10 = .ok (.iload_n 2, 1) := by decide +kernel
theorem dX12_on_11 : decode cX12_on 11 = .ok (.iconst 1, 1) := by decide +kernel
theorem dX12_on_12 : decode cX12_on 12 = .ok (.if_icmp .lt 21, 3) := by decide +kernel
theorem dX12_on_15 : decode cX12_on 15 = .ok (.iload_n 2, 1) := by decide +kernel
theorem dX12_on_16 : decode cX12_on 16 = .ok (.ldc 82, 2) := by decide +kernel
theorem dX12_on_18 : decode cX12_on 18 = .ok (.if_icmp .gt 15, 3) := by decide +kernel
theorem dX12_on_21 : decode cX12_on 21 = .ok (.aload_n 0, 1) := by decide +kernel
theorem dX12_on_22 : decode cX12_on 22 = .ok (.getfield 11, 3) := by decide +kernel
theorem dX12_on_25 : decode cX12_on 25 = .ok (.iload_n 1, 1) := by decide +kernel
theorem dX12_on_26 : decode cX12_on 26 = .ok (.aaload, 1) := by decide +kernel
theorem dX12_on_27 : decode cX12_on 27 = .ok (.getfield 83, 3) := by decide +kernel
theorem dX12_on_30 : decode cX12_on 30 = .ok (.ifCond .eq 5, 3) := by decide +kernel
theorem dX12_on_33 : decode cX12_on 33 = .ok (.iconst 0, 1) := by decide +kernel
theorem dX12_on_34 : decode cX12_on 34 = .ok (.ireturn, 1) := by decide +kernel
theorem dX12_on_35 : decode cX12_on 35 = .ok (.iconst 0, 1) := by decide +kernel
theorem dX12_on_36 : decode cX12_on 36 = .ok (.istore_n 3, 1) := by decide +kernel
theorem dX12_on_37 : decode cX12_on 37 = .ok (.iload_n 3, 1) := by decide +kernel
theorem dX12_on_38 : decode cX12_on 38 = .ok (.bipush 8, 2) := by decide +kernel
theorem dX12_on_40 : decode cX12_on 40 = .ok (.if_icmp .ge 36, 3) := by decide +kernel
theorem dX12_on_43 : decode cX12_on 43 = .ok (.aload_n 0, 1) := by decide +kernel
theorem dX12_on_44 : decode cX12_on 44 = .ok (.getfield 11, 3) := by decide +kernel
theorem dX12_on_47 : decode cX12_on 47 = .ok (.iload_n 3, 1) := by decide +kernel
theorem dX12_on_48 : decode cX12_on 48 = .ok (.aaload, 1) := by decide +kernel
theorem dX12_on_49 : decode cX12_on 49 = .ok (.getfield 83, 3) := by decide +kernel
theorem dX12_on_52 : decode cX12_on 52 = .ok (.ifCond .eq 18, 3) := by decide +kernel
theorem dX12_on_55 : decode cX12_on 55 = .ok (.aload_n 0, 1) := by decide +kernel
theorem dX12_on_56 : decode cX12_on 56 = .ok (.getfield 11, 3) := by decide +kernel
theorem dX12_on_59 : decode cX12_on 59 = .ok (.iload_n 3, 1) := by decide +kernel
theorem dX12_on_60 : decode cX12_on 60 = .ok (.aaload, 1) := by decide +kernel
theorem dX12_on_61 : decode cX12_on 61 = .ok (.getfield 87, 3) := by decide +kernel
theorem dX12_on_64 : decode cX12_on 64 = .ok (.iload_n 2, 1) := by decide +kernel
theorem dX12_on_65 : decode cX12_on 65 = .ok (.if_icmp .ne 5, 3) := by decide +kernel
theorem dX12_on_68 : decode cX12_on 68 = .ok (.iconst 0, 1) := by decide +kernel
theorem dX12_on_69 : decode cX12_on 69 = .ok (.ireturn, 1) := by decide +kernel
theorem dX12_on_70 : decode cX12_on 70 = .ok (.iinc 3 1, 3) := by decide +kernel
theorem dX12_on_73 : decode cX12_on 73 = .ok (.goto (-36), 3) := by decide +kernel
theorem dX12_on_76 : decode cX12_on 76 = .ok (.aload_n 0, 1) := by decide +kernel
theorem dX12_on_77 : decode cX12_on 77 = .ok (.getfield 11, 3) := by decide +kernel
theorem dX12_on_80 : decode cX12_on 80 = .ok (.iload_n 1, 1) := by decide +kernel
theorem dX12_on_81 : decode cX12_on 81 = .ok (.aaload, 1) := by decide +kernel
theorem dX12_on_82 : decode cX12_on 82 = .ok (.iload_n 2, 1) := by decide +kernel
theorem dX12_on_83 : decode cX12_on 83 = .ok (.aload_n 0, 1) := by decide +kernel
theorem dX12_on_84 : decode cX12_on 84 = .ok (.getfield 53, 3) := by decide +kernel
theorem dX12_on_87 : decode cX12_on 87 = .ok (.invokevirtual 90, 3) := by decide +kernel
theorem dX12_on_90 : decode cX12_on 90 = .ok (.iconst 1, 1) := by decide +kernel
theorem dX12_on_91 : decode cX12_on 91 = .ok (.ireturn, 1) := by decide +kernel
theorem dX3_start_0 : decode cX3_start 0 = .ok (.aload_n 0, 1) := by decide +kernel
theorem dX3_start_1 : decode cX3_start 1 = .ok (.iconst 1, 1) := by decide +kernel
theorem dX3_start_2 : decode cX3_start 2 = .ok (.putfield 50, 3) := by decide +kernel
theorem dX3_start_5 : decode cX3_start 5 = .ok (.aload_n 0, 1) := by decide +kernel
theorem dX3_start_6 : decode cX3_start 6 = .ok (.iload_n 1, 1) := by decide +kernel
theorem dX3_start_7 : decode cX3_start 7 = .ok (.putfield 54, 3) := by decide +kernel
theorem dX3_start_10 : decode cX3_start 10 = .ok (.aload_n 0, 1) := by decide +kernel
theorem dX3_start_11 : decode cX3_start 11 = .ok (.iconst 0, 1) := by decide +kernel
theorem dX3_start_12 : decode cX3_start 12 = .ok (.putfield 61, 3) := by decide +kernel
theorem dX3_start_15 : decode cX3_start 15 = .ok (.aload_n 0, 1) := by decide +kernel
theorem dX3_start_16 : decode cX3_start 16 = .ok (.iconst 0, 1) := by decide +kernel
theorem dX3_start_17 : decode cX3_start 17 = .ok (.putfield 64, 3) := by decide +kernel
theorem dX3_start_20 : decode cX3_start 20 = .ok (.aload_n 0, 1) := by decide +kernel
theorem dX3_start_21 : decode cX3_start 21 = .ok (.iconst 0, 1) := by decide +kernel
theorem dX3_start_22 : decode cX3_start 22 = .ok (.putfield 67, 3) := by decide +kernel
theorem dX3_start_25 : decode cX3_start 25 = .ok (.aload_n 0, 1) := by decide +kernel
theorem dX3_start_26 : decode cX3_start 26 = .ok (.iconst 0, 1) := by decide +kernel
theorem dX3_start_27 : decode cX3_start 27 = .ok (.putfield 70, 3) := by decide +kernel
theorem dX3_start_30 : decode cX3_start 30 = .ok (.aload_n 0, 1) := by decide +kernel
theorem dX3_start_31 : decode cX3_start 31 = .ok (.iconst 0, 1) := by decide +kernel
theorem dX3_start_32 : decode cX3_start 32 = .ok (.putfield 73, 3) := by decide +kernel
theorem dX3_start_35 : decode cX3_start 35 = .ok (.aload_n 0, 1) := by decide +kernel
theorem dX3_start_36 : decode cX3_start 36 = .ok (.iconst 0, 1) := by decide +kernel
theorem dX3_start_37 : decode cX3_start 37 = .ok (.putfield 76, 3) := by decide +kernel
theorem dX3_start_40 : decode cX3_start 40 = .ok (.aload_n 0, 1) := by decide +kernel
theorem dX3_start_41 : decode cX3_start 41 = .ok (.getfield 46, 3) := by decide +kernel
theorem dX3_start_44 : decode cX3_start 44 = .ok (.iconst 0, 1) := by decide +kernel
theorem dX3_start_45 : decode cX3_start 45 = .ok (.putfield 85, 3) := by decide +kernel
theorem dX3_start_48 : decode cX3_start 48 = .ok (.iconst 0, 1) := by decide +kernel
theorem dX3_start_49 : decode cX3_start 49 = .ok (.istore 4, 2) := by decide +kernel
theorem dX3_start_51 : decode cX3_start 51 = .ok (.iload 4, 2) := by decide +kernel
theorem dX3_start_53 : decode cX3_start 53 = .ok (.iconst 4, 1) := by decide +kernel
theorem dX3_start_54 : decode cX3_start 54 = .ok (.if_icmp .ge 20, 3) := by decide +kernel
theorem dX3_start_57 : decode cX3_start 57 = .ok (.aload_n 0, 1) := by decide +kernel
theorem dX3_start_58 : decode cX3_start 58 = .ok (.getfield 33, 3) := by decide +kernel
theorem dX3_start_61 : decode cX3_start 61 = .ok (.iload 4, 2) := by decide +kernel
theorem dX3_start_63 : decode cX3_start 63 = .ok (.aaload, 1) := by decide +kernel
theorem dX3_start_64 : decode cX3_start 64 = .ok (.iconst 0, 1) := by decide +kernel
theorem dX3_start_65 : decode cX3_start 65 = .ok (.putfield 88, 3) := by decide +kernel
theorem dX3_start_68 : decode cX3_start 68 = .ok (.iinc 4 1, 3) := by decide +kernel
theorem dX3_start_71 : decode cX3_start 71 = .ok (.goto (-20), 3) := by decide +kernel
theorem dX3_start_74 : decode cX3_start 74 = .ok (.aload_n 0, 1) := by decide +kernel
theorem dX3_start_75 : decode cX3_start 75 = .ok (.getfield 21, 3) := by decide +kernel
theorem dX3_start_78 : decode cX3_start 78 = .ok (.invokevirtual 91, 3) := by decide +kernel
theorem dX3_start_81 : decode cX3_start 81 = .ok (.aload_n 0, 1) := by decide +kernel
theorem dX3_start_82 : decode cX3_start 82 = .ok (.getfield 12, 3) := by decide +kernel
theorem dX3_start_85 : decode cX3_start 85 = .ok (.iload_n 1, 1) := by decide +kernel
theorem dX3_start_86 : decode cX3_start 86 = .ok (.lload_n 2, 1) := by decide +kernel
theorem dX3_start_87 : decode cX3_start 87 = .ok (.invokevirtual 94, 3) := by decide +kernel
theorem dX3_start_90 : decode cX3_start 90 = .ok (.return_, 1) := by decide +kernel
theorem dX4_forget_0 : decode cX4_forget 0 = .ok (.aload_n 0, 1) := by decide +kernel
theorem dX4_forget_1 : decode cX4_forget 1 = .ok (.iconst 0, 1) := by decide +kernel
theorem dX4_forget_2 : decode cX4_forget 2 = .ok (.putfield 21, 3) := by decide +kernel
theorem dX4_forget_5 : decode cX4_forget 5 = .ok (.aload_n 0, 1) := by decide +kernel
theorem dX4_forget_6 : decode cX4_forget 6 = .ok (.iconst 1, 1) := by decide +kernel
theorem dX4_forget_7 : decode cX4_forget 7 = .ok (.putfield 25, 3) := by decide +kernel
theorem dX4_forget_10 : decode cX4_forget 10 = .ok (.aload_n 0, 1) := by decide +kernel
theorem dX4_forget_11 : decode cX4_forget 11 = .ok (.ldc2_w 31, 3) := by decide +kernel
theorem dX4_forget_14 : decode cX4_forget 14 = .ok (.putfield 33, 3) := by decide +kernel
theorem dX4_forget_17 : decode cX4_forget 17 = .ok (.return_, 1) := by decide +kernel
theorem dX0_start_0 : decode cX0_start 0 = .ok (.aload_n 0, 1) := by decide +kernel
theorem dX0_start_1 : decode cX0_start 1 = .ok (.iconst 0, 1) := by decide +kernel
theorem dX0_start_2 : decode cX0_start 2 = .ok (.putfield 9, 3) := by decide +kernel
theorem dX0_start_5 : decode cX0_start 5 = .ok (.aload_n 0, 1) := by decide +kernel
theorem dX0_start_6 : decode cX0_start 6 = .ok (.ldc2_w 27, 3) := by decide +kernel
theorem dX0_start_9 : decode cX0_start 9 = .ok (.putfield 29, 3) := by decide +kernel
theorem dX0_start_12 : decode cX0_start 12 = .ok (.aload_n 0, 1) := by decide +kernel
theorem dX0_start_13 : decode cX0_start 13 = .ok (.iload_n 1, 1) := by decide +kernel
theorem dX0_start_14 : decode cX0_start 14 = .ok (.lload_n 2, 1) := by decide +kernel
theorem dX0_start_15 : decode cX0_start 15 = .ok (.invokevirtual 32, 3) := by decide +kernel
theorem dX0_start_18 : decode cX0_start 18 = .ok (.return_, 1) := by decide +kernel
theorem dX0_probe_0 : decode cX0_probe 0 = .ok (.aload_n 0, 1) := by decide +kernel
theorem dX0_probe_1 : decode cX0_probe 1 = .ok (.ldc2_w 36, 3) := by decide +kernel
theorem dX0_probe_4 : decode cX0_probe 4 = .ok (.iload_n 1, 1) := by decide +kernel
theorem dX0_probe_5 : decode cX0_probe 5 = .ok (.i2l, 1) := by decide +kernel
theorem dX0_probe_6 : decode cX0_probe 6 = .ok (.lmul, 1) := by decide +kernel
theorem dX0_probe_7 : decode cX0_probe 7 = .ok (.ldc2_w 38, 3) := by decide +kernel
theorem dX0_probe_10 : decode cX0_probe 10 = .ok (.aload_n 0, 1) := by decide +kernel
theorem dX0_probe_11 : decode cX0_probe 11 = .ok (.getfield 9, 3) := by decide +kernel
end
section
theorem dX0_probe_14 : decode cX0_probe 14 = .ok (.i2l, 1) := by decide +kernel
theorem dX0_probe_15 : decode cX0_probe 15 = .ok (.lmul, 1) := by decide +kernel
theorem dX0_probe_16 : decode cX0_probe 16 = .ok (.ladd, 1) := by decide +kernel
theorem dX0_probe_17 : decode cX0_probe 17 = .ok (.ldc2_w 40, 3) := by decide +kernel
theorem dX0_probe_20 : decode cX0_probe 20 = .ok (.lrem, 1) := by decide +kernel
theorem dX0_probe_21 : decode cX0_probe 21 = .ok (.l2i, 1) := by decide +kernel
theorem dX0_probe_22 : decode cX0_probe 22 = .ok (.putfield 15, 3) := by decide +kernel
theorem dX0_probe_25 : decode cX0_probe 25 = .ok (.aload_n 0, 1) := by decide +kernel
theorem dX0_probe_26 : decode cX0_probe 26 = .ok (.iconst 0, 1) := by decide +kernel
theorem dX0_probe_27 : decode cX0_probe 27 = .ok (.putfield 18, 3) := by decide +kernel
theorem dX0_probe_30 : decode cX0_probe 30 = .ok (.aload_n 0, 1) := by decide +kernel
theorem dX0_probe_31 : decode cX0_probe 31 = .ok (.lload_n 2, 1) := by decide +kernel
theorem dX0_probe_32 : decode cX0_probe 32 = .ok (.ldc2_w 42, 3) := by decide +kernel
theorem dX0_probe_35 : decode cX0_probe 35 = .ok (.iload_n 1, 1) := by decide +kernel
theorem dX0_probe_36 : decode cX0_probe 36 = .ok (.i2l, 1) := by decide +kernel
theorem dX0_probe_37 : decode cX0_probe 37 = .ok (.lmul, 1) := by decide +kernel
theorem dX0_probe_38 : decode cX0_probe 38 = .ok (.ldc2_w 44, 3) := by decide +kernel
theorem dX0_probe_41 : decode cX0_probe 41 = .ok (.aload_n 0, 1) := by decide +kernel
theorem dX0_probe_42 : decode cX0_probe 42 = .ok (.getfield 9, 3) := by decide +kernel
theorem dX0_probe_45 : decode cX0_probe 45 = .ok (.i2l, 1) := by decide +kernel
theorem dX0_probe_46 : decode cX0_probe 46 = .ok (.lmul, 1) := by decide +kernel
theorem dX0_probe_47 : decode cX0_probe 47 = .ok (.ladd, 1) := by decide +kernel
theorem dX0_probe_48 : decode cX0_probe 48 = .ok (.ldc2_w 46, 3) := by decide +kernel
theorem dX0_probe_51 : decode cX0_probe 51 = .ok (.lrem, 1) := by decide +kernel
theorem dX0_probe_52 : decode cX0_probe 52 = .ok (.ladd, 1) := by decide +kernel
theorem dX0_probe_53 : decode cX0_probe 53 = .ok (.putfield 23, 3) := by decide +kernel
theorem dX0_probe_56 : decode cX0_probe 56 = .ok (.return_, 1) := by decide +kernel
theorem dX12_off_0 : decode cX12_off 0 = .ok (.aload_n 0, 1) := by decide +kernel
theorem dX12_off_1 : decode cX12_off 1 = .ok (.iload_n 1, 1) := by decide +kernel
theorem dX12_off_2 : decode cX12_off 2 = .ok (.invokevirtual 94, 3) := by decide +kernel
theorem dX12_off_5 : decode cX12_off 5 = .ok (.astore_n 3, 1) := by decide +kernel
theorem dX12_off_6 : decode cX12_off 6 = .ok (.aload_n 3, 1) := by decide +kernel
theorem dX12_off_7 : decode cX12_off 7 = .ok (.ifnonnull 5, 3) := by decide +kernel
theorem dX12_off_10 : decode cX12_off 10 = .ok (.iconst 0, 1) := by decide +kernel
theorem dX12_off_11 : decode cX12_off 11 = .ok (.ireturn, 1) := by decide +kernel
theorem dX12_off_12 : decode cX12_off 12 = .ok (.iload_n 2, 1) := by decide +kernel
theorem dX12_off_13 : decode cX12_off 13 = .ok (.ifCond .eq 20, 3) := by decide +kernel
theorem dX12_off_16 : decode cX12_off 16 = .ok (.aload_n 3, 1) := by decide +kernel
theorem dX12_off_17 : decode cX12_off 17 = .ok (.getfield 98, 3) := by decide +kernel
theorem dX12_off_20 : decode cX12_off 20 = .ok (.getfield 102, 3) := by decide +kernel
theorem dX12_off_23 : decode cX12_off 23 = .ok (.iconst 3, 1) := by decide +kernel
theorem dX12_off_24 : decode cX12_off 24 = .ok (.if_icmp .ne 9, 3) := by decide +kernel
theorem dX12_off_27 : decode cX12_off 27 = .ok (.aload_n 0, 1) := by decide +kernel
theorem dX12_off_28 : decode cX12_off 28 = .ok (.aload_n 3, 1) := by decide +kernel
theorem dX12_off_29 : decode cX12_off 29 = .ok (.iconst 0, 1) := by decide +kernel
theorem dX12_off_30 : decode cX12_off 30 = .ok (.invokevirtual 107, 3) := by decide +kernel
theorem dX12_off_33 : decode cX12_off 33 = .ok (.aload_n 3, 1) := by decide +kernel
theorem dX12_off_34 : decode cX12_off 34 = .ok (.iconst 0, 1) := by decide +kernel
theorem dX12_off_35 : decode cX12_off 35 = .ok (.putfield 83, 3) := by decide +kernel
theorem dX12_off_38 : decode cX12_off 38 = .ok (.iconst 1, 1) := by decide +kernel
theorem dX12_off_39 : decode cX12_off 39 = .ok (.ireturn, 1) := by decide +kernel
theorem dX12_claim_0 : decode cX12_claim 0 = .ok (.aload_n 0, 1) := by decide +kernel
theorem dX12_claim_1 : decode cX12_claim 1 = .ok (.iload_n 1, 1) := by decide +kernel
theorem dX12_claim_2 : decode cX12_claim 2 = .ok (.invokevirtual 94, 3) := by decide +kernel
theorem dX12_claim_5 : decode cX12_claim 5 = .ok (.astore_n 2, 1) := by decide +kernel
theorem dX12_claim_6 : decode cX12_claim 6 = .ok (.aload_n 2, 1) := by decide +kernel
theorem dX12_claim_7 : decode cX12_claim 7 = .ok (.ifnull 20, 3) := by decide +kernel
theorem dX12_claim_10 : decode cX12_claim 10 = .ok (.aload_n 2, 1) := by decide +kernel
theorem dX12_claim_11 : decode cX12_claim 11 = .ok (.getfield 98, 3) := by decide +kernel
theorem dX12_claim_14 : decode cX12_claim 14 = .ok (.getfield 102, 3) := by decide +kernel
theorem dX12_claim_17 : decode cX12_claim 17 = .ok (.ifCond .ne 10, 3) := by decide +kernel
theorem dX12_claim_20 : decode cX12_claim 20 = .ok (.aload_n 0, 1) := by decide +kernel
theorem dX12_claim_21 : decode cX12_claim 21 = .ok (.invokevirtual 111, 3) := by decide +kernel
theorem dX12_claim_24 : decode cX12_claim 24 = .ok (.ifCond .ne 5, 3) := by decide +kernel
theorem dX12_claim_27 : decode cX12_claim 27 = .ok (.iconst 0, 1) := by decide +kernel
theorem dX12_claim_28 : decode cX12_claim 28 = .ok (.ireturn, 1) := by decide +kernel
theorem dX12_claim_29 : decode cX12_claim 29 = .ok (.aload_n 2, 1) := by decide +kernel
theorem dX12_claim_30 : decode cX12_claim 30 = .ok (.getfield 98, 3) := by decide +kernel
theorem dX12_claim_33 : decode cX12_claim 33 = .ok (.astore_n 3, 1) := by decide +kernel
theorem dX12_claim_34 : decode cX12_claim 34 = .ok (.aload_n 0, 1) := by decide +kernel
theorem dX12_claim_35 : decode cX12_claim 35 = .ok (.aload_n 3, 1) := by decide +kernel
theorem dX12_claim_36 : decode cX12_claim 36 = .ok (.getfield 115, 3) := by decide +kernel
theorem dX12_claim_39 : decode cX12_claim 39 = .ok (.invokevirtual 119, 3) := by decide +kernel
theorem dX12_claim_42 : decode cX12_claim 42 = .ok (.aload_n 3, 1) := by decide +kernel
theorem dX12_claim_43 : decode cX12_claim 43 = .ok (.getfield 123, 3) := by decide +kernel
theorem dX12_claim_46 : decode cX12_claim 46 = .ok (.aload_n 3, 1) := by decide +kernel
theorem dX12_claim_47 : decode cX12_claim 47 = .ok (.getfield 115, 3) := by decide +kernel
theorem dX12_claim_50 : decode cX12_claim 50 = .ok (.invokevirtual 125, 3) := by decide +kernel
theorem dX12_claim_53 : decode cX12_claim 53 = .ok (.aload_n 3, 1) := by decide +kernel
theorem dX12_claim_54 : decode cX12_claim 54 = .ok (.invokevirtual 128, 3) := by decide +kernel
theorem dX12_claim_57 : decode cX12_claim 57 = .ok (.aload_n 2, 1) := by decide +kernel
theorem dX12_claim_58 : decode cX12_claim 58 = .ok (.getfield 131, 3) := by decide +kernel
theorem dX12_claim_61 : decode cX12_claim 61 = .ok (.invokevirtual 135, 3) := by decide +kernel
theorem dX12_claim_64 : decode cX12_claim 64 = .ok (.ifCond .eq 15, 3) := by decide +kernel
theorem dX12_claim_67 : decode cX12_claim 67 = .ok (.aload_n 3, 1) := by decide +kernel
theorem dX12_claim_68 : decode cX12_claim 68 = .ok (.aload_n 2, 1) := by decide +kernel
theorem dX12_claim_69 : decode cX12_claim 69 = .ok (.getfield 87, 3) := by decide +kernel
theorem dX12_claim_72 : decode cX12_claim 72 = .ok (.aload_n 0, 1) := by decide +kernel
theorem dX12_claim_73 : decode cX12_claim 73 = .ok (.getfield 53, 3) := by decide +kernel
theorem dX12_claim_76 : decode cX12_claim 76 = .ok (.invokevirtual 140, 3) := by decide +kernel
theorem dX12_claim_79 : decode cX12_claim 79 = .ok (.iconst 1, 1) := by decide +kernel
theorem dX12_claim_80 : decode cX12_claim 80 = .ok (.ireturn, 1) := by decide +kernel
theorem dX12_service_0 : decode cX12_service 0 = .ok (.aload_n 0, 1) := by decide +kernel
theorem dX12_service_1 : decode cX12_service 1 = .ok (.iload_n 1, 1) := by decide +kernel
theorem dX12_service_2 : decode cX12_service 2 = .ok (.invokevirtual 94, 3) := by decide +kernel
theorem dX12_service_5 : decode cX12_service 5 = .ok (.astore_n 3, 1) := by decide +kernel
theorem dX12_service_6 : decode cX12_service 6 = .ok (.aload_n 3, 1) := by decide +kernel
theorem dX12_service_7 : decode cX12_service 7 = .ok (.ifnull 20, 3) := by decide +kernel
theorem dX12_service_10 : decode cX12_service 10 = .ok (.iload_n 2, 1) := by decide +kernel
theorem dX12_service_11 : decode cX12_service 11 = .ok (.ifCond .lt 16, 3) := by decide +kernel
theorem dX12_service_14 : decode cX12_service 14 = .ok (.iload_n 2, 1) := by decide +kernel
theorem dX12_service_15 : decode cX12_service 15 = .ok (.ldc 82, 2) := by decide +kernel
theorem dX12_service_17 : decode cX12_service 17 = .ok (.if_icmp .gt 10, 3) := by decide +kernel
theorem dX12_service_20 : decode cX12_service 20 = .ok (.aload_n 0, 1) := by decide +kernel
theorem dX12_service_21 : decode cX12_service 21 = .ok (.invokevirtual 111, 3) := by decide +kernel
theorem dX12_service_24 : decode cX12_service 24 = .ok (.ifCond .ne 5, 3) := by decide +kernel
theorem dX12_service_27 : decode cX12_service 27 = .ok (.iconst (-1), 1) := by decide +kernel
theorem dX12_service_28 : decode cX12_service 28 = .ok (.ireturn, 1) := by decide +kernel
theorem dX12_service_29 : decode cX12_service 29 = .ok (.aload_n 3, 1) := by decide +kernel
theorem dX12_service_30 : decode cX12_service 30 = .ok (.getfield 143, 3) := by decide +kernel
theorem dX12_service_33 : decode cX12_service 33 = .ok (.iconst 4, 1) := by decide +kernel
theorem dX12_service_34 : decode cX12_service 34 = .ok (.if_icmp .lt 5, 3) := by decide +kernel
theorem dX12_service_37 : decode cX12_service 37 = .ok (.iconst (-1), 1) := by decide +kernel
theorem dX12_service_38 : decode cX12_service 38 = .ok (.ireturn, 1) := by decide +kernel
theorem dX12_service_39 : decode cX12_service 39 = .ok (.aload_n 3, 1) := by decide +kernel
theorem dX12_service_40 : decode cX12_service 40 = .ok (.getfield 146, 3) := by decide +kernel
theorem dX12_service_43 : decode cX12_service 43 = .ok (.aload_n 3, 1) := by decide +kernel
theorem dX12_service_44 : decode cX12_service 44 = .ok (.getfield 143, 3) := by decide +kernel
theorem dX12_service_47 : decode cX12_service 47 = .ok (.aaload, 1) := by decide +kernel
theorem dX12_service_48 : decode cX12_service 48 = .ok (.astore 4, 2) := by decide +kernel
theorem dX12_service_50 : decode cX12_service 50 = .ok (.aload_n 3, 1) := by decide +kernel
theorem dX12_service_51 : decode cX12_service 51 = .ok (.dup, 1) := by decide +kernel
theorem dX12_service_52 : decode cX12_service 52 = .ok (.getfield 143, 3) := by decide +kernel
theorem dX12_service_55 : decode cX12_service 55 = .ok (.iconst 1, 1) := by decide +kernel
theorem dX12_service_56 : decode cX12_service 56 = .ok (.iadd, 1) := by decide +kernel
theorem dX12_service_57 : decode cX12_service 57 = .ok (.putfield 143, 3) := by decide +kernel
theorem dX12_service_60 : decode cX12_service 60 = .ok (.aload_n 0, 1) := by decide +kernel
theorem dX12_service_61 : decode cX12_service 61 = .ok (.aload 4, 2) := by decide +kernel
theorem dX12_service_63 : decode cX12_service 63 = .ok (.getfield 150, 3) := by decide +kernel
theorem dX12_service_66 : decode cX12_service 66 = .ok (.invokevirtual 119, 3) := by decide +kernel
theorem dX12_service_69 : decode cX12_service 69 = .ok (.aload 4, 2) := by decide +kernel
theorem dX12_service_71 : decode cX12_service 71 = .ok (.iload_n 2, 1) := by decide +kernel
theorem dX12_service_72 : decode cX12_service 72 = .ok (.putfield 155, 3) := by decide +kernel
theorem dX12_service_75 : decode cX12_service 75 = .ok (.aload_n 3, 1) := by decide +kernel
theorem dX12_service_76 : decode cX12_service 76 = .ok (.getfield 143, 3) := by decide +kernel
theorem dX12_service_79 : decode cX12_service 79 = .ok (.ireturn, 1) := by decide +kernel
theorem dX12_ask_0 : decode cX12_ask 0 = .ok (.aload_n 0, 1) := by decide +kernel
theorem dX12_ask_1 : decode cX12_ask 1 = .ok (.iload_n 1, 1) := by decide +kernel
theorem dX12_ask_2 : decode cX12_ask 2 = .ok (.invokevirtual 94, 3) := by decide +kernel
theorem dX12_ask_5 : decode cX12_ask 5 = .ok (.astore_n 3, 1) := by decide +kernel
theorem dX12_ask_6 : decode cX12_ask 6 = .ok (.aload_n 3, 1) := by decide +kernel
theorem dX12_ask_7 : decode cX12_ask 7 = .ok (.ifnull 20, 3) := by decide +kernel
theorem dX12_ask_10 : decode cX12_ask 10 = .ok (.iload_n 2, 1) := by decide +kernel
theorem dX12_ask_11 : decode cX12_ask 11 = .ok (.iconst 1, 1) := by decide +kernel
theorem dX12_ask_12 : decode cX12_ask 12 = .ok (.if_icmp .eq 8, 3) := by decide +kernel
theorem dX12_ask_15 : decode cX12_ask 15 = .ok (.iload_n 2, 1) := by decide +kernel
theorem dX12_ask_16 : decode cX12_ask 16 = .ok (.iconst 2, 1) := by decide +kernel
theorem dX12_ask_17 : decode cX12_ask 17 = .ok (.if_icmp .ne 10, 3) := by decide +kernel
theorem dX12_ask_20 : decode cX12_ask 20 = .ok (.aload_n 0, 1) := by decide +kernel
theorem dX12_ask_21 : decode cX12_ask 21 = .ok (.invokevirtual 111, 3) := by decide +kernel
theorem dX12_ask_24 : decode cX12_ask 24 = .ok (.ifCond .ne 5, 3) := by decide +kernel
theorem dX12_ask_27 : decode cX12_ask 27 = .ok (.iconst (-1), 1) := by decide +kernel
theorem dX12_ask_28 : decode cX12_ask 28 = .ok (.ireturn, 1) := by decide +kernel
theorem dX12_ask_29 : decode cX12_ask 29 = .ok (.iconst 0, 1) := by decide +kernel
theorem dX12_ask_30 : decode cX12_ask 30 = .ok (.istore 4, 2) := by decide +kernel
theorem dX12_ask_32 : decode cX12_ask 32 = .ok (.iload 4, 2) := by decide +kernel
theorem dX12_ask_34 : decode cX12_ask 34 = .ok (.iconst 4, 1) := by decide +kernel
theorem dX12_ask_35 : decode cX12_ask 35 = .ok (.if_icmp .ge 52, 3) := by decide +kernel
theorem dX12_ask_38 : decode cX12_ask 38 = .ok (.aload_n 3, 1) := by decide +kernel
theorem dX12_ask_39 : decode cX12_ask 39 = .ok (.getfield 158, 3) := by decide +kernel
theorem dX12_ask_42 : decode cX12_ask 42 = .ok (.iload 4, 2) := by decide +kernel
theorem dX12_ask_44 : decode cX12_ask 44 = .ok (.aaload, 1) := by decide +kernel
theorem dX12_ask_45 : decode cX12_ask 45 = .ok (.astore 5, 2) := by decide +kernel
theorem dX12_ask_47 : decode cX12_ask 47 = .ok (.aload 5, 2) := by decide +kernel
theorem dX12_ask_49 : decode cX12_ask 49 = .ok (.getfield 162, 3) := by decide +kernel
theorem dX12_ask_52 : decode cX12_ask 52 = .ok (.ifCond .ne 29, 3) := by decide +kernel
theorem dX12_ask_55 : decode cX12_ask 55 = .ok (.aload_n 0, 1) := by decide +kernel
theorem dX12_ask_56 : decode cX12_ask 56 = .ok (.aload 5, 2) := by decide +kernel
theorem dX12_ask_58 : decode cX12_ask 58 = .ok (.getfield 167, 3) := by decide +kernel
theorem dX12_ask_61 : decode cX12_ask 61 = .ok (.invokevirtual 119, 3) := by decide +kernel
theorem dX12_ask_64 : decode cX12_ask 64 = .ok (.aload 5, 2) := by decide +kernel
theorem dX12_ask_66 : decode cX12_ask 66 = .ok (.iload_n 2, 1) := by decide +kernel
theorem dX12_ask_67 : decode cX12_ask 67 = .ok (.aload_n 3, 1) := by decide +kernel
theorem dX12_ask_68 : decode cX12_ask 68 = .ok (.getfield 87, 3) := by decide +kernel
theorem dX12_ask_71 : decode cX12_ask 71 = .ok (.aload_n 0, 1) := by decide +kernel
theorem dX12_ask_72 : decode cX12_ask 72 = .ok (.getfield 53, 3) := by decide +kernel
theorem dX12_ask_75 : decode cX12_ask 75 = .ok (.invokevirtual 170, 3) := by decide +kernel
theorem dX12_ask_78 : decode cX12_ask 78 = .ok (.iload 4, 2) := by decide +kernel
theorem dX12_ask_80 : decode cX12_ask 80 = .ok (.ireturn, 1) := by decide +kernel
theorem dX12_ask_81 : decode cX12_ask 81 = .ok (.iinc 4 1, 3) := by decide +kernel
theorem dX12_ask_84 : decode cX12_ask 84 = .ok (.goto (-52), 3) := by decide +kernel
theorem dX12_ask_87 : decode cX12_ask 87 = .ok (.iconst (-1), 1) := by decide +kernel
theorem dX12_ask_88 : decode cX12_ask 88 = .ok (.ireturn, 1) := by decide +kernel
theorem dX12_close_0 : decode cX12_close 0 = .ok (.aload_n 0, 1) := by decide +kernel
theorem dX12_close_1 : decode cX12_close 1 = .ok (.iload_n 1, 1) := by decide +kernel
theorem dX12_close_2 : decode cX12_close 2 = .ok (.iload_n 2, 1) := by decide +kernel
theorem dX12_close_3 : decode cX12_close 3 = .ok (.invokevirtual 173, 3) := by decide +kernel
theorem dX12_close_6 : decode cX12_close 6 = .ok (.astore_n 3, 1) := by decide +kernel
theorem dX12_close_7 : decode cX12_close 7 = .ok (.aload_n 3, 1) := by decide +kernel
theorem dX12_close_8 : decode cX12_close 8 = .ok (.ifnonnull 5, 3) := by decide +kernel
theorem dX12_close_11 : decode cX12_close 11 = .ok (.iconst 0, 1) := by decide +kernel
theorem dX12_close_12 : decode cX12_close 12 = .ok (.ireturn, 1) := by decide +kernel
theorem dX12_close_13 : decode cX12_close 13 = .ok (.aload_n 3, 1) := by decide +kernel
theorem dX12_close_14 : decode cX12_close 14 = .ok (.iconst 0, 1) := by decide +kernel
theorem dX12_close_15 : decode cX12_close 15 = .ok (.putfield 162, 3) := by decide +kernel
theorem dX12_close_18 : decode cX12_close 18 = .ok (.iconst 1, 1) := by decide +kernel
theorem dX12_close_19 : decode cX12_close 19 = .ok (.ireturn, 1) := by decide +kernel
theorem dX12_lose_0 : decode cX12_lose 0 = .ok (.aload_n 0, 1) := by decide +kernel
theorem dX12_lose_1 : decode cX12_lose 1 = .ok (.iload_n 1, 1) := by decide +kernel
theorem dX12_lose_2 : decode cX12_lose 2 = .ok (.invokevirtual 94, 3) := by decide +kernel
theorem dX12_lose_5 : decode cX12_lose 5 = .ok (.astore_n 3, 1) := by decide +kernel
theorem dX12_lose_6 : decode cX12_lose 6 = .ok (.aload_n 3, 1) := by decide +kernel
theorem dX12_lose_7 : decode cX12_lose 7 = .ok (.ifnull 14, 3) := by decide +kernel
theorem dX12_lose_10 : decode cX12_lose 10 = .ok (.iload_n 2, 1) := by decide +kernel
theorem dX12_lose_11 : decode cX12_lose 11 = .ok (.ifCond .lt 10, 3) := by decide +kernel
theorem dX12_lose_14 : decode cX12_lose 14 = .ok (.iload_n 2, 1) := by decide +kernel
theorem dX12_lose_15 : decode cX12_lose 15 = .ok (.sipush 1000, 3) := by decide +kernel
theorem dX12_lose_18 : decode cX12_lose 18 = .ok (.if_icmp .le 5, 3) := by decide +kernel
theorem dX12_lose_21 : decode cX12_lose 21 = .ok (.iconst 0, 1) := by decide +kernel
theorem dX12_lose_22 : decode cX12_lose 22 = .ok (.ireturn, 1) := by decide +kernel
theorem dX12_lose_23 : decode cX12_lose 23 = .ok (.aload_n 3, 1) := by decide +kernel
theorem dX12_lose_24 : decode cX12_lose 24 = .ok (.iload_n 2, 1) := by decide +kernel
theorem dX12_lose_25 : decode cX12_lose 25 = .ok (.putfield 177, 3) := by decide +kernel
theorem dX12_lose_28 : decode cX12_lose 28 = .ok (.iconst 1, 1) := by decide +kernel
theorem dX12_lose_29 : decode cX12_lose 29 = .ok (.ireturn, 1) := by decide +kernel
theorem dX12_give_0 : decode cX12_give 0 = .ok (.aload_n 0, 1) := by decide +kernel
theorem dX12_give_1 : decode cX12_give 1 = .ok (.iload_n 1, 1) := by decide +kernel
theorem dX12_give_2 : decode cX12_give 2 = .ok (.invokevirtual 94, 3) := by decide +kernel
theorem dX12_give_5 : decode cX12_give 5 = .ok (.astore_n 2, 1) := by decide +kernel
theorem dX12_give_6 : decode cX12_give 6 = .ok (.aload_n 2, 1) := by decide +kernel
theorem dX12_give_7 : decode cX12_give 7 = .ok (.ifnonnull 5, 3) := by decide +kernel
theorem dX12_give_10 : decode cX12_give 10 = .ok (.iconst (-1), 1) := by decide +kernel
theorem dX12_give_11 : decode cX12_give 11 = .ok (.ireturn, 1) := by decide +kernel
theorem dX12_give_12 : decode cX12_give 12 = .ok (.aload_n 0, 1) := by decide +kernel
theorem dX12_give_13 : decode cX12_give 13 = .ok (.getfield 25, 3) := by decide +kernel
theorem dX12_give_16 : decode cX12_give 16 = .ok (.aload_n 0, 1) := by decide +kernel
theorem dX12_give_17 : decode cX12_give 17 = .ok (.getfield 18, 3) := by decide +kernel
theorem dX12_give_20 : decode cX12_give 20 = .ok (.invokevirtual 180, 3) := by decide +kernel
theorem dX12_give_23 : decode cX12_give 23 = .ok (.istore_n 3, 1) := by decide +kernel
theorem dX12_give_24 : decode cX12_give 24 = .ok (.aload_n 0, 1) := by decide +kernel
theorem dX12_give_25 : decode cX12_give 25 = .ok (.getfield 18, 3) := by decide +kernel
theorem dX12_give_28 : decode cX12_give 28 = .ok (.iconst 0, 1) := by decide +kernel
theorem dX12_give_29 : decode cX12_give 29 = .ok (.putfield 59, 3) := by decide +kernel
theorem dX12_give_32 : decode cX12_give 32 = .ok (.aload_n 0, 1) := by decide +kernel
theorem dX12_give_33 : decode cX12_give 33 = .ok (.aload_n 2, 1) := by decide +kernel
theorem dX12_give_34 : decode cX12_give 34 = .ok (.iload_n 3, 1) := by decide +kernel
theorem dX12_give_35 : decode cX12_give 35 = .ok (.invokevirtual 184, 3) := by decide +kernel
theorem dX12_give_38 : decode cX12_give 38 = .ok (.iload_n 3, 1) := by decide +kernel
theorem dX12_give_39 : decode cX12_give 39 = .ok (.ifCond .eq 7, 3) := by decide +kernel
theorem dX12_give_42 : decode cX12_give 42 = .ok (.iconst 0, 1) := by decide +kernel
theorem dX12_give_43 : decode cX12_give 43 = .ok (.goto 4, 3) := by decide +kernel
theorem dX12_give_46 : decode cX12_give 46 = .ok (.iconst 1, 1) := by decide +kernel
theorem dX12_give_47 : decode cX12_give 47 = .ok (.ireturn, 1) := by decide +kernel
theorem dX12_go_0 : decode cX12_go 0 = .ok (.iload_n 1, 1) := by decide +kernel
theorem dX12_go_1 : decode cX12_go 1 = .ok (.ifCond .lt 10, 3) := by decide +kernel
theorem dX12_go_4 : decode cX12_go 4 = .ok (.iload_n 1, 1) := by decide +kernel
theorem dX12_go_5 : decode cX12_go 5 = .ok (.sipush 20000, 3) := by decide +kernel
theorem dX12_go_8 : decode cX12_go 8 = .ok (.if_icmp .le 5, 3) := by decide +kernel
theorem dX12_go_11 : decode cX12_go 11 = .ok (.iconst (-1), 1) := by decide +kernel
theorem dX12_go_12 : decode cX12_go 12 = .ok (.ireturn, 1) := by decide +kernel
theorem dX12_go_13 : decode cX12_go 13 = .ok (.aload_n 0, 1) := by decide +kernel
theorem dX12_go_14 : decode cX12_go 14 = .ok (.getfield 53, 3) := by decide +kernel
theorem dX12_go_17 : decode cX12_go 17 = .ok (.iload_n 1, 1) := by decide +kernel
theorem dX12_go_18 : decode cX12_go 18 = .ok (.i2l, 1) := by decide +kernel
theorem dX12_go_19 : decode cX12_go 19 = .ok (.ladd, 1) := by decide +kernel
theorem dX12_go_20 : decode cX12_go 20 = .ok (.lstore_n 2, 1) := by decide +kernel
theorem dX12_go_21 : decode cX12_go 21 = .ok (.iconst 0, 1) := by decide +kernel
theorem dX12_go_22 : decode cX12_go 22 = .ok (.istore 4, 2) := by decide +kernel
theorem dX12_go_24 : decode cX12_go 24 = .ok (.iload 4, 2) := by decide +kernel
theorem dX12_go_26 : decode cX12_go 26 = .ok (.ldc 188, 2) := by decide +kernel
theorem dX12_go_28 : decode cX12_go 28 = .ok (.if_icmp .ge 56, 3) := by decide +kernel
theorem dX12_go_31 : decode cX12_go 31 = .ok (.aload_n 0, 1) := by decide +kernel
theorem dX12_go_32 : decode cX12_go 32 = .ok (.getfield 37, 3) := by decide +kernel
theorem dX12_go_35 : decode cX12_go 35 = .ok (.aload_n 0, 1) := by decide +kernel
theorem dX12_go_36 : decode cX12_go 36 = .ok (.getfield 41, 3) := by decide +kernel
theorem dX12_go_39 : decode cX12_go 39 = .ok (.if_icmp .ge 10, 3) := by decide +kernel
theorem dX12_go_42 : decode cX12_go 42 = .ok (.aload_n 0, 1) := by decide +kernel
theorem dX12_go_43 : decode cX12_go 43 = .ok (.invokevirtual 189, 3) := by decide +kernel
theorem dX12_go_46 : decode cX12_go 46 = .ok (.goto 32, 3) := by decide +kernel
theorem dX12_go_49 : decode cX12_go 49 = .ok (.aload_n 0, 1) := by decide +kernel
theorem dX12_go_50 : decode cX12_go 50 = .ok (.invokevirtual 192, 3) := by decide +kernel
theorem dX12_go_53 : decode cX12_go 53 = .ok (.ifCond .ne 25, 3) := by decide +kernel
theorem dX12_go_56 : decode cX12_go 56 = .ok (.aload_n 0, 1) := by decide +kernel
theorem dX12_go_57 : decode cX12_go 57 = .ok (.invokevirtual 195, 3) := by decide +kernel
theorem dX12_go_60 : decode cX12_go 60 = .ok (.lstore 5, 2) := by decide +kernel
theorem dX12_go_62 : decode cX12_go 62 = .ok (.lload 5, 2) := by decide +kernel
theorem dX12_go_64 : decode cX12_go 64 = .ok (.lload_n 2, 1) := by decide +kernel
theorem dX12_go_65 : decode cX12_go 65 = .ok (.lcmp, 1) := by decide +kernel
theorem dX12_go_66 : decode cX12_go 66 = .ok (.ifCond .le 6, 3) := by decide +kernel
theorem dX12_go_69 : decode cX12_go 69 = .ok (.goto 15, 3) := by decide +kernel
theorem dX12_go_72 : decode cX12_go 72 = .ok (.aload_n 0, 1) := by decide +kernel
theorem dX12_go_73 : decode cX12_go 73 = .ok (.lload 5, 2) := by decide +kernel
theorem dX12_go_75 : decode cX12_go 75 = .ok (.putfield 53, 3) := by decide +kernel
theorem dX12_go_78 : decode cX12_go 78 = .ok (.iinc 4 1, 3) := by decide +kernel
theorem dX12_go_81 : decode cX12_go 81 = .ok (.goto (-57), 3) := by decide +kernel
theorem dX12_go_84 : decode cX12_go 84 = .ok (.aload_n 0, 1) := by decide +kernel
theorem dX12_go_85 : decode cX12_go 85 = .ok (.lload_n 2, 1) := by decide +kernel
theorem dX12_go_86 : decode cX12_go 86 = .ok (.putfield 53, 3) := by decide +kernel
theorem dX12_go_89 : decode cX12_go 89 = .ok (.aload_n 0, 1) := by decide +kernel
theorem dX12_go_90 : decode cX12_go 90 = .ok (.getfield 53, 3) := by decide +kernel
theorem dX12_go_93 : decode cX12_go 93 = .ok (.l2i, 1) := by decide +kernel
theorem dX12_go_94 : decode cX12_go 94 = .ok (.ireturn, 1) := by decide +kernel
theorem dX12_actFirst_0 : decode cX12_actFirst 0 = .ok (.iconst 0, 1) := by decide +kernel
theorem dX12_actFirst_1 : decode cX12_actFirst 1 = .ok (.istore_n 1, 1) := by decide +kernel
theorem dX12_actFirst_2 : decode cX12_actFirst 2 = .ok (.iload_n 1, 1) := by decide +kernel
theorem dX12_actFirst_3 : decode cX12_actFirst 3 = .ok (.bipush 8, 2) := by decide +kernel
theorem dX12_actFirst_5 : decode cX12_actFirst 5 = .ok (.if_icmp .ge 36, 3) := by decide +kernel
theorem dX12_actFirst_8 : decode cX12_actFirst 8 = .ok (.aload_n 0, 1) := by decide +kernel
theorem dX12_actFirst_9 : decode cX12_actFirst 9 = .ok (.getfield 11, 3) := by decide +kernel
theorem dX12_actFirst_12 : decode cX12_actFirst 12 = .ok (.iload_n 1, 1) := by decide +kernel
theorem dX12_actFirst_13 : decode cX12_actFirst 13 = .ok (.aaload, 1) := by decide +kernel
theorem dX12_actFirst_14 : decode cX12_actFirst 14 = .ok (.getfield 83, 3) := by decide +kernel
theorem dX12_actFirst_17 : decode cX12_actFirst 17 = .ok (.ifCond .eq 18, 3) := by decide +kernel
theorem dX12_actFirst_20 : decode cX12_actFirst 20 = .ok (.aload_n 0, 1) := by decide +kernel
theorem dX12_actFirst_21 : decode cX12_actFirst 21 = .ok (.aload_n 0, 1) := by decide +kernel
theorem dX12_actFirst_22 : decode cX12_actFirst 22 = .ok (.getfield 11, 3) := by decide +kernel
theorem dX12_actFirst_25 : decode cX12_actFirst 25 = .ok (.iload_n 1, 1) := by decide +kernel
theorem dX12_actFirst_26 : decode cX12_actFirst 26 = .ok (.aaload, 1) := by decide +kernel
theorem dX12_actFirst_27 : decode cX12_actFirst 27 = .ok (.invokevirtual 219, 3) := by decide +kernel
theorem dX12_actFirst_30 : decode cX12_actFirst 30 = .ok (.ifCond .eq 5, 3) := by decide +kernel
theorem dX12_actFirst_33 : decode cX12_actFirst 33 = .ok (.iconst 1, 1) := by decide +kernel
theorem dX12_actFirst_34 : decode cX12_actFirst 34 = .ok (.ireturn, 1) := by decide +kernel
theorem dX12_actFirst_35 : decode cX12_actFirst 35 = .ok (.iinc 1 1, 3) := by decide +kernel
theorem dX12_actFirst_38 : decode cX12_actFirst 38 = .ok (.goto (-36), 3) := by decide +kernel
theorem dX12_actFirst_41 : decode cX12_actFirst 41 = .ok (.iconst 0, 1) := by decide +kernel
theorem dX12_actFirst_42 : decode cX12_actFirst 42 = .ok (.ireturn, 1) := by decide +kernel
theorem dX12_nextDue_0 : decode cX12_nextDue 0 = .ok (.ldc2_w 210, 3) := by decide +kernel
theorem dX12_nextDue_3 : decode cX12_nextDue 3 = .ok (.lstore_n 1, 1) := by decide +kernel
theorem dX12_nextDue_4 : decode cX12_nextDue 4 = .ok (.iconst 0, 1) := by decide +kernel
theorem dX12_nextDue_5 : decode cX12_nextDue 5 = .ok (.istore_n 3, 1) := by decide +kernel
theorem dX12_nextDue_6 : decode cX12_nextDue 6 = .ok (.iload_n 3, 1) := by decide +kernel
theorem dX12_nextDue_7 : decode cX12_nextDue 7 = .ok (.bipush 8, 2) := by decide +kernel
theorem dX12_nextDue_9 : decode cX12_nextDue 9 = .ok (.if_icmp .ge 35, 3) := by decide +kernel
theorem dX12_nextDue_12 : decode cX12_nextDue 12 = .ok (.aload_n 0, 1) := by decide +kernel
theorem dX12_nextDue_13 : decode cX12_nextDue 13 = .ok (.getfield 11, 3) := by decide +kernel
theorem dX12_nextDue_16 : decode cX12_nextDue 16 = .ok (.iload_n 3, 1) := by decide +kernel
theorem dX12_nextDue_17 : decode cX12_nextDue 17 = .ok (.aaload, 1) := by decide +kernel
theorem dX12_nextDue_18 : decode cX12_nextDue 18 = .ok (.getfield 83, 3) := by decide +kernel
theorem dX12_nextDue_21 : decode cX12_nextDue 21 = .ok (.ifCond .eq 17, 3) := by decide +kernel
theorem dX12_nextDue_24 : decode cX12_nextDue 24 = .ok (.lload_n 1, 1) := by decide +kernel
theorem dX12_nextDue_25 : decode cX12_nextDue 25 = .ok (.aload_n 0, 1) := by decide +kernel
theorem dX12_nextDue_26 : decode cX12_nextDue 26 = .ok (.getfield 11, 3) := by decide +kernel
theorem dX12_nextDue_29 : decode cX12_nextDue 29 = .ok (.iload_n 3, 1) := by decide +kernel
theorem dX12_nextDue_30 : decode cX12_nextDue 30 = .ok (.aaload, 1) := by decide +kernel
theorem dX12_nextDue_31 : decode cX12_nextDue 31 = .ok (.invokevirtual 212, 3) := by decide +kernel
theorem dX12_nextDue_34 : decode cX12_nextDue 34 = .ok (.invokestatic 213, 3) := by decide +kernel
theorem dX12_nextDue_37 : decode cX12_nextDue 37 = .ok (.lstore_n 1, 1) := by decide +kernel
theorem dX12_nextDue_38 : decode cX12_nextDue 38 = .ok (.iinc 3 1, 3) := by decide +kernel
theorem dX12_nextDue_41 : decode cX12_nextDue 41 = .ok (.goto (-35), 3) := by decide +kernel
theorem dX12_nextDue_44 : decode cX12_nextDue 44 = .ok (.lload_n 1, 1) := by decide +kernel
theorem dX12_nextDue_45 : decode cX12_nextDue 45 = .ok (.lreturn, 1) := by decide +kernel
theorem dX12_split_0 : decode cX12_split 0 = .ok (.iconst 0, 1) := by decide +kernel
theorem dX12_split_1 : decode cX12_split 1 = .ok (.istore_n 2, 1) := by decide +kernel
theorem dX12_split_2 : decode cX12_split 2 = .ok (.iload_n 2, 1) := by decide +kernel
theorem dX12_split_3 : decode cX12_split 3 = .ok (.bipush 8, 2) := by decide +kernel
theorem dX12_split_5 : decode cX12_split 5 = .ok (.if_icmp .ge 23, 3) := by decide +kernel
theorem dX12_split_8 : decode cX12_split 8 = .ok (.aload_n 0, 1) := by decide +kernel
theorem dX12_split_9 : decode cX12_split 9 = .ok (.getfield 11, 3) := by decide +kernel
theorem dX12_split_12 : decode cX12_split 12 = .ok (.iload_n 2, 1) := by decide +kernel
theorem dX12_split_13 : decode cX12_split 13 = .ok (.aaload, 1) := by decide +kernel
theorem dX12_split_14 : decode cX12_split 14 = .ok (.iload_n 1, 1) := by decide +kernel
theorem dX12_split_15 : decode cX12_split 15 = .ok (.iload_n 2, 1) := by decide +kernel
theorem dX12_split_16 : decode cX12_split 16 = .ok (.ishr, 1) := by decide +kernel
theorem dX12_split_17 : decode cX12_split 17 = .ok (.iconst 1, 1) := by decide +kernel
theorem dX12_split_18 : decode cX12_split 18 = .ok (.iand, 1) := by decide +kernel
theorem dX12_split_19 : decode cX12_split 19 = .ok (.putfield 199, 3) := by decide +kernel
theorem dX12_split_22 : decode cX12_split 22 = .ok (.iinc 2 1, 3) := by decide +kernel
theorem dX12_split_25 : decode cX12_split 25 = .ok (.goto (-23), 3) := by decide +kernel
theorem dX12_split_28 : decode cX12_split 28 = .ok (.return_, 1) := by decide +kernel
theorem dX12_join_0 : decode cX12_join 0 = .ok (.iconst 0, 1) := by decide +kernel
theorem dX12_join_1 : decode cX12_join 1 = .ok (.istore_n 1, 1) := by decide +kernel
theorem dX12_join_2 : decode cX12_join 2 = .ok (.iload_n 1, 1) := by decide +kernel
theorem dX12_join_3 : decode cX12_join 3 = .ok (.bipush 8, 2) := by decide +kernel
theorem dX12_join_5 : decode cX12_join 5 = .ok (.if_icmp .ge 86, 3) := by decide +kernel
theorem dX12_join_8 : decode cX12_join 8 = .ok (.aload_n 0, 1) := by decide +kernel
theorem dX12_join_9 : decode cX12_join 9 = .ok (.getfield 11, 3) := by decide +kernel
theorem dX12_join_12 : decode cX12_join 12 = .ok (.iload_n 1, 1) := by decide +kernel
theorem dX12_join_13 : decode cX12_join 13 = .ok (.aaload, 1) := by decide +kernel
theorem dX12_join_14 : decode cX12_join 14 = .ok (.astore_n 2, 1) := by decide +kernel
theorem dX12_join_15 : decode cX12_join 15 = .ok (.aload_n 2, 1) := by decide +kernel
theorem dX12_join_16 : decode cX12_join 16 = .ok (.iconst 0, 1) := by decide +kernel
theorem dX12_join_17 : decode cX12_join 17 = .ok (.putfield 199, 3) := by decide +kernel
theorem dX12_join_20 : decode cX12_join 20 = .ok (.aload_n 2, 1) := by decide +kernel
theorem dX12_join_21 : decode cX12_join 21 = .ok (.getfield 83, 3) := by decide +kernel
theorem dX12_join_24 : decode cX12_join 24 = .ok (.ifCond .eq 28, 3) := by decide +kernel
theorem dX12_join_27 : decode cX12_join 27 = .ok (.aload_n 2, 1) := by decide +kernel
theorem dX12_join_28 : decode cX12_join 28 = .ok (.getfield 131, 3) := by decide +kernel
theorem dX12_join_31 : decode cX12_join 31 = .ok (.invokevirtual 135, 3) := by decide +kernel
theorem dX12_join_34 : decode cX12_join 34 = .ok (.ifCond .eq 18, 3) := by decide +kernel
theorem dX12_join_37 : decode cX12_join 37 = .ok (.aload_n 2, 1) := by decide +kernel
theorem dX12_join_38 : decode cX12_join 38 = .ok (.getfield 131, 3) := by decide +kernel
theorem dX12_join_41 : decode cX12_join 41 = .ok (.aload_n 2, 1) := by decide +kernel
theorem dX12_join_42 : decode cX12_join 42 = .ok (.getfield 87, 3) := by decide +kernel
theorem dX12_join_45 : decode cX12_join 45 = .ok (.aload_n 0, 1) := by decide +kernel
theorem dX12_join_46 : decode cX12_join 46 = .ok (.getfield 53, 3) := by decide +kernel
theorem dX12_join_49 : decode cX12_join 49 = .ok (.invokevirtual 202, 3) := by decide +kernel
theorem dX12_join_52 : decode cX12_join 52 = .ok (.aload_n 2, 1) := by decide +kernel
theorem dX12_join_53 : decode cX12_join 53 = .ok (.getfield 83, 3) := by decide +kernel
theorem dX12_join_56 : decode cX12_join 56 = .ok (.ifCond .eq 29, 3) := by decide +kernel
theorem dX12_join_59 : decode cX12_join 59 = .ok (.aload_n 2, 1) := by decide +kernel
theorem dX12_join_60 : decode cX12_join 60 = .ok (.getfield 98, 3) := by decide +kernel
theorem dX12_join_63 : decode cX12_join 63 = .ok (.getfield 102, 3) := by decide +kernel
theorem dX12_join_66 : decode cX12_join 66 = .ok (.iconst 3, 1) := by decide +kernel
theorem dX12_join_67 : decode cX12_join 67 = .ok (.if_icmp .ne 18, 3) := by decide +kernel
theorem dX12_join_70 : decode cX12_join 70 = .ok (.aload_n 2, 1) := by decide +kernel
theorem dX12_join_71 : decode cX12_join 71 = .ok (.getfield 98, 3) := by decide +kernel
theorem dX12_join_74 : decode cX12_join 74 = .ok (.aload_n 2, 1) := by decide +kernel
theorem dX12_join_75 : decode cX12_join 75 = .ok (.getfield 87, 3) := by decide +kernel
theorem dX12_join_78 : decode cX12_join 78 = .ok (.aload_n 0, 1) := by decide +kernel
theorem dX12_join_79 : decode cX12_join 79 = .ok (.getfield 53, 3) := by decide +kernel
theorem dX12_join_82 : decode cX12_join 82 = .ok (.invokevirtual 205, 3) := by decide +kernel
theorem dX12_join_85 : decode cX12_join 85 = .ok (.iinc 1 1, 3) := by decide +kernel
theorem dX12_join_88 : decode cX12_join 88 = .ok (.goto (-86), 3) := by decide +kernel
theorem dX12_join_91 : decode cX12_join 91 = .ok (.return_, 1) := by decide +kernel
theorem dX12_look_0 : decode cX12_look 0 = .ok (.iload_n 1, 1) := by decide +kernel
theorem dX12_look_1 : decode cX12_look 1 = .ok (.ifCond .lt 9, 3) := by decide +kernel
theorem dX12_look_4 : decode cX12_look 4 = .ok (.iload_n 1, 1) := by decide +kernel
theorem dX12_look_5 : decode cX12_look 5 = .ok (.bipush 8, 2) := by decide +kernel
theorem dX12_look_7 : decode cX12_look 7 = .ok (.if_icmp .lt 14, 3) := by decide +kernel
theorem dX12_look_10 : decode cX12_look 10 = .ok (.new 457, 3) := by decide +kernel
theorem dX12_look_13 : decode cX12_look 13 = .ok (.dup, 1) := by decide +kernel
theorem dX12_look_14 : decode cX12_look 14 = .ok (.ldc_w 459, 3) := by decide +kernel
theorem dX12_look_17 : decode cX12_look 17 = .ok (.invokespecial 461, 3) := by decide +kernel
theorem dX12_look_20 : decode cX12_look 20 = .ok (.athrow, 1) := by decide +kernel
theorem dX12_look_21 : decode cX12_look 21 = .ok (.iload_n 2, 1) := by decide +kernel
theorem dX12_look_22 : decode cX12_look 22 = .ok (.ifCond .lt 9, 3) := by decide +kernel
theorem dX12_look_25 : decode cX12_look 25 = .ok (.iload_n 2, 1) := by decide +kernel
theorem dX12_look_26 : decode cX12_look 26 = .ok (.bipush 11, 2) := by decide +kernel
theorem dX12_look_28 : decode cX12_look 28 = .ok (.if_icmp .le 14, 3) := by decide +kernel
theorem dX12_look_31 : decode cX12_look 31 = .ok (.new 464, 3) := by decide +kernel
theorem dX12_look_34 : decode cX12_look 34 = .ok (.dup, 1) := by decide +kernel
theorem dX12_look_35 : decode cX12_look 35 = .ok (.ldc_w 466, 3) := by decide +kernel
theorem dX12_look_38 : decode cX12_look 38 = .ok (.invokespecial 468, 3) := by decide +kernel
theorem dX12_look_41 : decode cX12_look 41 = .ok (.athrow, 1) := by decide +kernel
theorem dX12_look_42 : decode cX12_look 42 = .ok (.aload_n 0, 1) := by decide +kernel
theorem dX12_look_43 : decode cX12_look 43 = .ok (.getfield 11, 3) := by decide +kernel
theorem dX12_look_46 : decode cX12_look 46 = .ok (.iload_n 1, 1) := by decide +kernel
theorem dX12_look_47 : decode cX12_look 47 = .ok (.aaload, 1) := by decide +kernel
theorem dX12_look_48 : decode cX12_look 48 = .ok (.astore_n 3, 1) := by decide +kernel
theorem dX12_look_49 : decode cX12_look 49 = .ok (.iload_n 2, 1) := by decide +kernel
theorem dX12_look_50 : decode cX12_look 50 = .ok (.bipush 9, 2) := by decide +kernel
theorem dX12_look_52 : decode cX12_look 52 = .ok (.if_icmp .ne 8, 3) := by decide +kernel
theorem dX12_look_55 : decode cX12_look 55 = .ok (.aload_n 3, 1) := by decide +kernel
theorem dX12_look_56 : decode cX12_look 56 = .ok (.getfield 199, 3) := by decide +kernel
theorem dX12_look_59 : decode cX12_look 59 = .ok (.ireturn, 1) := by decide +kernel
theorem dX12_look_60 : decode cX12_look 60 = .ok (.aload_n 3, 1) := by decide +kernel
theorem dX12_look_61 : decode cX12_look 61 = .ok (.getfield 83, 3) := by decide +kernel
theorem dX12_look_64 : decode cX12_look 64 = .ok (.ifCond .ne 14, 3) := by decide +kernel
theorem dX12_look_67 : decode cX12_look 67 = .ok (.iload_n 2, 1) := by decide +kernel
theorem dX12_look_68 : decode cX12_look 68 = .ok (.iconst 2, 1) := by decide +kernel
theorem dX12_look_69 : decode cX12_look 69 = .ok (.if_icmp .ne 7, 3) := by decide +kernel
theorem dX12_look_72 : decode cX12_look 72 = .ok (.iconst (-1), 1) := by decide +kernel
theorem dX12_look_73 : decode cX12_look 73 = .ok (.goto 4, 3) := by decide +kernel
theorem dX12_look_76 : decode cX12_look 76 = .ok (.iconst 0, 1) := by decide +kernel
theorem dX12_look_77 : decode cX12_look 77 = .ok (.ireturn, 1) := by decide +kernel
theorem dX12_look_78 : decode cX12_look 78 = .ok (.aload_n 3, 1) := by decide +kernel
theorem dX12_look_79 : decode cX12_look 79 = .ok (.iload_n 2, 1) := by decide +kernel
theorem dX12_look_80 : decode cX12_look 80 = .ok (.invokevirtual 469, 3) := by decide +kernel
theorem dX12_look_83 : decode cX12_look 83 = .ok (.ireturn, 1) := by decide +kernel
theorem dX12_sign_0 : decode cX12_sign 0 = .ok (.aload_n 0, 1) := by decide +kernel
theorem dX12_sign_1 : decode cX12_sign 1 = .ok (.iload_n 1, 1) := by decide +kernel
theorem dX12_sign_2 : decode cX12_sign 2 = .ok (.invokevirtual 94, 3) := by decide +kernel
theorem dX12_sign_5 : decode cX12_sign 5 = .ok (.astore_n 3, 1) := by decide +kernel
theorem dX12_sign_6 : decode cX12_sign 6 = .ok (.aload_n 3, 1) := by decide +kernel
theorem dX12_sign_7 : decode cX12_sign 7 = .ok (.ifnull 14, 3) := by decide +kernel
theorem dX12_sign_10 : decode cX12_sign 10 = .ok (.aload_n 3, 1) := by decide +kernel
theorem dX12_sign_11 : decode cX12_sign 11 = .ok (.getfield 98, 3) := by decide +kernel
theorem dX12_sign_14 : decode cX12_sign 14 = .ok (.getfield 102, 3) := by decide +kernel
theorem dX12_sign_17 : decode cX12_sign 17 = .ok (.iconst 2, 1) := by decide +kernel
theorem dX12_sign_18 : decode cX12_sign 18 = .ok (.if_icmp .ge 5, 3) := by decide +kernel
theorem dX12_sign_21 : decode cX12_sign 21 = .ok (.iconst (-1), 1) := by decide +kernel
theorem dX12_sign_22 : decode cX12_sign 22 = .ok (.ireturn, 1) := by decide +kernel
theorem dX12_sign_23 : decode cX12_sign 23 = .ok (.aload_n 3, 1) := by decide +kernel
theorem dX12_sign_24 : decode cX12_sign 24 = .ok (.getfield 98, 3) := by decide +kernel
theorem dX12_sign_27 : decode cX12_sign 27 = .ok (.getfield 123, 3) := by decide +kernel
theorem dX12_sign_30 : decode cX12_sign 30 = .ok (.iload_n 2, 1) := by decide +kernel
theorem dX12_sign_31 : decode cX12_sign 31 = .ok (.invokevirtual 472, 3) := by decide +kernel
theorem dX12_sign_34 : decode cX12_sign 34 = .ok (.ireturn, 1) := by decide +kernel
theorem dX12_answers_0 : decode cX12_answers 0 = .ok (.aload_n 0, 1) := by decide +kernel
theorem dX12_answers_1 : decode cX12_answers 1 = .ok (.iload_n 1, 1) := by decide +kernel
theorem dX12_answers_2 : decode cX12_answers 2 = .ok (.iload_n 2, 1) := by decide +kernel
theorem dX12_answers_3 : decode cX12_answers 3 = .ok (.invokevirtual 173, 3) := by decide +kernel
theorem dX12_answers_6 : decode cX12_answers 6 = .ok (.astore_n 3, 1) := by decide +kernel
theorem dX12_answers_7 : decode cX12_answers 7 = .ok (.aload_n 3, 1) := by decide +kernel
theorem dX12_answers_8 : decode cX12_answers 8 = .ok (.ifnonnull 5, 3) := by decide +kernel
theorem dX12_answers_11 : decode cX12_answers 11 = .ok (.iconst (-1), 1) := by decide +kernel
theorem dX12_answers_12 : decode cX12_answers 12 = .ok (.ireturn, 1) := by decide +kernel
theorem dX12_answers_13 : decode cX12_answers 13 = .ok (.aload_n 0, 1) := by decide +kernel
theorem dX12_answers_14 : decode cX12_answers 14 = .ok (.getfield 11, 3) := by decide +kernel
theorem dX12_answers_17 : decode cX12_answers 17 = .ok (.iload_n 1, 1) := by decide +kernel
theorem dX12_answers_18 : decode cX12_answers 18 = .ok (.aaload, 1) := by decide +kernel
theorem dX12_answers_19 : decode cX12_answers 19 = .ok (.getfield 261, 3) := by decide +kernel
theorem dX12_answers_22 : decode cX12_answers 22 = .ok (.aload_n 3, 1) := by decide +kernel
theorem dX12_answers_23 : decode cX12_answers 23 = .ok (.invokevirtual 473, 3) := by decide +kernel
theorem dX12_answers_26 : decode cX12_answers 26 = .ok (.ireturn, 1) := by decide +kernel
theorem dX12_found_0 : decode cX12_found 0 = .ok (.aload_n 0, 1) := by decide +kernel
theorem dX12_found_1 : decode cX12_found 1 = .ok (.iload_n 1, 1) := by decide +kernel
theorem dX12_found_2 : decode cX12_found 2 = .ok (.iload_n 2, 1) := by decide +kernel
theorem dX12_found_3 : decode cX12_found 3 = .ok (.invokevirtual 173, 3) := by decide +kernel
theorem dX12_found_6 : decode cX12_found 6 = .ok (.astore 5, 2) := by decide +kernel
theorem dX12_found_8 : decode cX12_found 8 = .ok (.aload 5, 2) := by decide +kernel
theorem dX12_found_10 : decode cX12_found 10 = .ok (.ifnonnull 5, 3) := by decide +kernel
theorem dX12_found_13 : decode cX12_found 13 = .ok (.iconst (-1), 1) := by decide +kernel
theorem dX12_found_14 : decode cX12_found 14 = .ok (.ireturn, 1) := by decide +kernel
theorem dX12_found_15 : decode cX12_found 15 = .ok (.aload_n 0, 1) := by decide +kernel
theorem dX12_found_16 : decode cX12_found 16 = .ok (.getfield 11, 3) := by decide +kernel
theorem dX12_found_19 : decode cX12_found 19 = .ok (.iload_n 1, 1) := by decide +kernel
theorem dX12_found_20 : decode cX12_found 20 = .ok (.aaload, 1) := by decide +kernel
theorem dX12_found_21 : decode cX12_found 21 = .ok (.getfield 261, 3) := by decide +kernel
theorem dX12_found_24 : decode cX12_found 24 = .ok (.aload 5, 2) := by decide +kernel
theorem dX12_found_26 : decode cX12_found 26 = .ok (.iload_n 3, 1) := by decide +kernel
theorem dX12_found_27 : decode cX12_found 27 = .ok (.invokevirtual 477, 3) := by decide +kernel
theorem dX12_found_30 : decode cX12_found 30 = .ok (.astore 6, 2) := by decide +kernel
theorem dX12_found_32 : decode cX12_found 32 = .ok (.aload 6, 2) := by decide +kernel
theorem dX12_found_34 : decode cX12_found 34 = .ok (.ifnonnull 5, 3) := by decide +kernel
theorem dX12_found_37 : decode cX12_found 37 = .ok (.iconst (-1), 1) := by decide +kernel
theorem dX12_found_38 : decode cX12_found 38 = .ok (.ireturn, 1) := by decide +kernel
theorem dX12_found_39 : decode cX12_found 39 = .ok (.iload 4, 2) := by decide +kernel
theorem dX12_found_41 : decode cX12_found 41 = .ok (.tableswitch 67 0 2 #[27, 33, 45], 27) := by decide +kernel
theorem dX12_found_68 : decode cX12_found 68 = .ok (.aload 6, 2) := by decide +kernel
theorem dX12_found_70 : decode cX12_found 70 = .ok (.getfield 445, 3) := by decide +kernel
theorem dX12_found_73 : decode cX12_found 73 = .ok (.ireturn, 1) := by decide +kernel
theorem dX12_found_74 : decode cX12_found 74 = .ok (.aload 6, 2) := by decide +kernel
theorem dX12_found_76 : decode cX12_found 76 = .ok (.getfield 293, 3) := by decide +kernel
theorem dX12_found_79 : decode cX12_found 79 = .ok (.aload_n 0, 1) := by decide +kernel
theorem dX12_found_80 : decode cX12_found 80 = .ok (.getfield 53, 3) := by decide +kernel
theorem dX12_found_83 : decode cX12_found 83 = .ok (.lsub, 1) := by decide +kernel
theorem dX12_found_84 : decode cX12_found 84 = .ok (.l2i, 1) := by decide +kernel
theorem dX12_found_85 : decode cX12_found 85 = .ok (.ireturn, 1) := by decide +kernel
theorem dX12_found_86 : decode cX12_found 86 = .ok (.aload 6, 2) := by decide +kernel
theorem dX12_found_88 : decode cX12_found 88 = .ok (.getfield 302, 3) := by decide +kernel
theorem dX12_found_91 : decode cX12_found 91 = .ok (.iconst 2, 1) := by decide +kernel
theorem dX12_found_92 : decode cX12_found 92 = .ok (.if_icmp .ne 14, 3) := by decide +kernel
theorem dX12_found_95 : decode cX12_found 95 = .ok (.aload 6, 2) := by decide +kernel
theorem dX12_found_97 : decode cX12_found 97 = .ok (.getfield 444, 3) := by decide +kernel
theorem dX12_found_100 : decode cX12_found 100 = .ok (.getfield 481, 3) := by decide +kernel
theorem dX12_found_103 : decode cX12_found 103 = .ok (.goto 4, 3) := by decide +kernel
theorem dX12_found_106 : decode cX12_found 106 = .ok (.iconst 0, 1) := by decide +kernel
theorem dX12_found_107 : decode cX12_found 107 = .ok (.ireturn, 1) := by decide +kernel
theorem dX12_found_108 : decode cX12_found 108 = .ok (.iconst (-1), 1) := by decide +kernel
theorem dX12_found_109 : decode cX12_found 109 = .ok (.ireturn, 1) := by decide +kernel
theorem dX12_entry_0 : decode cX12_entry 0 = .ok (.aload_n 0, 1) := by decide +kernel
theorem dX12_entry_1 : decode cX12_entry 1 = .ok (.iload_n 1, 1) := by decide +kernel
theorem dX12_entry_2 : decode cX12_entry 2 = .ok (.invokevirtual 94, 3) := by decide +kernel
theorem dX12_entry_5 : decode cX12_entry 5 = .ok (.astore 4, 2) := by decide +kernel
theorem dX12_entry_7 : decode cX12_entry 7 = .ok (.aload 4, 2) := by decide +kernel
theorem dX12_entry_9 : decode cX12_entry 9 = .ok (.ifnull 19, 3) := by decide +kernel
theorem dX12_entry_12 : decode cX12_entry 12 = .ok (.iload_n 2, 1) := by decide +kernel
theorem dX12_entry_13 : decode cX12_entry 13 = .ok (.ifCond .lt 15, 3) := by decide +kernel
theorem dX12_entry_16 : decode cX12_entry 16 = .ok (.iload_n 2, 1) := by decide +kernel
theorem dX12_entry_17 : decode cX12_entry 17 = .ok (.aload 4, 2) := by decide +kernel
theorem dX12_entry_19 : decode cX12_entry 19 = .ok (.getfield 261, 3) := by decide +kernel
theorem dX12_entry_22 : decode cX12_entry 22 = .ok (.getfield 265, 3) := by decide +kernel
theorem dX12_entry_25 : decode cX12_entry 25 = .ok (.if_icmp .lt 5, 3) := by decide +kernel
theorem dX12_entry_28 : decode cX12_entry 28 = .ok (.iconst (-1), 1) := by decide +kernel
theorem dX12_entry_29 : decode cX12_entry 29 = .ok (.ireturn, 1) := by decide +kernel
theorem dX12_entry_30 : decode cX12_entry 30 = .ok (.aload 4, 2) := by decide +kernel
theorem dX12_entry_32 : decode cX12_entry 32 = .ok (.getfield 261, 3) := by decide +kernel
theorem dX12_entry_35 : decode cX12_entry 35 = .ok (.getfield 268, 3) := by decide +kernel
theorem dX12_entry_38 : decode cX12_entry 38 = .ok (.iload_n 2, 1) := by decide +kernel
theorem dX12_entry_39 : decode cX12_entry 39 = .ok (.aaload, 1) := by decide +kernel
theorem dX12_entry_40 : decode cX12_entry 40 = .ok (.iload_n 3, 1) := by decide +kernel
theorem dX12_entry_41 : decode cX12_entry 41 = .ok (.aload_n 0, 1) := by decide +kernel
theorem dX12_entry_42 : decode cX12_entry 42 = .ok (.getfield 53, 3) := by decide +kernel
theorem dX12_entry_45 : decode cX12_entry 45 = .ok (.invokevirtual 482, 3) := by decide +kernel
theorem dX12_entry_48 : decode cX12_entry 48 = .ok (.ireturn, 1) := by decide +kernel
theorem dX12_count_0 : decode cX12_count 0 = .ok (.iload_n 1, 1) := by decide +kernel
theorem dX12_count_1 : decode cX12_count 1 = .ok (.ifCond .ne 9, 3) := by decide +kernel
theorem dX12_count_4 : decode cX12_count 4 = .ok (.aload_n 0, 1) := by decide +kernel
theorem dX12_count_5 : decode cX12_count 5 = .ok (.getfield 53, 3) := by decide +kernel
theorem dX12_count_8 : decode cX12_count 8 = .ok (.l2i, 1) := by decide +kernel
theorem dX12_count_9 : decode cX12_count 9 = .ok (.ireturn, 1) := by decide +kernel
theorem dX12_count_10 : decode cX12_count 10 = .ok (.iload_n 1, 1) := by decide +kernel
theorem dX12_count_11 : decode cX12_count 11 = .ok (.bipush 10, 2) := by decide +kernel
theorem dX12_count_13 : decode cX12_count 13 = .ok (.if_icmp .ne 9, 3) := by decide +kernel
theorem dX12_count_16 : decode cX12_count 16 = .ok (.aload_n 0, 1) := by decide +kernel
theorem dX12_count_17 : decode cX12_count 17 = .ok (.getfield 49, 3) := by decide +kernel
theorem dX12_count_20 : decode cX12_count 20 = .ok (.l2i, 1) := by decide +kernel
theorem dX12_count_21 : decode cX12_count 21 = .ok (.ireturn, 1) := by decide +kernel
theorem dX12_count_22 : decode cX12_count 22 = .ok (.iload_n 1, 1) := by decide +kernel
theorem dX12_count_23 : decode cX12_count 23 = .ok (.ifCond .lt 9, 3) := by decide +kernel
theorem dX12_count_26 : decode cX12_count 26 = .ok (.iload_n 1, 1) := by decide +kernel
theorem dX12_count_27 : decode cX12_count 27 = .ok (.bipush 10, 2) := by decide +kernel
theorem dX12_count_29 : decode cX12_count 29 = .ok (.if_icmp .lt 7, 3) := by decide +kernel
theorem dX12_count_32 : decode cX12_count 32 = .ok (.iconst (-1), 1) := by decide +kernel
theorem dX12_count_33 : decode cX12_count 33 = .ok (.goto 9, 3) := by decide +kernel
theorem dX12_count_36 : decode cX12_count 36 = .ok (.aload_n 0, 1) := by decide +kernel
theorem dX12_count_37 : decode cX12_count 37 = .ok (.getfield 29, 3) := by decide +kernel
theorem dX12_count_40 : decode cX12_count 40 = .ok (.iload_n 1, 1) := by decide +kernel
theorem dX12_count_41 : decode cX12_count 41 = .ok (.iaload, 1) := by decide +kernel
theorem dX12_count_42 : decode cX12_count 42 = .ok (.ireturn, 1) := by decide +kernel
theorem dX12_holders_0 : decode cX12_holders 0 = .ok (.iconst 0, 1) := by decide +kernel
theorem dX12_holders_1 : decode cX12_holders 1 = .ok (.istore_n 2, 1) := by decide +kernel
theorem dX12_holders_2 : decode cX12_holders 2 = .ok (.iconst 0, 1) := by decide +kernel
theorem dX12_holders_3 : decode cX12_holders 3 = .ok (.istore_n 3, 1) := by decide +kernel
theorem dX12_holders_4 : decode cX12_holders 4 = .ok (.iload_n 3, 1) := by decide +kernel
theorem dX12_holders_5 : decode cX12_holders 5 = .ok (.bipush 8, 2) := by decide +kernel
theorem dX12_holders_7 : decode cX12_holders 7 = .ok (.if_icmp .ge 51, 3) := by decide +kernel
theorem dX12_holders_10 : decode cX12_holders 10 = .ok (.aload_n 0, 1) := by decide +kernel
theorem dX12_holders_11 : decode cX12_holders 11 = .ok (.getfield 11, 3) := by decide +kernel
theorem dX12_holders_14 : decode cX12_holders 14 = .ok (.iload_n 3, 1) := by decide +kernel
theorem dX12_holders_15 : decode cX12_holders 15 = .ok (.aaload, 1) := by decide +kernel
theorem dX12_holders_16 : decode cX12_holders 16 = .ok (.astore 4, 2) := by decide +kernel
theorem dX12_holders_18 : decode cX12_holders 18 = .ok (.aload 4, 2) := by decide +kernel
theorem dX12_holders_20 : decode cX12_holders 20 = .ok (.getfield 83, 3) := by decide +kernel
theorem dX12_holders_23 : decode cX12_holders 23 = .ok (.ifCond .eq 29, 3) := by decide +kernel
theorem dX12_holders_26 : decode cX12_holders 26 = .ok (.aload 4, 2) := by decide +kernel
theorem dX12_holders_28 : decode cX12_holders 28 = .ok (.getfield 131, 3) := by decide +kernel
theorem dX12_holders_31 : decode cX12_holders 31 = .ok (.invokevirtual 135, 3) := by decide +kernel
theorem dX12_holders_34 : decode cX12_holders 34 = .ok (.ifCond .eq 18, 3) := by decide +kernel
theorem dX12_holders_37 : decode cX12_holders 37 = .ok (.aload 4, 2) := by decide +kernel
theorem dX12_holders_39 : decode cX12_holders 39 = .ok (.getfield 131, 3) := by decide +kernel
theorem dX12_holders_42 : decode cX12_holders 42 = .ok (.getfield 334, 3) := by decide +kernel
theorem dX12_holders_45 : decode cX12_holders 45 = .ok (.iload_n 1, 1) := by decide +kernel
theorem dX12_holders_46 : decode cX12_holders 46 = .ok (.if_icmp .ne 6, 3) := by decide +kernel
theorem dX12_holders_49 : decode cX12_holders 49 = .ok (.iinc 2 1, 3) := by decide +kernel
theorem dX12_holders_52 : decode cX12_holders 52 = .ok (.iinc 3 1, 3) := by decide +kernel
theorem dX12_holders_55 : decode cX12_holders 55 = .ok (.goto (-51), 3) := by decide +kernel
theorem dX12_holders_58 : decode cX12_holders 58 = .ok (.iload_n 2, 1) := by decide +kernel
theorem dX12_holders_59 : decode cX12_holders 59 = .ok (.ireturn, 1) := by decide +kernel
theorem dX12_sent_0 : decode cX12_sent 0 = .ok (.aload_n 0, 1) := by decide +kernel
theorem dX12_sent_1 : decode cX12_sent 1 = .ok (.getfield 44, 3) := by decide +kernel
theorem dX12_sent_4 : decode cX12_sent 4 = .ok (.ifnonnull 7, 3) := by decide +kernel
theorem dX12_sent_7 : decode cX12_sent 7 = .ok (.iconst (-1), 1) := by decide +kernel
theorem dX12_sent_8 : decode cX12_sent 8 = .ok (.goto 11, 3) := by decide +kernel
theorem dX12_sent_11 : decode cX12_sent 11 = .ok (.aload_n 0, 1) := by decide +kernel
theorem dX12_sent_12 : decode cX12_sent 12 = .ok (.getfield 44, 3) := by decide +kernel
theorem dX12_sent_15 : decode cX12_sent 15 = .ok (.iload_n 1, 1) := by decide +kernel
theorem dX12_sent_16 : decode cX12_sent 16 = .ok (.invokevirtual 68, 3) := by decide +kernel
theorem dX12_sent_19 : decode cX12_sent 19 = .ok (.ireturn, 1) := by decide +kernel
theorem dX13_init_0 : decode cX13_init 0 = .ok (.aload_n 0, 1) := by decide +kernel
theorem dX13_init_1 : decode cX13_init 1 = .ok (.invokespecial 1, 3) := by decide +kernel
theorem dX13_init_4 : decode cX13_init 4 = .ok (.aload_n 0, 1) := by decide +kernel
theorem dX13_init_5 : decode cX13_init 5 = .ok (.sipush 200, 3) := by decide +kernel
theorem dX13_init_8 : decode cX13_init 8 = .ok (.newarray .int, 2) := by decide +kernel
theorem dX13_init_10 : decode cX13_init 10 = .ok (.putfield 7, 3) := by decide +kernel
theorem dX13_init_13 : decode cX13_init 13 = .ok (.aload_n 0, 1) := by decide +kernel
theorem dX13_init_14 : decode cX13_init 14 = .ok (.bipush 8, 2) := by decide +kernel
theorem dX13_init_16 : decode cX13_init 16 = .ok (.newarray .boolean, 2) := by decide +kernel
theorem dX13_init_18 : decode cX13_init 18 = .ok (.putfield 13, 3) := by decide +kernel
theorem dX13_init_21 : decode cX13_init 21 = .ok (.aload_n 0, 1) := by decide +kernel
theorem dX13_init_22 : decode cX13_init 22 = .ok (.bipush 8, 2) := by decide +kernel
theorem dX13_init_24 : decode cX13_init 24 = .ok (.newarray .int, 2) := by decide +kernel
theorem dX13_init_26 : decode cX13_init 26 = .ok (.putfield 17, 3) := by decide +kernel
theorem dX13_init_29 : decode cX13_init 29 = .ok (.aload_n 0, 1) := by decide +kernel
theorem dX13_init_30 : decode cX13_init 30 = .ok (.bipush 8, 2) := by decide +kernel
theorem dX13_init_32 : decode cX13_init 32 = .ok (.newarray .int, 2) := by decide +kernel
theorem dX13_init_34 : decode cX13_init 34 = .ok (.putfield 20, 3) := by decide +kernel
theorem dX13_init_37 : decode cX13_init 37 = .ok (.aload_n 0, 1) := by decide +kernel
theorem dX13_init_38 : decode cX13_init 38 = .ok (.bipush 8, 2) := by decide +kernel
theorem dX13_init_40 : decode cX13_init 40 = .ok (.newarray .int, 2) := by decide +kernel
theorem dX13_init_42 : decode cX13_init 42 = .ok (.putfield 23, 3) := by decide +kernel
theorem dX13_init_45 : decode cX13_init 45 = .ok (.aload_n 0, 1) := by decide +kernel
theorem dX13_init_46 : decode cX13_init 46 = .ok (.bipush 8, 2) := by decide +kernel
theorem dX13_init_48 : decode cX13_init 48 = .ok (.newarray .int, 2) := by decide +kernel
theorem dX13_init_50 : decode cX13_init 50 = .ok (.putfield 26, 3) := by decide +kernel
theorem dX13_init_53 : decode cX13_init 53 = .ok (.aload_n 0, 1) := by decide +kernel
theorem dX13_init_54 : decode cX13_init 54 = .ok (.bipush 8, 2) := by decide +kernel
theorem dX13_init_56 : decode cX13_init 56 = .ok (.newarray .int, 2) := by decide +kernel
theorem dX13_init_58 : decode cX13_init 58 = .ok (.putfield 29, 3) := by decide +kernel
theorem dX13_init_61 : decode cX13_init 61 = .ok (.aload_n 0, 1) := by decide +kernel
theorem dX13_init_62 : decode cX13_init 62 = .ok (.bipush 8, 2) := by decide +kernel
theorem dX13_init_64 : decode cX13_init 64 = .ok (.newarray .int, 2) := by decide +kernel
theorem dX13_init_66 : decode cX13_init 66 = .ok (.putfield 32, 3) := by decide +kernel
theorem dX13_init_69 : decode cX13_init 69 = .ok (.aload_n 0, 1) := by decide +kernel
theorem dX13_init_70 : decode cX13_init 70 = .ok (.bipush 8, 2) := by decide +kernel
theorem dX13_init_72 : decode cX13_init 72 = .ok (.newarray .int, 2) := by decide +kernel
theorem dX13_init_74 : decode cX13_init 74 = .ok (.putfield 35, 3) := by decide +kernel
theorem dX13_init_77 : decode cX13_init 77 = .ok (.aload_n 0, 1) := by decide +kernel
theorem dX13_init_78 : decode cX13_init 78 = .ok (.bipush 8, 2) := by decide +kernel
theorem dX13_init_80 : decode cX13_init 80 = .ok (.newarray .int, 2) := by decide +kernel
theorem dX13_init_82 : decode cX13_init 82 = .ok (.putfield 38, 3) := by decide +kernel
theorem dX13_init_85 : decode cX13_init 85 = .ok (.aload_n 0, 1) := by decide +kernel
theorem dX13_init_86 : decode cX13_init 86 = .ok (.bipush 8, 2) := by decide +kernel
theorem dX13_init_88 : decode cX13_init 88 = .ok (.newarray .boolean, 2) := by decide +kernel
theorem dX13_init_90 : decode cX13_init 90 = .ok (.putfield 41, 3) := by decide +kernel
theorem dX13_init_93 : decode cX13_init 93 = .ok (.aload_n 0, 1) := by decide +kernel
theorem dX13_init_94 : decode cX13_init 94 = .ok (.bipush 8, 2) := by decide +kernel
theorem dX13_init_96 : decode cX13_init 96 = .ok (.newarray .long, 2) := by decide +kernel
theorem dX13_init_98 : decode cX13_init 98 = .ok (.putfield 44, 3) := by decide +kernel
theorem dX13_init_101 : decode cX13_init 101 = .ok (.aload_n 0, 1) := by decide +kernel
theorem dX13_init_102 : decode cX13_init 102 = .ok (.bipush 8, 2) := by decide +kernel
theorem dX13_init_104 : decode cX13_init 104 = .ok (.newarray .long, 2) := by decide +kernel
theorem dX13_init_106 : decode cX13_init 106 = .ok (.putfield 48, 3) := by decide +kernel
theorem dX13_init_109 : decode cX13_init 109 = .ok (.aload_n 0, 1) := by decide +kernel
theorem dX13_init_110 : decode cX13_init 110 = .ok (.bipush 8, 2) := by decide +kernel
theorem dX13_init_112 : decode cX13_init 112 = .ok (.newarray .int, 2) := by decide +kernel
theorem dX13_init_114 : decode cX13_init 114 = .ok (.putfield 51, 3) := by decide +kernel
theorem dX13_init_117 : decode cX13_init 117 = .ok (.aload_n 0, 1) := by decide +kernel
theorem dX13_init_118 : decode cX13_init 118 = .ok (.bipush 8, 2) := by decide +kernel
theorem dX13_init_120 : decode cX13_init 120 = .ok (.newarray .int, 2) := by decide +kernel
theorem dX13_init_122 : decode cX13_init 122 = .ok (.putfield 54, 3) := by decide +kernel
theorem dX13_init_125 : decode cX13_init 125 = .ok (.aload_n 0, 1) := by decide +kernel
theorem dX13_init_126 : decode cX13_init 126 = .ok (.bipush 8, 2) := by decide +kernel
theorem dX13_init_128 : decode cX13_init 128 = .ok (.newarray .long, 2) := by decide +kernel
theorem dX13_init_130 : decode cX13_init 130 = .ok (.putfield 57, 3) := by decide +kernel
theorem dX13_init_133 : decode cX13_init 133 = .ok (.aload_n 0, 1) := by decide +kernel
theorem dX13_init_134 : decode cX13_init 134 = .ok (.bipush 8, 2) := by decide +kernel
theorem dX13_init_136 : decode cX13_init 136 = .ok (.newarray .int, 2) := by decide +kernel
theorem dX13_init_138 : decode cX13_init 138 = .ok (.putfield 60, 3) := by decide +kernel
theorem dX13_init_141 : decode cX13_init 141 = .ok (.aload_n 0, 1) := by decide +kernel
theorem dX13_init_142 : decode cX13_init 142 = .ok (.sipush 128, 3) := by decide +kernel
theorem dX13_init_145 : decode cX13_init 145 = .ok (.newarray .int, 2) := by decide +kernel
theorem dX13_init_147 : decode cX13_init 147 = .ok (.putfield 63, 3) := by decide +kernel
theorem dX13_init_150 : decode cX13_init 150 = .ok (.aload_n 0, 1) := by decide +kernel
theorem dX13_init_151 : decode cX13_init 151 = .ok (.sipush 128, 3) := by decide +kernel
theorem dX13_init_154 : decode cX13_init 154 = .ok (.newarray .int, 2) := by decide +kernel
theorem dX13_init_156 : decode cX13_init 156 = .ok (.putfield 66, 3) := by decide +kernel
theorem dX13_init_159 : decode cX13_init 159 = .ok (.aload_n 0, 1) := by decide +kernel
theorem dX13_init_160 : decode cX13_init 160 = .ok (.sipush 512, 3) := by decide +kernel
end
section
theorem dX13_init_163 : decode cX13_init 163 = .ok (.newarray .int, 2) := by decide +kernel
theorem dX13_init_165 : decode cX13_init 165 = .ok (.putfield 69, 3) := by decide +kernel
theorem dX13_init_168 : decode cX13_init 168 = .ok (.aload_n 0, 1) := by decide +kernel
theorem dX13_init_169 : decode cX13_init 169 = .ok (.bipush 32, 2) := by decide +kernel
theorem dX13_init_171 : decode cX13_init 171 = .ok (.newarray .int, 2) := by decide +kernel
theorem dX13_init_173 : decode cX13_init 173 = .ok (.putfield 72, 3) := by decide +kernel
theorem dX13_init_176 : decode cX13_init 176 = .ok (.aload_n 0, 1) := by decide +kernel
theorem dX13_init_177 : decode cX13_init 177 = .ok (.bipush 8, 2) := by decide +kernel
theorem dX13_init_179 : decode cX13_init 179 = .ok (.newarray .int, 2) := by decide +kernel
theorem dX13_init_181 : decode cX13_init 181 = .ok (.putfield 75, 3) := by decide +kernel
theorem dX13_init_184 : decode cX13_init 184 = .ok (.aload_n 0, 1) := by decide +kernel
theorem dX13_init_185 : decode cX13_init 185 = .ok (.sipush 512, 3) := by decide +kernel
theorem dX13_init_188 : decode cX13_init 188 = .ok (.newarray .int, 2) := by decide +kernel
theorem dX13_init_190 : decode cX13_init 190 = .ok (.putfield 78, 3) := by decide +kernel
theorem dX13_init_193 : decode cX13_init 193 = .ok (.aload_n 0, 1) := by decide +kernel
theorem dX13_init_194 : decode cX13_init 194 = .ok (.bipush 32, 2) := by decide +kernel
theorem dX13_init_196 : decode cX13_init 196 = .ok (.newarray .int, 2) := by decide +kernel
theorem dX13_init_198 : decode cX13_init 198 = .ok (.putfield 81, 3) := by decide +kernel
theorem dX13_init_201 : decode cX13_init 201 = .ok (.aload_n 0, 1) := by decide +kernel
theorem dX13_init_202 : decode cX13_init 202 = .ok (.bipush 32, 2) := by decide +kernel
theorem dX13_init_204 : decode cX13_init 204 = .ok (.newarray .long, 2) := by decide +kernel
theorem dX13_init_206 : decode cX13_init 206 = .ok (.putfield 84, 3) := by decide +kernel
theorem dX13_init_209 : decode cX13_init 209 = .ok (.aload_n 0, 1) := by decide +kernel
theorem dX13_init_210 : decode cX13_init 210 = .ok (.bipush 32, 2) := by decide +kernel
theorem dX13_init_212 : decode cX13_init 212 = .ok (.newarray .int, 2) := by decide +kernel
theorem dX13_init_214 : decode cX13_init 214 = .ok (.putfield 87, 3) := by decide +kernel
theorem dX13_init_217 : decode cX13_init 217 = .ok (.aload_n 0, 1) := by decide +kernel
theorem dX13_init_218 : decode cX13_init 218 = .ok (.sipush 512, 3) := by decide +kernel
theorem dX13_init_221 : decode cX13_init 221 = .ok (.newarray .int, 2) := by decide +kernel
theorem dX13_init_223 : decode cX13_init 223 = .ok (.putfield 90, 3) := by decide +kernel
theorem dX13_init_226 : decode cX13_init 226 = .ok (.aload_n 0, 1) := by decide +kernel
theorem dX13_init_227 : decode cX13_init 227 = .ok (.bipush 32, 2) := by decide +kernel
theorem dX13_init_229 : decode cX13_init 229 = .ok (.newarray .long, 2) := by decide +kernel
theorem dX13_init_231 : decode cX13_init 231 = .ok (.putfield 93, 3) := by decide +kernel
theorem dX13_init_234 : decode cX13_init 234 = .ok (.aload_n 0, 1) := by decide +kernel
theorem dX13_init_235 : decode cX13_init 235 = .ok (.bipush 8, 2) := by decide +kernel
theorem dX13_init_237 : decode cX13_init 237 = .ok (.newarray .int, 2) := by decide +kernel
theorem dX13_init_239 : decode cX13_init 239 = .ok (.putfield 96, 3) := by decide +kernel
theorem dX13_init_242 : decode cX13_init 242 = .ok (.aload_n 0, 1) := by decide +kernel
theorem dX13_init_243 : decode cX13_init 243 = .ok (.bipush 8, 2) := by decide +kernel
theorem dX13_init_245 : decode cX13_init 245 = .ok (.newarray .int, 2) := by decide +kernel
theorem dX13_init_247 : decode cX13_init 247 = .ok (.putfield 99, 3) := by decide +kernel
theorem dX13_init_250 : decode cX13_init 250 = .ok (.aload_n 0, 1) := by decide +kernel
theorem dX13_init_251 : decode cX13_init 251 = .ok (.sipush 192, 3) := by decide +kernel
theorem dX13_init_254 : decode cX13_init 254 = .ok (.newarray .int, 2) := by decide +kernel
theorem dX13_init_256 : decode cX13_init 256 = .ok (.putfield 102, 3) := by decide +kernel
theorem dX13_init_259 : decode cX13_init 259 = .ok (.aload_n 0, 1) := by decide +kernel
theorem dX13_init_260 : decode cX13_init 260 = .ok (.sipush 192, 3) := by decide +kernel
theorem dX13_init_263 : decode cX13_init 263 = .ok (.newarray .int, 2) := by decide +kernel
theorem dX13_init_265 : decode cX13_init 265 = .ok (.putfield 105, 3) := by decide +kernel
theorem dX13_init_268 : decode cX13_init 268 = .ok (.aload_n 0, 1) := by decide +kernel
theorem dX13_init_269 : decode cX13_init 269 = .ok (.sipush 192, 3) := by decide +kernel
theorem dX13_init_272 : decode cX13_init 272 = .ok (.newarray .int, 2) := by decide +kernel
theorem dX13_init_274 : decode cX13_init 274 = .ok (.putfield 108, 3) := by decide +kernel
theorem dX13_init_277 : decode cX13_init 277 = .ok (.aload_n 0, 1) := by decide +kernel
theorem dX13_init_278 : decode cX13_init 278 = .ok (.sipush 192, 3) := by decide +kernel
theorem dX13_init_281 : decode cX13_init 281 = .ok (.newarray .long, 2) := by decide +kernel
theorem dX13_init_283 : decode cX13_init 283 = .ok (.putfield 111, 3) := by decide +kernel
theorem dX13_init_286 : decode cX13_init 286 = .ok (.aload_n 0, 1) := by decide +kernel
theorem dX13_init_287 : decode cX13_init 287 = .ok (.sipush 192, 3) := by decide +kernel
theorem dX13_init_290 : decode cX13_init 290 = .ok (.newarray .long, 2) := by decide +kernel
theorem dX13_init_292 : decode cX13_init 292 = .ok (.putfield 114, 3) := by decide +kernel
theorem dX13_init_295 : decode cX13_init 295 = .ok (.aload_n 0, 1) := by decide +kernel
theorem dX13_init_296 : decode cX13_init 296 = .ok (.sipush 192, 3) := by decide +kernel
theorem dX13_init_299 : decode cX13_init 299 = .ok (.newarray .boolean, 2) := by decide +kernel
theorem dX13_init_301 : decode cX13_init 301 = .ok (.putfield 117, 3) := by decide +kernel
theorem dX13_init_304 : decode cX13_init 304 = .ok (.aload_n 0, 1) := by decide +kernel
theorem dX13_init_305 : decode cX13_init 305 = .ok (.sipush 192, 3) := by decide +kernel
theorem dX13_init_308 : decode cX13_init 308 = .ok (.newarray .int, 2) := by decide +kernel
theorem dX13_init_310 : decode cX13_init 310 = .ok (.putfield 120, 3) := by decide +kernel
theorem dX13_init_313 : decode cX13_init 313 = .ok (.aload_n 0, 1) := by decide +kernel
theorem dX13_init_314 : decode cX13_init 314 = .ok (.sipush 3072, 3) := by decide +kernel
theorem dX13_init_317 : decode cX13_init 317 = .ok (.newarray .int, 2) := by decide +kernel
theorem dX13_init_319 : decode cX13_init 319 = .ok (.putfield 123, 3) := by decide +kernel
theorem dX13_init_322 : decode cX13_init 322 = .ok (.aload_n 0, 1) := by decide +kernel
theorem dX13_init_323 : decode cX13_init 323 = .ok (.sipush 3072, 3) := by decide +kernel
theorem dX13_init_326 : decode cX13_init 326 = .ok (.newarray .int, 2) := by decide +kernel
theorem dX13_init_328 : decode cX13_init 328 = .ok (.putfield 126, 3) := by decide +kernel
theorem dX13_init_331 : decode cX13_init 331 = .ok (.aload_n 0, 1) := by decide +kernel
theorem dX13_init_332 : decode cX13_init 332 = .ok (.ldc 129, 2) := by decide +kernel
theorem dX13_init_334 : decode cX13_init 334 = .ok (.newarray .int, 2) := by decide +kernel
theorem dX13_init_336 : decode cX13_init 336 = .ok (.putfield 130, 3) := by decide +kernel
theorem dX13_init_339 : decode cX13_init 339 = .ok (.aload_n 0, 1) := by decide +kernel
theorem dX13_init_340 : decode cX13_init 340 = .ok (.sipush 800, 3) := by decide +kernel
theorem dX13_init_343 : decode cX13_init 343 = .ok (.newarray .int, 2) := by decide +kernel
theorem dX13_init_345 : decode cX13_init 345 = .ok (.putfield 133, 3) := by decide +kernel
theorem dX13_init_348 : decode cX13_init 348 = .ok (.aload_n 0, 1) := by decide +kernel
theorem dX13_init_349 : decode cX13_init 349 = .ok (.sipush 800, 3) := by decide +kernel
theorem dX13_init_352 : decode cX13_init 352 = .ok (.newarray .int, 2) := by decide +kernel
theorem dX13_init_354 : decode cX13_init 354 = .ok (.putfield 136, 3) := by decide +kernel
theorem dX13_init_357 : decode cX13_init 357 = .ok (.aload_n 0, 1) := by decide +kernel
theorem dX13_init_358 : decode cX13_init 358 = .ok (.sipush 800, 3) := by decide +kernel
theorem dX13_init_361 : decode cX13_init 361 = .ok (.newarray .int, 2) := by decide +kernel
theorem dX13_init_363 : decode cX13_init 363 = .ok (.putfield 139, 3) := by decide +kernel
theorem dX13_init_366 : decode cX13_init 366 = .ok (.aload_n 0, 1) := by decide +kernel
theorem dX13_init_367 : decode cX13_init 367 = .ok (.bipush 11, 2) := by decide +kernel
theorem dX13_init_369 : decode cX13_init 369 = .ok (.newarray .int, 2) := by decide +kernel
theorem dX13_init_371 : decode cX13_init 371 = .ok (.putfield 142, 3) := by decide +kernel
theorem dX13_init_374 : decode cX13_init 374 = .ok (.aload_n 0, 1) := by decide +kernel
theorem dX13_init_375 : decode cX13_init 375 = .ok (.sipush 200, 3) := by decide +kernel
theorem dX13_init_378 : decode cX13_init 378 = .ok (.newarray .int, 2) := by decide +kernel
theorem dX13_init_380 : decode cX13_init 380 = .ok (.putfield 145, 3) := by decide +kernel
theorem dX13_init_383 : decode cX13_init 383 = .ok (.aload_n 0, 1) := by decide +kernel
theorem dX13_init_384 : decode cX13_init 384 = .ok (.bipush 16, 2) := by decide +kernel
theorem dX13_init_386 : decode cX13_init 386 = .ok (.newarray .int, 2) := by decide +kernel
theorem dX13_init_388 : decode cX13_init 388 = .ok (.putfield 148, 3) := by decide +kernel
theorem dX13_init_391 : decode cX13_init 391 = .ok (.aload_n 0, 1) := by decide +kernel
theorem dX13_init_392 : decode cX13_init 392 = .ok (.sipush 260, 3) := by decide +kernel
theorem dX13_init_395 : decode cX13_init 395 = .ok (.newarray .int, 2) := by decide +kernel
theorem dX13_init_397 : decode cX13_init 397 = .ok (.putfield 151, 3) := by decide +kernel
theorem dX13_init_400 : decode cX13_init 400 = .ok (.aload_n 0, 1) := by decide +kernel
theorem dX13_init_401 : decode cX13_init 401 = .ok (.bipush 24, 2) := by decide +kernel
theorem dX13_init_403 : decode cX13_init 403 = .ok (.newarray .int, 2) := by decide +kernel
theorem dX13_init_405 : decode cX13_init 405 = .ok (.putfield 154, 3) := by decide +kernel
theorem dX13_init_408 : decode cX13_init 408 = .ok (.aload_n 0, 1) := by decide +kernel
theorem dX13_init_409 : decode cX13_init 409 = .ok (.sipush 384, 3) := by decide +kernel
theorem dX13_init_412 : decode cX13_init 412 = .ok (.newarray .int, 2) := by decide +kernel
theorem dX13_init_414 : decode cX13_init 414 = .ok (.putfield 157, 3) := by decide +kernel
theorem dX13_init_417 : decode cX13_init 417 = .ok (.aload_n 0, 1) := by decide +kernel
theorem dX13_init_418 : decode cX13_init 418 = .ok (.sipush 200, 3) := by decide +kernel
theorem dX13_init_421 : decode cX13_init 421 = .ok (.newarray .int, 2) := by decide +kernel
theorem dX13_init_423 : decode cX13_init 423 = .ok (.putfield 160, 3) := by decide +kernel
theorem dX13_init_426 : decode cX13_init 426 = .ok (.aload_n 0, 1) := by decide +kernel
theorem dX13_init_427 : decode cX13_init 427 = .ok (.sipush 200, 3) := by decide +kernel
theorem dX13_init_430 : decode cX13_init 430 = .ok (.newarray .boolean, 2) := by decide +kernel
theorem dX13_init_432 : decode cX13_init 432 = .ok (.putfield 163, 3) := by decide +kernel
theorem dX13_init_435 : decode cX13_init 435 = .ok (.aload_n 0, 1) := by decide +kernel
theorem dX13_init_436 : decode cX13_init 436 = .ok (.sipush 512, 3) := by decide +kernel
theorem dX13_init_439 : decode cX13_init 439 = .ok (.newarray .int, 2) := by decide +kernel
theorem dX13_init_441 : decode cX13_init 441 = .ok (.putfield 166, 3) := by decide +kernel
theorem dX13_init_444 : decode cX13_init 444 = .ok (.aload_n 0, 1) := by decide +kernel
theorem dX13_init_445 : decode cX13_init 445 = .ok (.sipush 512, 3) := by decide +kernel
theorem dX13_init_448 : decode cX13_init 448 = .ok (.newarray .int, 2) := by decide +kernel
theorem dX13_init_450 : decode cX13_init 450 = .ok (.putfield 169, 3) := by decide +kernel
theorem dX13_init_453 : decode cX13_init 453 = .ok (.aload_n 0, 1) := by decide +kernel
theorem dX13_init_454 : decode cX13_init 454 = .ok (.bipush 16, 2) := by decide +kernel
theorem dX13_init_456 : decode cX13_init 456 = .ok (.newarray .int, 2) := by decide +kernel
theorem dX13_init_458 : decode cX13_init 458 = .ok (.putfield 172, 3) := by decide +kernel
theorem dX13_init_461 : decode cX13_init 461 = .ok (.aload_n 0, 1) := by decide +kernel
theorem dX13_init_462 : decode cX13_init 462 = .ok (.bipush 16, 2) := by decide +kernel
theorem dX13_init_464 : decode cX13_init 464 = .ok (.newarray .int, 2) := by decide +kernel
theorem dX13_init_466 : decode cX13_init 466 = .ok (.putfield 175, 3) := by decide +kernel
theorem dX13_init_469 : decode cX13_init 469 = .ok (.aload_n 0, 1) := by decide +kernel
theorem dX13_init_470 : decode cX13_init 470 = .ok (.bipush 16, 2) := by decide +kernel
theorem dX13_init_472 : decode cX13_init 472 = .ok (.newarray .int, 2) := by decide +kernel
theorem dX13_init_474 : decode cX13_init 474 = .ok (.putfield 178, 3) := by decide +kernel
theorem dX13_init_477 : decode cX13_init 477 = .ok (.aload_n 0, 1) := by decide +kernel
theorem dX13_init_478 : decode cX13_init 478 = .ok (.bipush 16, 2) := by decide +kernel
theorem dX13_init_480 : decode cX13_init 480 = .ok (.newarray .int, 2) := by decide +kernel
theorem dX13_init_482 : decode cX13_init 482 = .ok (.putfield 181, 3) := by decide +kernel
theorem dX13_init_485 : decode cX13_init 485 = .ok (.aload_n 0, 1) := by decide +kernel
theorem dX13_init_486 : decode cX13_init 486 = .ok (.getfield 142, 3) := by decide +kernel
theorem dX13_init_489 : decode cX13_init 489 = .ok (.bipush 10, 2) := by decide +kernel
theorem dX13_init_491 : decode cX13_init 491 = .ok (.iconst (-1), 1) := by decide +kernel
theorem dX13_init_492 : decode cX13_init 492 = .ok (.iastore, 1) := by decide +kernel
theorem dX13_init_493 : decode cX13_init 493 = .ok (.return_, 1) := by decide +kernel
theorem dX13_thrown_0 : decode cX13_thrown 0 = .ok (.aload_n 0, 1) := by decide +kernel
theorem dX13_thrown_1 : decode cX13_thrown 1 = .ok (.getfield 184, 3) := by decide +kernel
theorem dX13_thrown_4 : decode cX13_thrown 4 = .ok (.ireturn, 1) := by decide +kernel
theorem dX13_feed_0 : decode cX13_feed 0 = .ok (.aload_n 0, 1) := by decide +kernel
theorem dX13_feed_1 : decode cX13_feed 1 = .ok (.iconst 0, 1) := by decide +kernel
theorem dX13_feed_2 : decode cX13_feed 2 = .ok (.putfield 184, 3) := by decide +kernel
theorem dX13_feed_5 : decode cX13_feed 5 = .ok (.aload_n 0, 1) := by decide +kernel
theorem dX13_feed_6 : decode cX13_feed 6 = .ok (.getfield 188, 3) := by decide +kernel
theorem dX13_feed_9 : decode cX13_feed 9 = .ok (.bipush 20, 2) := by decide +kernel
theorem dX13_feed_11 : decode cX13_feed 11 = .ok (.iadd, 1) := by decide +kernel
theorem dX13_feed_12 : decode cX13_feed 12 = .ok (.sipush 200, 3) := by decide +kernel
theorem dX13_feed_15 : decode cX13_feed 15 = .ok (.if_icmp .le 5, 3) := by decide +kernel
theorem dX13_feed_18 : decode cX13_feed 18 = .ok (.iconst (-1), 1) := by decide +kernel
theorem dX13_feed_19 : decode cX13_feed 19 = .ok (.ireturn, 1) := by decide +kernel
theorem dX13_feed_20 : decode cX13_feed 20 = .ok (.iconst 0, 1) := by decide +kernel
theorem dX13_feed_21 : decode cX13_feed 21 = .ok (.istore 6, 2) := by decide +kernel
theorem dX13_feed_23 : decode cX13_feed 23 = .ok (.iload 6, 2) := by decide +kernel
theorem dX13_feed_25 : decode cX13_feed 25 = .ok (.bipush 20, 2) := by decide +kernel
theorem dX13_feed_27 : decode cX13_feed 27 = .ok (.if_icmp .ge 86, 3) := by decide +kernel
theorem dX13_feed_30 : decode cX13_feed 30 = .ok (.iload 6, 2) := by decide +kernel
theorem dX13_feed_32 : decode cX13_feed 32 = .ok (.iconst 4, 1) := by decide +kernel
theorem dX13_feed_33 : decode cX13_feed 33 = .ok (.if_icmp .ge 7, 3) := by decide +kernel
theorem dX13_feed_36 : decode cX13_feed 36 = .ok (.iload_n 1, 1) := by decide +kernel
theorem dX13_feed_37 : decode cX13_feed 37 = .ok (.goto 39, 3) := by decide +kernel
theorem dX13_feed_40 : decode cX13_feed 40 = .ok (.iload 6, 2) := by decide +kernel
theorem dX13_feed_42 : decode cX13_feed 42 = .ok (.bipush 8, 2) := by decide +kernel
theorem dX13_feed_44 : decode cX13_feed 44 = .ok (.if_icmp .ge 7, 3) := by decide +kernel
theorem dX13_feed_47 : decode cX13_feed 47 = .ok (.iload_n 2, 1) := by decide +kernel
theorem dX13_feed_48 : decode cX13_feed 48 = .ok (.goto 28, 3) := by decide +kernel
theorem dX13_feed_51 : decode cX13_feed 51 = .ok (.iload 6, 2) := by decide +kernel
theorem dX13_feed_53 : decode cX13_feed 53 = .ok (.bipush 12, 2) := by decide +kernel
theorem dX13_feed_55 : decode cX13_feed 55 = .ok (.if_icmp .ge 7, 3) := by decide +kernel
theorem dX13_feed_58 : decode cX13_feed 58 = .ok (.iload_n 3, 1) := by decide +kernel
theorem dX13_feed_59 : decode cX13_feed 59 = .ok (.goto 17, 3) := by decide +kernel
theorem dX13_feed_62 : decode cX13_feed 62 = .ok (.iload 6, 2) := by decide +kernel
theorem dX13_feed_64 : decode cX13_feed 64 = .ok (.bipush 16, 2) := by decide +kernel
theorem dX13_feed_66 : decode cX13_feed 66 = .ok (.if_icmp .ge 8, 3) := by decide +kernel
theorem dX13_feed_69 : decode cX13_feed 69 = .ok (.iload 4, 2) := by decide +kernel
theorem dX13_feed_71 : decode cX13_feed 71 = .ok (.goto 5, 3) := by decide +kernel
theorem dX13_feed_74 : decode cX13_feed 74 = .ok (.iload 5, 2) := by decide +kernel
theorem dX13_feed_76 : decode cX13_feed 76 = .ok (.istore 7, 2) := by decide +kernel
theorem dX13_feed_78 : decode cX13_feed 78 = .ok (.aload_n 0, 1) := by decide +kernel
theorem dX13_feed_79 : decode cX13_feed 79 = .ok (.getfield 7, 3) := by decide +kernel
theorem dX13_feed_82 : decode cX13_feed 82 = .ok (.aload_n 0, 1) := by decide +kernel
theorem dX13_feed_83 : decode cX13_feed 83 = .ok (.getfield 188, 3) := by decide +kernel
theorem dX13_feed_86 : decode cX13_feed 86 = .ok (.iload 6, 2) := by decide +kernel
theorem dX13_feed_88 : decode cX13_feed 88 = .ok (.iadd, 1) := by decide +kernel
theorem dX13_feed_89 : decode cX13_feed 89 = .ok (.iload 7, 2) := by decide +kernel
theorem dX13_feed_91 : decode cX13_feed 91 = .ok (.bipush 24, 2) := by decide +kernel
theorem dX13_feed_93 : decode cX13_feed 93 = .ok (.bipush 8, 2) := by decide +kernel
theorem dX13_feed_95 : decode cX13_feed 95 = .ok (.iload 6, 2) := by decide +kernel
theorem dX13_feed_97 : decode cX13_feed 97 = .ok (.iconst 4, 1) := by decide +kernel
theorem dX13_feed_98 : decode cX13_feed 98 = .ok (.irem, 1) := by decide +kernel
theorem dX13_feed_99 : decode cX13_feed 99 = .ok (.imul, 1) := by decide +kernel
theorem dX13_feed_100 : decode cX13_feed 100 = .ok (.isub, 1) := by decide +kernel
theorem dX13_feed_101 : decode cX13_feed 101 = .ok (.ishr, 1) := by decide +kernel
theorem dX13_feed_102 : decode cX13_feed 102 = .ok (.sipush 255, 3) := by decide +kernel
theorem dX13_feed_105 : decode cX13_feed 105 = .ok (.iand, 1) := by decide +kernel
theorem dX13_feed_106 : decode cX13_feed 106 = .ok (.iastore, 1) := by decide +kernel
theorem dX13_feed_107 : decode cX13_feed 107 = .ok (.iinc 6 1, 3) := by decide +kernel
theorem dX13_feed_110 : decode cX13_feed 110 = .ok (.goto (-87), 3) := by decide +kernel
theorem dX13_feed_113 : decode cX13_feed 113 = .ok (.aload_n 0, 1) := by decide +kernel
theorem dX13_feed_114 : decode cX13_feed 114 = .ok (.dup, 1) := by decide +kernel
theorem dX13_feed_115 : decode cX13_feed 115 = .ok (.getfield 188, 3) := by decide +kernel
theorem dX13_feed_118 : decode cX13_feed 118 = .ok (.bipush 20, 2) := by decide +kernel
theorem dX13_feed_120 : decode cX13_feed 120 = .ok (.iadd, 1) := by decide +kernel
theorem dX13_feed_121 : decode cX13_feed 121 = .ok (.putfield 188, 3) := by decide +kernel
theorem dX13_feed_124 : decode cX13_feed 124 = .ok (.aload_n 0, 1) := by decide +kernel
theorem dX13_feed_125 : decode cX13_feed 125 = .ok (.getfield 188, 3) := by decide +kernel
theorem dX13_feed_128 : decode cX13_feed 128 = .ok (.ireturn, 1) := by decide +kernel
theorem dX13_end_0 : decode cX13_end 0 = .ok (.aload_n 0, 1) := by decide +kernel
theorem dX13_end_1 : decode cX13_end 1 = .ok (.iconst 0, 1) := by decide +kernel
theorem dX13_end_2 : decode cX13_end 2 = .ok (.putfield 184, 3) := by decide +kernel
theorem dX13_end_5 : decode cX13_end 5 = .ok (.iload_n 1, 1) := by decide +kernel
theorem dX13_end_6 : decode cX13_end 6 = .ok (.ifCond .lt 11, 3) := by decide +kernel
theorem dX13_end_9 : decode cX13_end 9 = .ok (.iload_n 1, 1) := by decide +kernel
theorem dX13_end_10 : decode cX13_end 10 = .ok (.aload_n 0, 1) := by decide +kernel
theorem dX13_end_11 : decode cX13_end 11 = .ok (.getfield 188, 3) := by decide +kernel
theorem dX13_end_14 : decode cX13_end 14 = .ok (.if_icmp .le 5, 3) := by decide +kernel
theorem dX13_end_17 : decode cX13_end 17 = .ok (.iconst (-1), 1) := by decide +kernel
theorem dX13_end_18 : decode cX13_end 18 = .ok (.ireturn, 1) := by decide +kernel
theorem dX13_end_19 : decode cX13_end 19 = .ok (.aload_n 0, 1) := by decide +kernel
theorem dX13_end_20 : decode cX13_end 20 = .ok (.iload_n 1, 1) := by decide +kernel
theorem dX13_end_21 : decode cX13_end 21 = .ok (.putfield 188, 3) := by decide +kernel
theorem dX13_end_24 : decode cX13_end 24 = .ok (.iload_n 1, 1) := by decide +kernel
theorem dX13_end_25 : decode cX13_end 25 = .ok (.ireturn, 1) := by decide +kernel
theorem dX13_takesWord_0 : decode cX13_takesWord 0 = .ok (.aload_n 0, 1) := by decide +kernel
theorem dX13_takesWord_1 : decode cX13_takesWord 1 = .ok (.getfield 188, 3) := by decide +kernel
theorem dX13_takesWord_4 : decode cX13_takesWord 4 = .ok (.istore_n 1, 1) := by decide +kernel
theorem dX13_takesWord_5 : decode cX13_takesWord 5 = .ok (.aload_n 0, 1) := by decide +kernel
theorem dX13_takesWord_6 : decode cX13_takesWord 6 = .ok (.iconst 0, 1) := by decide +kernel
theorem dX13_takesWord_7 : decode cX13_takesWord 7 = .ok (.putfield 188, 3) := by decide +kernel
theorem dX13_takesWord_10 : decode cX13_takesWord 10 = .ok (.iload_n 1, 1) := by decide +kernel
theorem dX13_takesWord_11 : decode cX13_takesWord 11 = .ok (.iconst 1, 1) := by decide +kernel
theorem dX13_takesWord_12 : decode cX13_takesWord 12 = .ok (.if_icmp .lt 9, 3) := by decide +kernel
theorem dX13_takesWord_15 : decode cX13_takesWord 15 = .ok (.iload_n 1, 1) := by decide +kernel
theorem dX13_takesWord_16 : decode cX13_takesWord 16 = .ok (.bipush 15, 2) := by decide +kernel
theorem dX13_takesWord_18 : decode cX13_takesWord 18 = .ok (.if_icmp .le 5, 3) := by decide +kernel
theorem dX13_takesWord_21 : decode cX13_takesWord 21 = .ok (.iconst 0, 1) := by decide +kernel
theorem dX13_takesWord_22 : decode cX13_takesWord 22 = .ok (.ireturn, 1) := by decide +kernel
theorem dX13_takesWord_23 : decode cX13_takesWord 23 = .ok (.aload_n 0, 1) := by decide +kernel
theorem dX13_takesWord_24 : decode cX13_takesWord 24 = .ok (.getfield 148, 3) := by decide +kernel
theorem dX13_takesWord_27 : decode cX13_takesWord 27 = .ok (.iconst 0, 1) := by decide +kernel
theorem dX13_takesWord_28 : decode cX13_takesWord 28 = .ok (.iload_n 1, 1) := by decide +kernel
theorem dX13_takesWord_29 : decode cX13_takesWord 29 = .ok (.iastore, 1) := by decide +kernel
theorem dX13_takesWord_30 : decode cX13_takesWord 30 = .ok (.iconst 1, 1) := by decide +kernel
theorem dX13_takesWord_31 : decode cX13_takesWord 31 = .ok (.istore_n 2, 1) := by decide +kernel
theorem dX13_takesWord_32 : decode cX13_takesWord 32 = .ok (.iconst 0, 1) := by decide +kernel
theorem dX13_takesWord_33 : decode cX13_takesWord 33 = .ok (.istore_n 3, 1) := by decide +kernel
theorem dX13_takesWord_34 : decode cX13_takesWord 34 = .ok (.iload_n 3, 1) := by decide +kernel
theorem dX13_takesWord_35 : decode cX13_takesWord 35 = .ok (.iload_n 1, 1) := by decide +kernel
theorem dX13_takesWord_36 : decode cX13_takesWord 36 = .ok (.if_icmp .ge 45, 3) := by decide +kernel
theorem dX13_takesWord_39 : decode cX13_takesWord 39 = .ok (.aload_n 0, 1) := by decide +kernel
theorem dX13_takesWord_40 : decode cX13_takesWord 40 = .ok (.getfield 148, 3) := by decide +kernel
theorem dX13_takesWord_43 : decode cX13_takesWord 43 = .ok (.iconst 1, 1) := by decide +kernel
theorem dX13_takesWord_44 : decode cX13_takesWord 44 = .ok (.iload_n 3, 1) := by decide +kernel
theorem dX13_takesWord_45 : decode cX13_takesWord 45 = .ok (.iadd, 1) := by decide +kernel
theorem dX13_takesWord_46 : decode cX13_takesWord 46 = .ok (.aload_n 0, 1) := by decide +kernel
theorem dX13_takesWord_47 : decode cX13_takesWord 47 = .ok (.getfield 7, 3) := by decide +kernel
theorem dX13_takesWord_50 : decode cX13_takesWord 50 = .ok (.iload_n 3, 1) := by decide +kernel
theorem dX13_takesWord_51 : decode cX13_takesWord 51 = .ok (.iaload, 1) := by decide +kernel
theorem dX13_takesWord_52 : decode cX13_takesWord 52 = .ok (.iastore, 1) := by decide +kernel
theorem dX13_takesWord_53 : decode cX13_takesWord 53 = .ok (.iload_n 2, 1) := by decide +kernel
theorem dX13_takesWord_54 : decode cX13_takesWord 54 = .ok (.ifCond .eq 19, 3) := by decide +kernel
theorem dX13_takesWord_57 : decode cX13_takesWord 57 = .ok (.aload_n 0, 1) := by decide +kernel
theorem dX13_takesWord_58 : decode cX13_takesWord 58 = .ok (.getfield 7, 3) := by decide +kernel
theorem dX13_takesWord_61 : decode cX13_takesWord 61 = .ok (.iload_n 3, 1) := by decide +kernel
theorem dX13_takesWord_62 : decode cX13_takesWord 62 = .ok (.iaload, 1) := by decide +kernel
theorem dX13_takesWord_63 : decode cX13_takesWord 63 = .ok (.invokestatic 195, 3) := by decide +kernel
theorem dX13_takesWord_66 : decode cX13_takesWord 66 = .ok (.ifCond .eq 7, 3) := by decide +kernel
theorem dX13_takesWord_69 : decode cX13_takesWord 69 = .ok (.iconst 1, 1) := by decide +kernel
theorem dX13_takesWord_70 : decode cX13_takesWord 70 = .ok (.goto 4, 3) := by decide +kernel
theorem dX13_takesWord_73 : decode cX13_takesWord 73 = .ok (.iconst 0, 1) := by decide +kernel
theorem dX13_takesWord_74 : decode cX13_takesWord 74 = .ok (.istore_n 2, 1) := by decide +kernel
theorem dX13_takesWord_75 : decode cX13_takesWord 75 = .ok (.iinc 3 1, 3) := by decide +kernel
theorem dX13_takesWord_78 : decode cX13_takesWord 78 = .ok (.goto (-44), 3) := by decide +kernel
theorem dX13_takesWord_81 : decode cX13_takesWord 81 = .ok (.iload_n 2, 1) := by decide +kernel
theorem dX13_takesWord_82 : decode cX13_takesWord 82 = .ok (.ireturn, 1) := by decide +kernel
theorem dX13_on_0 : decode cX13_on 0 = .ok (.aload_n 0, 1) := by decide +kernel
theorem dX13_on_1 : decode cX13_on 1 = .ok (.iconst 0, 1) := by decide +kernel
theorem dX13_on_2 : decode cX13_on 2 = .ok (.putfield 184, 3) := by decide +kernel
theorem dX13_on_5 : decode cX13_on 5 = .ok (.aload_n 0, 1) := by decide +kernel
theorem dX13_on_6 : decode cX13_on 6 = .ok (.iload_n 1, 1) := by decide +kernel
theorem dX13_on_7 : decode cX13_on 7 = .ok (.invokevirtual 386, 3) := by decide +kernel
theorem dX13_on_10 : decode cX13_on 10 = .ok (.ifCond .eq 24, 3) := by decide +kernel
theorem dX13_on_13 : decode cX13_on 13 = .ok (.aload_n 0, 1) := by decide +kernel
theorem dX13_on_14 : decode cX13_on 14 = .ok (.getfield 13, 3) := by decide +kernel
theorem dX13_on_17 : decode cX13_on 17 = .ok (.iload_n 1, 1) := by decide +kernel
theorem dX13_on_18 : decode cX13_on 18 = .ok (.baload, 1) := by decide +kernel
theorem dX13_on_19 : decode cX13_on 19 = .ok (.ifCond .ne 15, 3) := by decide +kernel
theorem dX13_on_22 : decode cX13_on 22 = .ok (.iload_n 2, 1) := by decide +kernel
theorem dX13_on_23 : decode cX13_on 23 = .ok (.iconst 1, 1) := by decide +kernel
theorem dX13_on_24 : decode cX13_on 24 = .ok (.if_icmp .lt 10, 3) := by decide +kernel
theorem dX13_on_27 : decode cX13_on 27 = .ok (.iload_n 2, 1) := by decide +kernel
theorem dX13_on_28 : decode cX13_on 28 = .ok (.ldc_w 389, 3) := by decide +kernel
theorem dX13_on_31 : decode cX13_on 31 = .ok (.if_icmp .le 5, 3) := by decide +kernel
theorem dX13_on_34 : decode cX13_on 34 = .ok (.iconst 0, 1) := by decide +kernel
theorem dX13_on_35 : decode cX13_on 35 = .ok (.ireturn, 1) := by decide +kernel
theorem dX13_on_36 : decode cX13_on 36 = .ok (.iconst 0, 1) := by decide +kernel
theorem dX13_on_37 : decode cX13_on 37 = .ok (.istore_n 3, 1) := by decide +kernel
theorem dX13_on_38 : decode cX13_on 38 = .ok (.iload_n 3, 1) := by decide +kernel
theorem dX13_on_39 : decode cX13_on 39 = .ok (.bipush 8, 2) := by decide +kernel
theorem dX13_on_41 : decode cX13_on 41 = .ok (.if_icmp .ge 30, 3) := by decide +kernel
theorem dX13_on_44 : decode cX13_on 44 = .ok (.aload_n 0, 1) := by decide +kernel
theorem dX13_on_45 : decode cX13_on 45 = .ok (.getfield 13, 3) := by decide +kernel
theorem dX13_on_48 : decode cX13_on 48 = .ok (.iload_n 3, 1) := by decide +kernel
theorem dX13_on_49 : decode cX13_on 49 = .ok (.baload, 1) := by decide +kernel
theorem dX13_on_50 : decode cX13_on 50 = .ok (.ifCond .eq 15, 3) := by decide +kernel
theorem dX13_on_53 : decode cX13_on 53 = .ok (.aload_n 0, 1) := by decide +kernel
theorem dX13_on_54 : decode cX13_on 54 = .ok (.getfield 17, 3) := by decide +kernel
theorem dX13_on_57 : decode cX13_on 57 = .ok (.iload_n 3, 1) := by decide +kernel
theorem dX13_on_58 : decode cX13_on 58 = .ok (.iaload, 1) := by decide +kernel
theorem dX13_on_59 : decode cX13_on 59 = .ok (.iload_n 2, 1) := by decide +kernel
theorem dX13_on_60 : decode cX13_on 60 = .ok (.if_icmp .ne 5, 3) := by decide +kernel
theorem dX13_on_63 : decode cX13_on 63 = .ok (.iconst 0, 1) := by decide +kernel
theorem dX13_on_64 : decode cX13_on 64 = .ok (.ireturn, 1) := by decide +kernel
theorem dX13_on_65 : decode cX13_on 65 = .ok (.iinc 3 1, 3) := by decide +kernel
theorem dX13_on_68 : decode cX13_on 68 = .ok (.goto (-30), 3) := by decide +kernel
theorem dX13_on_71 : decode cX13_on 71 = .ok (.aload_n 0, 1) := by decide +kernel
theorem dX13_on_72 : decode cX13_on 72 = .ok (.iload_n 1, 1) := by decide +kernel
theorem dX13_on_73 : decode cX13_on 73 = .ok (.invokevirtual 390, 3) := by decide +kernel
theorem dX13_on_76 : decode cX13_on 76 = .ok (.aload_n 0, 1) := by decide +kernel
theorem dX13_on_77 : decode cX13_on 77 = .ok (.getfield 13, 3) := by decide +kernel
theorem dX13_on_80 : decode cX13_on 80 = .ok (.iload_n 1, 1) := by decide +kernel
theorem dX13_on_81 : decode cX13_on 81 = .ok (.iconst 1, 1) := by decide +kernel
theorem dX13_on_82 : decode cX13_on 82 = .ok (.bastore, 1) := by decide +kernel
theorem dX13_on_83 : decode cX13_on 83 = .ok (.aload_n 0, 1) := by decide +kernel
theorem dX13_on_84 : decode cX13_on 84 = .ok (.getfield 17, 3) := by decide +kernel
theorem dX13_on_87 : decode cX13_on 87 = .ok (.iload_n 1, 1) := by decide +kernel
theorem dX13_on_88 : decode cX13_on 88 = .ok (.iload_n 2, 1) := by decide +kernel
theorem dX13_on_89 : decode cX13_on 89 = .ok (.iastore, 1) := by decide +kernel
theorem dX13_on_90 : decode cX13_on 90 = .ok (.aload_n 0, 1) := by decide +kernel
theorem dX13_on_91 : decode cX13_on 91 = .ok (.iload_n 1, 1) := by decide +kernel
theorem dX13_on_92 : decode cX13_on 92 = .ok (.invokevirtual 268, 3) := by decide +kernel
theorem dX13_on_95 : decode cX13_on 95 = .ok (.iconst 1, 1) := by decide +kernel
theorem dX13_on_96 : decode cX13_on 96 = .ok (.ireturn, 1) := by decide +kernel
theorem dX13_forgets_0 : decode cX13_forgets 0 = .ok (.aload_n 0, 1) := by decide +kernel
theorem dX13_forgets_1 : decode cX13_forgets 1 = .ok (.getfield 13, 3) := by decide +kernel
theorem dX13_forgets_4 : decode cX13_forgets 4 = .ok (.iload_n 1, 1) := by decide +kernel
theorem dX13_forgets_5 : decode cX13_forgets 5 = .ok (.iconst 0, 1) := by decide +kernel
theorem dX13_forgets_6 : decode cX13_forgets 6 = .ok (.bastore, 1) := by decide +kernel
theorem dX13_forgets_7 : decode cX13_forgets 7 = .ok (.aload_n 0, 1) := by decide +kernel
theorem dX13_forgets_8 : decode cX13_forgets 8 = .ok (.getfield 17, 3) := by decide +kernel
theorem dX13_forgets_11 : decode cX13_forgets 11 = .ok (.iload_n 1, 1) := by decide +kernel
theorem dX13_forgets_12 : decode cX13_forgets 12 = .ok (.iconst 0, 1) := by decide +kernel
theorem dX13_forgets_13 : decode cX13_forgets 13 = .ok (.iastore, 1) := by decide +kernel
theorem dX13_forgets_14 : decode cX13_forgets 14 = .ok (.aload_n 0, 1) := by decide +kernel
theorem dX13_forgets_15 : decode cX13_forgets 15 = .ok (.getfield 23, 3) := by decide +kernel
theorem dX13_forgets_18 : decode cX13_forgets 18 = .ok (.iload_n 1, 1) := by decide +kernel
theorem dX13_forgets_19 : decode cX13_forgets 19 = .ok (.iconst 0, 1) := by decide +kernel
theorem dX13_forgets_20 : decode cX13_forgets 20 = .ok (.iastore, 1) := by decide +kernel
theorem dX13_forgets_21 : decode cX13_forgets 21 = .ok (.aload_n 0, 1) := by decide +kernel
theorem dX13_forgets_22 : decode cX13_forgets 22 = .ok (.getfield 26, 3) := by decide +kernel
theorem dX13_forgets_25 : decode cX13_forgets 25 = .ok (.iload_n 1, 1) := by decide +kernel
theorem dX13_forgets_26 : decode cX13_forgets 26 = .ok (.iconst 0, 1) := by decide +kernel
theorem dX13_forgets_27 : decode cX13_forgets 27 = .ok (.iastore, 1) := by decide +kernel
theorem dX13_forgets_28 : decode cX13_forgets 28 = .ok (.aload_n 0, 1) := by decide +kernel
theorem dX13_forgets_29 : decode cX13_forgets 29 = .ok (.getfield 29, 3) := by decide +kernel
theorem dX13_forgets_32 : decode cX13_forgets 32 = .ok (.iload_n 1, 1) := by decide +kernel
theorem dX13_forgets_33 : decode cX13_forgets 33 = .ok (.iconst 0, 1) := by decide +kernel
theorem dX13_forgets_34 : decode cX13_forgets 34 = .ok (.iastore, 1) := by decide +kernel
theorem dX13_forgets_35 : decode cX13_forgets 35 = .ok (.aload_n 0, 1) := by decide +kernel
theorem dX13_forgets_36 : decode cX13_forgets 36 = .ok (.getfield 32, 3) := by decide +kernel
theorem dX13_forgets_39 : decode cX13_forgets 39 = .ok (.iload_n 1, 1) := by decide +kernel
theorem dX13_forgets_40 : decode cX13_forgets 40 = .ok (.iconst 0, 1) := by decide +kernel
theorem dX13_forgets_41 : decode cX13_forgets 41 = .ok (.iastore, 1) := by decide +kernel
theorem dX13_forgets_42 : decode cX13_forgets 42 = .ok (.aload_n 0, 1) := by decide +kernel
theorem dX13_forgets_43 : decode cX13_forgets 43 = .ok (.getfield 35, 3) := by decide +kernel
theorem dX13_forgets_46 : decode cX13_forgets 46 = .ok (.iload_n 1, 1) := by decide +kernel
theorem dX13_forgets_47 : decode cX13_forgets 47 = .ok (.iconst 0, 1) := by decide +kernel
theorem dX13_forgets_48 : decode cX13_forgets 48 = .ok (.iastore, 1) := by decide +kernel
theorem dX13_forgets_49 : decode cX13_forgets 49 = .ok (.aload_n 0, 1) := by decide +kernel
theorem dX13_forgets_50 : decode cX13_forgets 50 = .ok (.getfield 41, 3) := by decide +kernel
theorem dX13_forgets_53 : decode cX13_forgets 53 = .ok (.iload_n 1, 1) := by decide +kernel
theorem dX13_forgets_54 : decode cX13_forgets 54 = .ok (.iconst 0, 1) := by decide +kernel
theorem dX13_forgets_55 : decode cX13_forgets 55 = .ok (.bastore, 1) := by decide +kernel
theorem dX13_forgets_56 : decode cX13_forgets 56 = .ok (.aload_n 0, 1) := by decide +kernel
theorem dX13_forgets_57 : decode cX13_forgets 57 = .ok (.getfield 44, 3) := by decide +kernel
theorem dX13_forgets_60 : decode cX13_forgets 60 = .ok (.iload_n 1, 1) := by decide +kernel
theorem dX13_forgets_61 : decode cX13_forgets 61 = .ok (.ldc2_w 271, 3) := by decide +kernel
theorem dX13_forgets_64 : decode cX13_forgets 64 = .ok (.lastore, 1) := by decide +kernel
theorem dX13_forgets_65 : decode cX13_forgets 65 = .ok (.aload_n 0, 1) := by decide +kernel
theorem dX13_forgets_66 : decode cX13_forgets 66 = .ok (.getfield 48, 3) := by decide +kernel
theorem dX13_forgets_69 : decode cX13_forgets 69 = .ok (.iload_n 1, 1) := by decide +kernel
theorem dX13_forgets_70 : decode cX13_forgets 70 = .ok (.ldc2_w 271, 3) := by decide +kernel
theorem dX13_forgets_73 : decode cX13_forgets 73 = .ok (.lastore, 1) := by decide +kernel
theorem dX13_forgets_74 : decode cX13_forgets 74 = .ok (.aload_n 0, 1) := by decide +kernel
theorem dX13_forgets_75 : decode cX13_forgets 75 = .ok (.getfield 51, 3) := by decide +kernel
theorem dX13_forgets_78 : decode cX13_forgets 78 = .ok (.iload_n 1, 1) := by decide +kernel
theorem dX13_forgets_79 : decode cX13_forgets 79 = .ok (.iconst 0, 1) := by decide +kernel
theorem dX13_forgets_80 : decode cX13_forgets 80 = .ok (.iastore, 1) := by decide +kernel
theorem dX13_forgets_81 : decode cX13_forgets 81 = .ok (.aload_n 0, 1) := by decide +kernel
theorem dX13_forgets_82 : decode cX13_forgets 82 = .ok (.getfield 57, 3) := by decide +kernel
theorem dX13_forgets_85 : decode cX13_forgets 85 = .ok (.iload_n 1, 1) := by decide +kernel
theorem dX13_forgets_86 : decode cX13_forgets 86 = .ok (.ldc2_w 271, 3) := by decide +kernel
theorem dX13_forgets_89 : decode cX13_forgets 89 = .ok (.lastore, 1) := by decide +kernel
theorem dX13_forgets_90 : decode cX13_forgets 90 = .ok (.aload_n 0, 1) := by decide +kernel
theorem dX13_forgets_91 : decode cX13_forgets 91 = .ok (.getfield 60, 3) := by decide +kernel
theorem dX13_forgets_94 : decode cX13_forgets 94 = .ok (.iload_n 1, 1) := by decide +kernel
theorem dX13_forgets_95 : decode cX13_forgets 95 = .ok (.iconst 1, 1) := by decide +kernel
theorem dX13_forgets_96 : decode cX13_forgets 96 = .ok (.iastore, 1) := by decide +kernel
theorem dX13_forgets_97 : decode cX13_forgets 97 = .ok (.aload_n 0, 1) := by decide +kernel
theorem dX13_forgets_98 : decode cX13_forgets 98 = .ok (.getfield 75, 3) := by decide +kernel
theorem dX13_forgets_101 : decode cX13_forgets 101 = .ok (.iload_n 1, 1) := by decide +kernel
theorem dX13_forgets_102 : decode cX13_forgets 102 = .ok (.iconst 0, 1) := by decide +kernel
theorem dX13_forgets_103 : decode cX13_forgets 103 = .ok (.iastore, 1) := by decide +kernel
theorem dX13_forgets_104 : decode cX13_forgets 104 = .ok (.aload_n 0, 1) := by decide +kernel
theorem dX13_forgets_105 : decode cX13_forgets 105 = .ok (.getfield 96, 3) := by decide +kernel
theorem dX13_forgets_108 : decode cX13_forgets 108 = .ok (.iload_n 1, 1) := by decide +kernel
theorem dX13_forgets_109 : decode cX13_forgets 109 = .ok (.iconst 0, 1) := by decide +kernel
theorem dX13_forgets_110 : decode cX13_forgets 110 = .ok (.iastore, 1) := by decide +kernel
theorem dX13_forgets_111 : decode cX13_forgets 111 = .ok (.aload_n 0, 1) := by decide +kernel
theorem dX13_forgets_112 : decode cX13_forgets 112 = .ok (.getfield 99, 3) := by decide +kernel
theorem dX13_forgets_115 : decode cX13_forgets 115 = .ok (.iload_n 1, 1) := by decide +kernel
theorem dX13_forgets_116 : decode cX13_forgets 116 = .ok (.iconst 0, 1) := by decide +kernel
theorem dX13_forgets_117 : decode cX13_forgets 117 = .ok (.iastore, 1) := by decide +kernel
theorem dX13_forgets_118 : decode cX13_forgets 118 = .ok (.iconst 4, 1) := by decide +kernel
theorem dX13_forgets_119 : decode cX13_forgets 119 = .ok (.iload_n 1, 1) := by decide +kernel
theorem dX13_forgets_120 : decode cX13_forgets 120 = .ok (.imul, 1) := by decide +kernel
theorem dX13_forgets_121 : decode cX13_forgets 121 = .ok (.istore_n 2, 1) := by decide +kernel
theorem dX13_forgets_122 : decode cX13_forgets 122 = .ok (.iload_n 2, 1) := by decide +kernel
theorem dX13_forgets_123 : decode cX13_forgets 123 = .ok (.iconst 4, 1) := by decide +kernel
theorem dX13_forgets_124 : decode cX13_forgets 124 = .ok (.iload_n 1, 1) := by decide +kernel
theorem dX13_forgets_125 : decode cX13_forgets 125 = .ok (.imul, 1) := by decide +kernel
theorem dX13_forgets_126 : decode cX13_forgets 126 = .ok (.iconst 4, 1) := by decide +kernel
theorem dX13_forgets_127 : decode cX13_forgets 127 = .ok (.iadd, 1) := by decide +kernel
theorem dX13_forgets_128 : decode cX13_forgets 128 = .ok (.if_icmp .ge 16, 3) := by decide +kernel
theorem dX13_forgets_131 : decode cX13_forgets 131 = .ok (.aload_n 0, 1) := by decide +kernel
theorem dX13_forgets_132 : decode cX13_forgets 132 = .ok (.getfield 81, 3) := by decide +kernel
theorem dX13_forgets_135 : decode cX13_forgets 135 = .ok (.iload_n 2, 1) := by decide +kernel
theorem dX13_forgets_136 : decode cX13_forgets 136 = .ok (.iconst 0, 1) := by decide +kernel
theorem dX13_forgets_137 : decode cX13_forgets 137 = .ok (.iastore, 1) := by decide +kernel
theorem dX13_forgets_138 : decode cX13_forgets 138 = .ok (.iinc 2 1, 3) := by decide +kernel
theorem dX13_forgets_141 : decode cX13_forgets 141 = .ok (.goto (-19), 3) := by decide +kernel
theorem dX13_forgets_144 : decode cX13_forgets 144 = .ok (.return_, 1) := by decide +kernel
theorem dX13_probes_0 : decode cX13_probes 0 = .ok (.aload_n 0, 1) := by decide +kernel
theorem dX13_probes_1 : decode cX13_probes 1 = .ok (.getfield 41, 3) := by decide +kernel
theorem dX13_probes_4 : decode cX13_probes 4 = .ok (.iload_n 1, 1) := by decide +kernel
theorem dX13_probes_5 : decode cX13_probes 5 = .ok (.iconst 0, 1) := by decide +kernel
theorem dX13_probes_6 : decode cX13_probes 6 = .ok (.bastore, 1) := by decide +kernel
theorem dX13_probes_7 : decode cX13_probes 7 = .ok (.aload_n 0, 1) := by decide +kernel
theorem dX13_probes_8 : decode cX13_probes 8 = .ok (.getfield 38, 3) := by decide +kernel
theorem dX13_probes_11 : decode cX13_probes 11 = .ok (.iload_n 1, 1) := by decide +kernel
theorem dX13_probes_12 : decode cX13_probes 12 = .ok (.iconst 0, 1) := by decide +kernel
theorem dX13_probes_13 : decode cX13_probes 13 = .ok (.iastore, 1) := by decide +kernel
theorem dX13_probes_14 : decode cX13_probes 14 = .ok (.aload_n 0, 1) := by decide +kernel
theorem dX13_probes_15 : decode cX13_probes 15 = .ok (.getfield 44, 3) := by decide +kernel
theorem dX13_probes_18 : decode cX13_probes 18 = .ok (.iload_n 1, 1) := by decide +kernel
theorem dX13_probes_19 : decode cX13_probes 19 = .ok (.aload_n 0, 1) := by decide +kernel
theorem dX13_probes_20 : decode cX13_probes 20 = .ok (.getfield 226, 3) := by decide +kernel
theorem dX13_probes_23 : decode cX13_probes 23 = .ok (.ldc2_w 262, 3) := by decide +kernel
theorem dX13_probes_26 : decode cX13_probes 26 = .ok (.aload_n 0, 1) := by decide +kernel
theorem dX13_probes_27 : decode cX13_probes 27 = .ok (.getfield 17, 3) := by decide +kernel
theorem dX13_probes_30 : decode cX13_probes 30 = .ok (.iload_n 1, 1) := by decide +kernel
theorem dX13_probes_31 : decode cX13_probes 31 = .ok (.iaload, 1) := by decide +kernel
theorem dX13_probes_32 : decode cX13_probes 32 = .ok (.i2l, 1) := by decide +kernel
theorem dX13_probes_33 : decode cX13_probes 33 = .ok (.lmul, 1) := by decide +kernel
theorem dX13_probes_34 : decode cX13_probes 34 = .ok (.ldc2_w 264, 3) := by decide +kernel
theorem dX13_probes_37 : decode cX13_probes 37 = .ok (.aload_n 0, 1) := by decide +kernel
theorem dX13_probes_38 : decode cX13_probes 38 = .ok (.getfield 23, 3) := by decide +kernel
theorem dX13_probes_41 : decode cX13_probes 41 = .ok (.iload_n 1, 1) := by decide +kernel
theorem dX13_probes_42 : decode cX13_probes 42 = .ok (.iaload, 1) := by decide +kernel
theorem dX13_probes_43 : decode cX13_probes 43 = .ok (.i2l, 1) := by decide +kernel
theorem dX13_probes_44 : decode cX13_probes 44 = .ok (.lmul, 1) := by decide +kernel
theorem dX13_probes_45 : decode cX13_probes 45 = .ok (.ladd, 1) := by decide +kernel
theorem dX13_probes_46 : decode cX13_probes 46 = .ok (.ldc2_w 266, 3) := by decide +kernel
theorem dX13_probes_49 : decode cX13_probes 49 = .ok (.lrem, 1) := by decide +kernel
theorem dX13_probes_50 : decode cX13_probes 50 = .ok (.ladd, 1) := by decide +kernel
theorem dX13_probes_51 : decode cX13_probes 51 = .ok (.lastore, 1) := by decide +kernel
theorem dX13_probes_52 : decode cX13_probes 52 = .ok (.return_, 1) := by decide +kernel
theorem dX13_isHost_0 : decode cX13_isHost 0 = .ok (.iload_n 1, 1) := by decide +kernel
theorem dX13_isHost_1 : decode cX13_isHost 1 = .ok (.ifCond .lt 13, 3) := by decide +kernel
theorem dX13_isHost_4 : decode cX13_isHost 4 = .ok (.iload_n 1, 1) := by decide +kernel
theorem dX13_isHost_5 : decode cX13_isHost 5 = .ok (.bipush 8, 2) := by decide +kernel
theorem dX13_isHost_7 : decode cX13_isHost 7 = .ok (.if_icmp .ge 7, 3) := by decide +kernel
theorem dX13_isHost_10 : decode cX13_isHost 10 = .ok (.iconst 1, 1) := by decide +kernel
theorem dX13_isHost_11 : decode cX13_isHost 11 = .ok (.goto 4, 3) := by decide +kernel
theorem dX13_isHost_14 : decode cX13_isHost 14 = .ok (.iconst 0, 1) := by decide +kernel
theorem dX13_isHost_15 : decode cX13_isHost 15 = .ok (.ireturn, 1) := by decide +kernel
theorem dX13_off_0 : decode cX13_off 0 = .ok (.aload_n 0, 1) := by decide +kernel
theorem dX13_off_1 : decode cX13_off 1 = .ok (.iconst 0, 1) := by decide +kernel
theorem dX13_off_2 : decode cX13_off 2 = .ok (.putfield 184, 3) := by decide +kernel
theorem dX13_off_5 : decode cX13_off 5 = .ok (.aload_n 0, 1) := by decide +kernel
theorem dX13_off_6 : decode cX13_off 6 = .ok (.iload_n 1, 1) := by decide +kernel
theorem dX13_off_7 : decode cX13_off 7 = .ok (.invokevirtual 386, 3) := by decide +kernel
theorem dX13_off_10 : decode cX13_off 10 = .ok (.ifCond .eq 12, 3) := by decide +kernel
theorem dX13_off_13 : decode cX13_off 13 = .ok (.aload_n 0, 1) := by decide +kernel
theorem dX13_off_14 : decode cX13_off 14 = .ok (.getfield 13, 3) := by decide +kernel
theorem dX13_off_17 : decode cX13_off 17 = .ok (.iload_n 1, 1) := by decide +kernel
theorem dX13_off_18 : decode cX13_off 18 = .ok (.baload, 1) := by decide +kernel
theorem dX13_off_19 : decode cX13_off 19 = .ok (.ifCond .ne 5, 3) := by decide +kernel
theorem dX13_off_22 : decode cX13_off 22 = .ok (.iconst 0, 1) := by decide +kernel
theorem dX13_off_23 : decode cX13_off 23 = .ok (.ireturn, 1) := by decide +kernel
theorem dX13_off_24 : decode cX13_off 24 = .ok (.iload_n 2, 1) := by decide +kernel
theorem dX13_off_25 : decode cX13_off 25 = .ok (.ifCond .eq 20, 3) := by decide +kernel
theorem dX13_off_28 : decode cX13_off 28 = .ok (.aload_n 0, 1) := by decide +kernel
theorem dX13_off_29 : decode cX13_off 29 = .ok (.getfield 51, 3) := by decide +kernel
theorem dX13_off_32 : decode cX13_off 32 = .ok (.iload_n 1, 1) := by decide +kernel
theorem dX13_off_33 : decode cX13_off 33 = .ok (.iaload, 1) := by decide +kernel
theorem dX13_off_34 : decode cX13_off 34 = .ok (.iconst 3, 1) := by decide +kernel
theorem dX13_off_35 : decode cX13_off 35 = .ok (.if_icmp .ne 10, 3) := by decide +kernel
theorem dX13_off_38 : decode cX13_off 38 = .ok (.aload_n 0, 1) := by decide +kernel
theorem dX13_off_39 : decode cX13_off 39 = .ok (.iload_n 1, 1) := by decide +kernel
theorem dX13_off_40 : decode cX13_off 40 = .ok (.iconst 0, 1) := by decide +kernel
theorem dX13_off_41 : decode cX13_off 41 = .ok (.iconst 1, 1) := by decide +kernel
theorem dX13_off_42 : decode cX13_off 42 = .ok (.invokevirtual 288, 3) := by decide +kernel
theorem dX13_off_45 : decode cX13_off 45 = .ok (.aload_n 0, 1) := by decide +kernel
theorem dX13_off_46 : decode cX13_off 46 = .ok (.iload_n 1, 1) := by decide +kernel
theorem dX13_off_47 : decode cX13_off 47 = .ok (.invokevirtual 390, 3) := by decide +kernel
theorem dX13_off_50 : decode cX13_off 50 = .ok (.iconst 1, 1) := by decide +kernel
theorem dX13_off_51 : decode cX13_off 51 = .ok (.ireturn, 1) := by decide +kernel
theorem dX13_claim_0 : decode cX13_claim 0 = .ok (.aload_n 0, 1) := by decide +kernel
theorem dX13_claim_1 : decode cX13_claim 1 = .ok (.iconst 0, 1) := by decide +kernel
theorem dX13_claim_2 : decode cX13_claim 2 = .ok (.putfield 184, 3) := by decide +kernel
theorem dX13_claim_5 : decode cX13_claim 5 = .ok (.aload_n 0, 1) := by decide +kernel
theorem dX13_claim_6 : decode cX13_claim 6 = .ok (.invokevirtual 393, 3) := by decide +kernel
theorem dX13_claim_9 : decode cX13_claim 9 = .ok (.istore_n 2, 1) := by decide +kernel
theorem dX13_claim_10 : decode cX13_claim 10 = .ok (.aload_n 0, 1) := by decide +kernel
theorem dX13_claim_11 : decode cX13_claim 11 = .ok (.iload_n 1, 1) := by decide +kernel
theorem dX13_claim_12 : decode cX13_claim 12 = .ok (.invokevirtual 386, 3) := by decide +kernel
theorem dX13_claim_15 : decode cX13_claim 15 = .ok (.ifCond .eq 25, 3) := by decide +kernel
theorem dX13_claim_18 : decode cX13_claim 18 = .ok (.aload_n 0, 1) := by decide +kernel
theorem dX13_claim_19 : decode cX13_claim 19 = .ok (.getfield 13, 3) := by decide +kernel
theorem dX13_claim_22 : decode cX13_claim 22 = .ok (.iload_n 1, 1) := by decide +kernel
theorem dX13_claim_23 : decode cX13_claim 23 = .ok (.baload, 1) := by decide +kernel
theorem dX13_claim_24 : decode cX13_claim 24 = .ok (.ifCond .eq 16, 3) := by decide +kernel
theorem dX13_claim_27 : decode cX13_claim 27 = .ok (.aload_n 0, 1) := by decide +kernel
theorem dX13_claim_28 : decode cX13_claim 28 = .ok (.getfield 51, 3) := by decide +kernel
theorem dX13_claim_31 : decode cX13_claim 31 = .ok (.iload_n 1, 1) := by decide +kernel
theorem dX13_claim_32 : decode cX13_claim 32 = .ok (.iaload, 1) := by decide +kernel
theorem dX13_claim_33 : decode cX13_claim 33 = .ok (.ifCond .gt 7, 3) := by decide +kernel
theorem dX13_claim_36 : decode cX13_claim 36 = .ok (.iload_n 2, 1) := by decide +kernel
theorem dX13_claim_37 : decode cX13_claim 37 = .ok (.ifCond .ne 5, 3) := by decide +kernel
theorem dX13_claim_40 : decode cX13_claim 40 = .ok (.iconst 0, 1) := by decide +kernel
theorem dX13_claim_41 : decode cX13_claim 41 = .ok (.ireturn, 1) := by decide +kernel
theorem dX13_claim_42 : decode cX13_claim 42 = .ok (.aload_n 0, 1) := by decide +kernel
theorem dX13_claim_43 : decode cX13_claim 43 = .ok (.getfield 148, 3) := by decide +kernel
theorem dX13_claim_46 : decode cX13_claim 46 = .ok (.iconst 0, 1) := by decide +kernel
theorem dX13_claim_47 : decode cX13_claim 47 = .ok (.aload_n 0, 1) := by decide +kernel
theorem dX13_claim_48 : decode cX13_claim 48 = .ok (.getfield 63, 3) := by decide +kernel
theorem dX13_claim_51 : decode cX13_claim 51 = .ok (.bipush 16, 2) := by decide +kernel
theorem dX13_claim_53 : decode cX13_claim 53 = .ok (.iload_n 1, 1) := by decide +kernel
theorem dX13_claim_54 : decode cX13_claim 54 = .ok (.imul, 1) := by decide +kernel
theorem dX13_claim_55 : decode cX13_claim 55 = .ok (.invokestatic 213, 3) := by decide +kernel
theorem dX13_claim_58 : decode cX13_claim 58 = .ok (.aload_n 0, 1) := by decide +kernel
theorem dX13_claim_59 : decode cX13_claim 59 = .ok (.getfield 148, 3) := by decide +kernel
theorem dX13_claim_62 : decode cX13_claim 62 = .ok (.iconst 0, 1) := by decide +kernel
theorem dX13_claim_63 : decode cX13_claim 63 = .ok (.aload_n 0, 1) := by decide +kernel
theorem dX13_claim_64 : decode cX13_claim 64 = .ok (.getfield 66, 3) := by decide +kernel
theorem dX13_claim_67 : decode cX13_claim 67 = .ok (.bipush 16, 2) := by decide +kernel
theorem dX13_claim_69 : decode cX13_claim 69 = .ok (.iload_n 1, 1) := by decide +kernel
theorem dX13_claim_70 : decode cX13_claim 70 = .ok (.imul, 1) := by decide +kernel
theorem dX13_claim_71 : decode cX13_claim 71 = .ok (.invokestatic 213, 3) := by decide +kernel
theorem dX13_claim_74 : decode cX13_claim 74 = .ok (.aload_n 0, 1) := by decide +kernel
theorem dX13_claim_75 : decode cX13_claim 75 = .ok (.getfield 51, 3) := by decide +kernel
theorem dX13_claim_78 : decode cX13_claim 78 = .ok (.iload_n 1, 1) := by decide +kernel
theorem dX13_claim_79 : decode cX13_claim 79 = .ok (.iconst 1, 1) := by decide +kernel
theorem dX13_claim_80 : decode cX13_claim 80 = .ok (.iastore, 1) := by decide +kernel
theorem dX13_claim_81 : decode cX13_claim 81 = .ok (.aload_n 0, 1) := by decide +kernel
theorem dX13_claim_82 : decode cX13_claim 82 = .ok (.getfield 41, 3) := by decide +kernel
theorem dX13_claim_85 : decode cX13_claim 85 = .ok (.iload_n 1, 1) := by decide +kernel
theorem dX13_claim_86 : decode cX13_claim 86 = .ok (.baload, 1) := by decide +kernel
theorem dX13_claim_87 : decode cX13_claim 87 = .ok (.ifCond .eq 8, 3) := by decide +kernel
theorem dX13_claim_90 : decode cX13_claim 90 = .ok (.aload_n 0, 1) := by decide +kernel
theorem dX13_claim_91 : decode cX13_claim 91 = .ok (.iload_n 1, 1) := by decide +kernel
theorem dX13_claim_92 : decode cX13_claim 92 = .ok (.invokevirtual 277, 3) := by decide +kernel
theorem dX13_claim_95 : decode cX13_claim 95 = .ok (.iconst 1, 1) := by decide +kernel
theorem dX13_claim_96 : decode cX13_claim 96 = .ok (.ireturn, 1) := by decide +kernel
theorem dX13_service_0 : decode cX13_service 0 = .ok (.aload_n 0, 1) := by decide +kernel
theorem dX13_service_1 : decode cX13_service 1 = .ok (.iconst 0, 1) := by decide +kernel
theorem dX13_service_2 : decode cX13_service 2 = .ok (.putfield 184, 3) := by decide +kernel
theorem dX13_service_5 : decode cX13_service 5 = .ok (.aload_n 0, 1) := by decide +kernel
theorem dX13_service_6 : decode cX13_service 6 = .ok (.invokevirtual 393, 3) := by decide +kernel
theorem dX13_service_9 : decode cX13_service 9 = .ok (.istore_n 3, 1) := by decide +kernel
theorem dX13_service_10 : decode cX13_service 10 = .ok (.aload_n 0, 1) := by decide +kernel
theorem dX13_service_11 : decode cX13_service 11 = .ok (.iload_n 1, 1) := by decide +kernel
theorem dX13_service_12 : decode cX13_service 12 = .ok (.invokevirtual 386, 3) := by decide +kernel
theorem dX13_service_15 : decode cX13_service 15 = .ok (.ifCond .eq 37, 3) := by decide +kernel
theorem dX13_service_18 : decode cX13_service 18 = .ok (.aload_n 0, 1) := by decide +kernel
theorem dX13_service_19 : decode cX13_service 19 = .ok (.getfield 13, 3) := by decide +kernel
theorem dX13_service_22 : decode cX13_service 22 = .ok (.iload_n 1, 1) := by decide +kernel
theorem dX13_service_23 : decode cX13_service 23 = .ok (.baload, 1) := by decide +kernel
theorem dX13_service_24 : decode cX13_service 24 = .ok (.ifCond .eq 28, 3) := by decide +kernel
theorem dX13_service_27 : decode cX13_service 27 = .ok (.iload_n 2, 1) := by decide +kernel
theorem dX13_service_28 : decode cX13_service 28 = .ok (.ifCond .lt 24, 3) := by decide +kernel
theorem dX13_service_31 : decode cX13_service 31 = .ok (.iload_n 2, 1) := by decide +kernel
theorem dX13_service_32 : decode cX13_service 32 = .ok (.ldc_w 389, 3) := by decide +kernel
theorem dX13_service_35 : decode cX13_service 35 = .ok (.if_icmp .gt 17, 3) := by decide +kernel
theorem dX13_service_38 : decode cX13_service 38 = .ok (.iload_n 3, 1) := by decide +kernel
theorem dX13_service_39 : decode cX13_service 39 = .ok (.ifCond .eq 13, 3) := by decide +kernel
theorem dX13_service_42 : decode cX13_service 42 = .ok (.aload_n 0, 1) := by decide +kernel
theorem dX13_service_43 : decode cX13_service 43 = .ok (.getfield 75, 3) := by decide +kernel
theorem dX13_service_46 : decode cX13_service 46 = .ok (.iload_n 1, 1) := by decide +kernel
theorem dX13_service_47 : decode cX13_service 47 = .ok (.iaload, 1) := by decide +kernel
theorem dX13_service_48 : decode cX13_service 48 = .ok (.iconst 4, 1) := by decide +kernel
theorem dX13_service_49 : decode cX13_service 49 = .ok (.if_icmp .ne 5, 3) := by decide +kernel
theorem dX13_service_52 : decode cX13_service 52 = .ok (.iconst (-1), 1) := by decide +kernel
theorem dX13_service_53 : decode cX13_service 53 = .ok (.ireturn, 1) := by decide +kernel
theorem dX13_service_54 : decode cX13_service 54 = .ok (.aload_n 0, 1) := by decide +kernel
theorem dX13_service_55 : decode cX13_service 55 = .ok (.getfield 148, 3) := by decide +kernel
theorem dX13_service_58 : decode cX13_service 58 = .ok (.iconst 0, 1) := by decide +kernel
theorem dX13_service_59 : decode cX13_service 59 = .ok (.aload_n 0, 1) := by decide +kernel
theorem dX13_service_60 : decode cX13_service 60 = .ok (.getfield 69, 3) := by decide +kernel
theorem dX13_service_63 : decode cX13_service 63 = .ok (.bipush 64, 2) := by decide +kernel
theorem dX13_service_65 : decode cX13_service 65 = .ok (.iload_n 1, 1) := by decide +kernel
theorem dX13_service_66 : decode cX13_service 66 = .ok (.imul, 1) := by decide +kernel
theorem dX13_service_67 : decode cX13_service 67 = .ok (.bipush 16, 2) := by decide +kernel
theorem dX13_service_69 : decode cX13_service 69 = .ok (.aload_n 0, 1) := by decide +kernel
theorem dX13_service_70 : decode cX13_service 70 = .ok (.getfield 75, 3) := by decide +kernel
theorem dX13_service_73 : decode cX13_service 73 = .ok (.iload_n 1, 1) := by decide +kernel
theorem dX13_service_74 : decode cX13_service 74 = .ok (.iaload, 1) := by decide +kernel
theorem dX13_service_75 : decode cX13_service 75 = .ok (.imul, 1) := by decide +kernel
theorem dX13_service_76 : decode cX13_service 76 = .ok (.iadd, 1) := by decide +kernel
theorem dX13_service_77 : decode cX13_service 77 = .ok (.invokestatic 213, 3) := by decide +kernel
theorem dX13_service_80 : decode cX13_service 80 = .ok (.aload_n 0, 1) := by decide +kernel
theorem dX13_service_81 : decode cX13_service 81 = .ok (.getfield 72, 3) := by decide +kernel
theorem dX13_service_84 : decode cX13_service 84 = .ok (.iconst 4, 1) := by decide +kernel
theorem dX13_service_85 : decode cX13_service 85 = .ok (.iload_n 1, 1) := by decide +kernel
theorem dX13_service_86 : decode cX13_service 86 = .ok (.imul, 1) := by decide +kernel
theorem dX13_service_87 : decode cX13_service 87 = .ok (.aload_n 0, 1) := by decide +kernel
theorem dX13_service_88 : decode cX13_service 88 = .ok (.getfield 75, 3) := by decide +kernel
theorem dX13_service_91 : decode cX13_service 91 = .ok (.iload_n 1, 1) := by decide +kernel
theorem dX13_service_92 : decode cX13_service 92 = .ok (.iaload, 1) := by decide +kernel
theorem dX13_service_93 : decode cX13_service 93 = .ok (.iadd, 1) := by decide +kernel
theorem dX13_service_94 : decode cX13_service 94 = .ok (.iload_n 2, 1) := by decide +kernel
theorem dX13_service_95 : decode cX13_service 95 = .ok (.iastore, 1) := by decide +kernel
theorem dX13_service_96 : decode cX13_service 96 = .ok (.aload_n 0, 1) := by decide +kernel
theorem dX13_service_97 : decode cX13_service 97 = .ok (.getfield 75, 3) := by decide +kernel
theorem dX13_service_100 : decode cX13_service 100 = .ok (.iload_n 1, 1) := by decide +kernel
theorem dX13_service_101 : decode cX13_service 101 = .ok (.dup2, 1) := by decide +kernel
theorem dX13_service_102 : decode cX13_service 102 = .ok (.iaload, 1) := by decide +kernel
theorem dX13_service_103 : decode cX13_service 103 = .ok (.iconst 1, 1) := by decide +kernel
theorem dX13_service_104 : decode cX13_service 104 = .ok (.iadd, 1) := by decide +kernel
theorem dX13_service_105 : decode cX13_service 105 = .ok (.iastore, 1) := by decide +kernel
theorem dX13_service_106 : decode cX13_service 106 = .ok (.aload_n 0, 1) := by decide +kernel
theorem dX13_service_107 : decode cX13_service 107 = .ok (.getfield 75, 3) := by decide +kernel
theorem dX13_service_110 : decode cX13_service 110 = .ok (.iload_n 1, 1) := by decide +kernel
theorem dX13_service_111 : decode cX13_service 111 = .ok (.iaload, 1) := by decide +kernel
theorem dX13_service_112 : decode cX13_service 112 = .ok (.ireturn, 1) := by decide +kernel
theorem dX13_ask_0 : decode cX13_ask 0 = .ok (.aload_n 0, 1) := by decide +kernel
theorem dX13_ask_1 : decode cX13_ask 1 = .ok (.iconst 0, 1) := by decide +kernel
theorem dX13_ask_2 : decode cX13_ask 2 = .ok (.putfield 184, 3) := by decide +kernel
theorem dX13_ask_5 : decode cX13_ask 5 = .ok (.aload_n 0, 1) := by decide +kernel
theorem dX13_ask_6 : decode cX13_ask 6 = .ok (.invokevirtual 393, 3) := by decide +kernel
theorem dX13_ask_9 : decode cX13_ask 9 = .ok (.istore_n 3, 1) := by decide +kernel
theorem dX13_ask_10 : decode cX13_ask 10 = .ok (.aload_n 0, 1) := by decide +kernel
theorem dX13_ask_11 : decode cX13_ask 11 = .ok (.iload_n 1, 1) := by decide +kernel
theorem dX13_ask_12 : decode cX13_ask 12 = .ok (.invokevirtual 386, 3) := by decide +kernel
theorem dX13_ask_15 : decode cX13_ask 15 = .ok (.ifCond .eq 26, 3) := by decide +kernel
theorem dX13_ask_18 : decode cX13_ask 18 = .ok (.aload_n 0, 1) := by decide +kernel
theorem dX13_ask_19 : decode cX13_ask 19 = .ok (.getfield 13, 3) := by decide +kernel
theorem dX13_ask_22 : decode cX13_ask 22 = .ok (.iload_n 1, 1) := by decide +kernel
theorem dX13_ask_23 : decode cX13_ask 23 = .ok (.baload, 1) := by decide +kernel
theorem dX13_ask_24 : decode cX13_ask 24 = .ok (.ifCond .eq 17, 3) := by decide +kernel
theorem dX13_ask_27 : decode cX13_ask 27 = .ok (.iload_n 2, 1) := by decide +kernel
theorem dX13_ask_28 : decode cX13_ask 28 = .ok (.iconst 1, 1) := by decide +kernel
theorem dX13_ask_29 : decode cX13_ask 29 = .ok (.if_icmp .lt 12, 3) := by decide +kernel
theorem dX13_ask_32 : decode cX13_ask 32 = .ok (.iload_n 2, 1) := by decide +kernel
theorem dX13_ask_33 : decode cX13_ask 33 = .ok (.iconst 2, 1) := by decide +kernel
theorem dX13_ask_34 : decode cX13_ask 34 = .ok (.if_icmp .gt 7, 3) := by decide +kernel
theorem dX13_ask_37 : decode cX13_ask 37 = .ok (.iload_n 3, 1) := by decide +kernel
theorem dX13_ask_38 : decode cX13_ask 38 = .ok (.ifCond .ne 5, 3) := by decide +kernel
theorem dX13_ask_41 : decode cX13_ask 41 = .ok (.iconst (-1), 1) := by decide +kernel
theorem dX13_ask_42 : decode cX13_ask 42 = .ok (.ireturn, 1) := by decide +kernel
theorem dX13_ask_43 : decode cX13_ask 43 = .ok (.iconst 0, 1) := by decide +kernel
theorem dX13_ask_44 : decode cX13_ask 44 = .ok (.istore 4, 2) := by decide +kernel
theorem dX13_ask_46 : decode cX13_ask 46 = .ok (.iload 4, 2) := by decide +kernel
theorem dX13_ask_48 : decode cX13_ask 48 = .ok (.iconst 4, 1) := by decide +kernel
theorem dX13_ask_49 : decode cX13_ask 49 = .ok (.if_icmp .ge 23, 3) := by decide +kernel
theorem dX13_ask_52 : decode cX13_ask 52 = .ok (.aload_n 0, 1) := by decide +kernel
theorem dX13_ask_53 : decode cX13_ask 53 = .ok (.getfield 81, 3) := by decide +kernel
theorem dX13_ask_56 : decode cX13_ask 56 = .ok (.iconst 4, 1) := by decide +kernel
theorem dX13_ask_57 : decode cX13_ask 57 = .ok (.iload_n 1, 1) := by decide +kernel
theorem dX13_ask_58 : decode cX13_ask 58 = .ok (.imul, 1) := by decide +kernel
theorem dX13_ask_59 : decode cX13_ask 59 = .ok (.iload 4, 2) := by decide +kernel
theorem dX13_ask_61 : decode cX13_ask 61 = .ok (.iadd, 1) := by decide +kernel
theorem dX13_ask_62 : decode cX13_ask 62 = .ok (.iaload, 1) := by decide +kernel
theorem dX13_ask_63 : decode cX13_ask 63 = .ok (.ifCond .le 9, 3) := by decide +kernel
theorem dX13_ask_66 : decode cX13_ask 66 = .ok (.iinc 4 1, 3) := by decide +kernel
theorem dX13_ask_69 : decode cX13_ask 69 = .ok (.goto (-23), 3) := by decide +kernel
theorem dX13_ask_72 : decode cX13_ask 72 = .ok (.iload 4, 2) := by decide +kernel
theorem dX13_ask_74 : decode cX13_ask 74 = .ok (.iconst 4, 1) := by decide +kernel
theorem dX13_ask_75 : decode cX13_ask 75 = .ok (.if_icmp .ne 5, 3) := by decide +kernel
theorem dX13_ask_78 : decode cX13_ask 78 = .ok (.iconst (-1), 1) := by decide +kernel
end
section
theorem dX13_ask_79 : decode cX13_ask 79 = .ok (.ireturn, 1) := by decide +kernel
theorem dX13_ask_80 : decode cX13_ask 80 = .ok (.iconst 4, 1) := by decide +kernel
theorem dX13_ask_81 : decode cX13_ask 81 = .ok (.iload_n 1, 1) := by decide +kernel
theorem dX13_ask_82 : decode cX13_ask 82 = .ok (.imul, 1) := by decide +kernel
theorem dX13_ask_83 : decode cX13_ask 83 = .ok (.iload 4, 2) := by decide +kernel
theorem dX13_ask_85 : decode cX13_ask 85 = .ok (.iadd, 1) := by decide +kernel
theorem dX13_ask_86 : decode cX13_ask 86 = .ok (.istore 5, 2) := by decide +kernel
theorem dX13_ask_88 : decode cX13_ask 88 = .ok (.aload_n 0, 1) := by decide +kernel
theorem dX13_ask_89 : decode cX13_ask 89 = .ok (.getfield 81, 3) := by decide +kernel
theorem dX13_ask_92 : decode cX13_ask 92 = .ok (.iload 5, 2) := by decide +kernel
theorem dX13_ask_94 : decode cX13_ask 94 = .ok (.iload_n 2, 1) := by decide +kernel
theorem dX13_ask_95 : decode cX13_ask 95 = .ok (.iastore, 1) := by decide +kernel
theorem dX13_ask_96 : decode cX13_ask 96 = .ok (.aload_n 0, 1) := by decide +kernel
theorem dX13_ask_97 : decode cX13_ask 97 = .ok (.getfield 148, 3) := by decide +kernel
theorem dX13_ask_100 : decode cX13_ask 100 = .ok (.iconst 0, 1) := by decide +kernel
theorem dX13_ask_101 : decode cX13_ask 101 = .ok (.aload_n 0, 1) := by decide +kernel
theorem dX13_ask_102 : decode cX13_ask 102 = .ok (.getfield 78, 3) := by decide +kernel
theorem dX13_ask_105 : decode cX13_ask 105 = .ok (.bipush 16, 2) := by decide +kernel
theorem dX13_ask_107 : decode cX13_ask 107 = .ok (.iload 5, 2) := by decide +kernel
theorem dX13_ask_109 : decode cX13_ask 109 = .ok (.imul, 1) := by decide +kernel
theorem dX13_ask_110 : decode cX13_ask 110 = .ok (.invokestatic 213, 3) := by decide +kernel
theorem dX13_ask_113 : decode cX13_ask 113 = .ok (.aload_n 0, 1) := by decide +kernel
theorem dX13_ask_114 : decode cX13_ask 114 = .ok (.getfield 84, 3) := by decide +kernel
theorem dX13_ask_117 : decode cX13_ask 117 = .ok (.iload 5, 2) := by decide +kernel
theorem dX13_ask_119 : decode cX13_ask 119 = .ok (.aload_n 0, 1) := by decide +kernel
theorem dX13_ask_120 : decode cX13_ask 120 = .ok (.getfield 226, 3) := by decide +kernel
theorem dX13_ask_123 : decode cX13_ask 123 = .ok (.ldc2_w 376, 3) := by decide +kernel
theorem dX13_ask_126 : decode cX13_ask 126 = .ok (.ladd, 1) := by decide +kernel
theorem dX13_ask_127 : decode cX13_ask 127 = .ok (.ldc2_w 396, 3) := by decide +kernel
theorem dX13_ask_130 : decode cX13_ask 130 = .ok (.aload_n 0, 1) := by decide +kernel
theorem dX13_ask_131 : decode cX13_ask 131 = .ok (.getfield 17, 3) := by decide +kernel
theorem dX13_ask_134 : decode cX13_ask 134 = .ok (.iload_n 1, 1) := by decide +kernel
theorem dX13_ask_135 : decode cX13_ask 135 = .ok (.iaload, 1) := by decide +kernel
theorem dX13_ask_136 : decode cX13_ask 136 = .ok (.i2l, 1) := by decide +kernel
theorem dX13_ask_137 : decode cX13_ask 137 = .ok (.lmul, 1) := by decide +kernel
theorem dX13_ask_138 : decode cX13_ask 138 = .ok (.ldc2_w 297, 3) := by decide +kernel
theorem dX13_ask_141 : decode cX13_ask 141 = .ok (.lrem, 1) := by decide +kernel
theorem dX13_ask_142 : decode cX13_ask 142 = .ok (.ladd, 1) := by decide +kernel
theorem dX13_ask_143 : decode cX13_ask 143 = .ok (.lastore, 1) := by decide +kernel
theorem dX13_ask_144 : decode cX13_ask 144 = .ok (.aload_n 0, 1) := by decide +kernel
theorem dX13_ask_145 : decode cX13_ask 145 = .ok (.getfield 87, 3) := by decide +kernel
theorem dX13_ask_148 : decode cX13_ask 148 = .ok (.iload 5, 2) := by decide +kernel
theorem dX13_ask_150 : decode cX13_ask 150 = .ok (.sipush 1000, 3) := by decide +kernel
theorem dX13_ask_153 : decode cX13_ask 153 = .ok (.iastore, 1) := by decide +kernel
theorem dX13_ask_154 : decode cX13_ask 154 = .ok (.iload 4, 2) := by decide +kernel
theorem dX13_ask_156 : decode cX13_ask 156 = .ok (.ireturn, 1) := by decide +kernel
theorem dX13_isOpen_0 : decode cX13_isOpen 0 = .ok (.aload_n 0, 1) := by decide +kernel
theorem dX13_isOpen_1 : decode cX13_isOpen 1 = .ok (.iload_n 1, 1) := by decide +kernel
theorem dX13_isOpen_2 : decode cX13_isOpen 2 = .ok (.invokevirtual 386, 3) := by decide +kernel
theorem dX13_isOpen_5 : decode cX13_isOpen 5 = .ok (.ifCond .eq 38, 3) := by decide +kernel
theorem dX13_isOpen_8 : decode cX13_isOpen 8 = .ok (.aload_n 0, 1) := by decide +kernel
theorem dX13_isOpen_9 : decode cX13_isOpen 9 = .ok (.getfield 13, 3) := by decide +kernel
theorem dX13_isOpen_12 : decode cX13_isOpen 12 = .ok (.iload_n 1, 1) := by decide +kernel
theorem dX13_isOpen_13 : decode cX13_isOpen 13 = .ok (.baload, 1) := by decide +kernel
theorem dX13_isOpen_14 : decode cX13_isOpen 14 = .ok (.ifCond .eq 29, 3) := by decide +kernel
theorem dX13_isOpen_17 : decode cX13_isOpen 17 = .ok (.iload_n 2, 1) := by decide +kernel
theorem dX13_isOpen_18 : decode cX13_isOpen 18 = .ok (.ifCond .lt 25, 3) := by decide +kernel
theorem dX13_isOpen_21 : decode cX13_isOpen 21 = .ok (.iload_n 2, 1) := by decide +kernel
theorem dX13_isOpen_22 : decode cX13_isOpen 22 = .ok (.iconst 4, 1) := by decide +kernel
theorem dX13_isOpen_23 : decode cX13_isOpen 23 = .ok (.if_icmp .ge 20, 3) := by decide +kernel
theorem dX13_isOpen_26 : decode cX13_isOpen 26 = .ok (.aload_n 0, 1) := by decide +kernel
theorem dX13_isOpen_27 : decode cX13_isOpen 27 = .ok (.getfield 81, 3) := by decide +kernel
theorem dX13_isOpen_30 : decode cX13_isOpen 30 = .ok (.iconst 4, 1) := by decide +kernel
theorem dX13_isOpen_31 : decode cX13_isOpen 31 = .ok (.iload_n 1, 1) := by decide +kernel
theorem dX13_isOpen_32 : decode cX13_isOpen 32 = .ok (.imul, 1) := by decide +kernel
theorem dX13_isOpen_33 : decode cX13_isOpen 33 = .ok (.iload_n 2, 1) := by decide +kernel
theorem dX13_isOpen_34 : decode cX13_isOpen 34 = .ok (.iadd, 1) := by decide +kernel
theorem dX13_isOpen_35 : decode cX13_isOpen 35 = .ok (.iaload, 1) := by decide +kernel
theorem dX13_isOpen_36 : decode cX13_isOpen 36 = .ok (.ifCond .le 7, 3) := by decide +kernel
theorem dX13_isOpen_39 : decode cX13_isOpen 39 = .ok (.iconst 1, 1) := by decide +kernel
theorem dX13_isOpen_40 : decode cX13_isOpen 40 = .ok (.goto 4, 3) := by decide +kernel
theorem dX13_isOpen_43 : decode cX13_isOpen 43 = .ok (.iconst 0, 1) := by decide +kernel
theorem dX13_isOpen_44 : decode cX13_isOpen 44 = .ok (.ireturn, 1) := by decide +kernel
theorem dX13_close_0 : decode cX13_close 0 = .ok (.aload_n 0, 1) := by decide +kernel
theorem dX13_close_1 : decode cX13_close 1 = .ok (.iconst 0, 1) := by decide +kernel
theorem dX13_close_2 : decode cX13_close 2 = .ok (.putfield 184, 3) := by decide +kernel
theorem dX13_close_5 : decode cX13_close 5 = .ok (.aload_n 0, 1) := by decide +kernel
theorem dX13_close_6 : decode cX13_close 6 = .ok (.iload_n 1, 1) := by decide +kernel
theorem dX13_close_7 : decode cX13_close 7 = .ok (.iload_n 2, 1) := by decide +kernel
theorem dX13_close_8 : decode cX13_close 8 = .ok (.invokevirtual 398, 3) := by decide +kernel
theorem dX13_close_11 : decode cX13_close 11 = .ok (.ifCond .ne 5, 3) := by decide +kernel
theorem dX13_close_14 : decode cX13_close 14 = .ok (.iconst 0, 1) := by decide +kernel
theorem dX13_close_15 : decode cX13_close 15 = .ok (.ireturn, 1) := by decide +kernel
theorem dX13_close_16 : decode cX13_close 16 = .ok (.aload_n 0, 1) := by decide +kernel
theorem dX13_close_17 : decode cX13_close 17 = .ok (.getfield 81, 3) := by decide +kernel
theorem dX13_close_20 : decode cX13_close 20 = .ok (.iconst 4, 1) := by decide +kernel
theorem dX13_close_21 : decode cX13_close 21 = .ok (.iload_n 1, 1) := by decide +kernel
theorem dX13_close_22 : decode cX13_close 22 = .ok (.imul, 1) := by decide +kernel
theorem dX13_close_23 : decode cX13_close 23 = .ok (.iload_n 2, 1) := by decide +kernel
theorem dX13_close_24 : decode cX13_close 24 = .ok (.iadd, 1) := by decide +kernel
theorem dX13_close_25 : decode cX13_close 25 = .ok (.iconst 0, 1) := by decide +kernel
theorem dX13_close_26 : decode cX13_close 26 = .ok (.iastore, 1) := by decide +kernel
theorem dX13_close_27 : decode cX13_close 27 = .ok (.iconst 1, 1) := by decide +kernel
theorem dX13_close_28 : decode cX13_close 28 = .ok (.ireturn, 1) := by decide +kernel
theorem dX13_split_0 : decode cX13_split 0 = .ok (.aload_n 0, 1) := by decide +kernel
theorem dX13_split_1 : decode cX13_split 1 = .ok (.iconst 0, 1) := by decide +kernel
theorem dX13_split_2 : decode cX13_split 2 = .ok (.putfield 184, 3) := by decide +kernel
theorem dX13_split_5 : decode cX13_split 5 = .ok (.iconst 0, 1) := by decide +kernel
theorem dX13_split_6 : decode cX13_split 6 = .ok (.istore_n 2, 1) := by decide +kernel
theorem dX13_split_7 : decode cX13_split 7 = .ok (.iload_n 2, 1) := by decide +kernel
theorem dX13_split_8 : decode cX13_split 8 = .ok (.bipush 8, 2) := by decide +kernel
theorem dX13_split_10 : decode cX13_split 10 = .ok (.if_icmp .ge 20, 3) := by decide +kernel
theorem dX13_split_13 : decode cX13_split 13 = .ok (.aload_n 0, 1) := by decide +kernel
theorem dX13_split_14 : decode cX13_split 14 = .ok (.getfield 20, 3) := by decide +kernel
theorem dX13_split_17 : decode cX13_split 17 = .ok (.iload_n 2, 1) := by decide +kernel
theorem dX13_split_18 : decode cX13_split 18 = .ok (.iload_n 1, 1) := by decide +kernel
theorem dX13_split_19 : decode cX13_split 19 = .ok (.iload_n 2, 1) := by decide +kernel
theorem dX13_split_20 : decode cX13_split 20 = .ok (.ishr, 1) := by decide +kernel
theorem dX13_split_21 : decode cX13_split 21 = .ok (.iconst 1, 1) := by decide +kernel
theorem dX13_split_22 : decode cX13_split 22 = .ok (.iand, 1) := by decide +kernel
theorem dX13_split_23 : decode cX13_split 23 = .ok (.iastore, 1) := by decide +kernel
theorem dX13_split_24 : decode cX13_split 24 = .ok (.iinc 2 1, 3) := by decide +kernel
theorem dX13_split_27 : decode cX13_split 27 = .ok (.goto (-20), 3) := by decide +kernel
theorem dX13_split_30 : decode cX13_split 30 = .ok (.return_, 1) := by decide +kernel
theorem dX13_join_0 : decode cX13_join 0 = .ok (.aload_n 0, 1) := by decide +kernel
theorem dX13_join_1 : decode cX13_join 1 = .ok (.iconst 0, 1) := by decide +kernel
theorem dX13_join_2 : decode cX13_join 2 = .ok (.putfield 184, 3) := by decide +kernel
theorem dX13_join_5 : decode cX13_join 5 = .ok (.iconst 0, 1) := by decide +kernel
theorem dX13_join_6 : decode cX13_join 6 = .ok (.istore_n 1, 1) := by decide +kernel
theorem dX13_join_7 : decode cX13_join 7 = .ok (.iload_n 1, 1) := by decide +kernel
theorem dX13_join_8 : decode cX13_join 8 = .ok (.bipush 8, 2) := by decide +kernel
theorem dX13_join_10 : decode cX13_join 10 = .ok (.if_icmp .ge 113, 3) := by decide +kernel
theorem dX13_join_13 : decode cX13_join 13 = .ok (.aload_n 0, 1) := by decide +kernel
theorem dX13_join_14 : decode cX13_join 14 = .ok (.getfield 20, 3) := by decide +kernel
theorem dX13_join_17 : decode cX13_join 17 = .ok (.iload_n 1, 1) := by decide +kernel
theorem dX13_join_18 : decode cX13_join 18 = .ok (.iconst 0, 1) := by decide +kernel
theorem dX13_join_19 : decode cX13_join 19 = .ok (.iastore, 1) := by decide +kernel
theorem dX13_join_20 : decode cX13_join 20 = .ok (.aload_n 0, 1) := by decide +kernel
theorem dX13_join_21 : decode cX13_join 21 = .ok (.getfield 13, 3) := by decide +kernel
theorem dX13_join_24 : decode cX13_join 24 = .ok (.iload_n 1, 1) := by decide +kernel
theorem dX13_join_25 : decode cX13_join 25 = .ok (.baload, 1) := by decide +kernel
theorem dX13_join_26 : decode cX13_join 26 = .ok (.ifCond .ne 6, 3) := by decide +kernel
theorem dX13_join_29 : decode cX13_join 29 = .ok (.goto 88, 3) := by decide +kernel
theorem dX13_join_32 : decode cX13_join 32 = .ok (.aload_n 0, 1) := by decide +kernel
theorem dX13_join_33 : decode cX13_join 33 = .ok (.getfield 41, 3) := by decide +kernel
theorem dX13_join_36 : decode cX13_join 36 = .ok (.iload_n 1, 1) := by decide +kernel
theorem dX13_join_37 : decode cX13_join 37 = .ok (.baload, 1) := by decide +kernel
theorem dX13_join_38 : decode cX13_join 38 = .ok (.ifCond .eq 36, 3) := by decide +kernel
theorem dX13_join_41 : decode cX13_join 41 = .ok (.aload_n 0, 1) := by decide +kernel
theorem dX13_join_42 : decode cX13_join 42 = .ok (.getfield 38, 3) := by decide +kernel
theorem dX13_join_45 : decode cX13_join 45 = .ok (.iload_n 1, 1) := by decide +kernel
theorem dX13_join_46 : decode cX13_join 46 = .ok (.iconst 4, 1) := by decide +kernel
theorem dX13_join_47 : decode cX13_join 47 = .ok (.iastore, 1) := by decide +kernel
theorem dX13_join_48 : decode cX13_join 48 = .ok (.aload_n 0, 1) := by decide +kernel
theorem dX13_join_49 : decode cX13_join 49 = .ok (.getfield 44, 3) := by decide +kernel
theorem dX13_join_52 : decode cX13_join 52 = .ok (.iload_n 1, 1) := by decide +kernel
theorem dX13_join_53 : decode cX13_join 53 = .ok (.aload_n 0, 1) := by decide +kernel
theorem dX13_join_54 : decode cX13_join 54 = .ok (.getfield 226, 3) := by decide +kernel
theorem dX13_join_57 : decode cX13_join 57 = .ok (.ldc2_w 262, 3) := by decide +kernel
theorem dX13_join_60 : decode cX13_join 60 = .ok (.aload_n 0, 1) := by decide +kernel
theorem dX13_join_61 : decode cX13_join 61 = .ok (.getfield 17, 3) := by decide +kernel
theorem dX13_join_64 : decode cX13_join 64 = .ok (.iload_n 1, 1) := by decide +kernel
theorem dX13_join_65 : decode cX13_join 65 = .ok (.iaload, 1) := by decide +kernel
theorem dX13_join_66 : decode cX13_join 66 = .ok (.i2l, 1) := by decide +kernel
theorem dX13_join_67 : decode cX13_join 67 = .ok (.lmul, 1) := by decide +kernel
theorem dX13_join_68 : decode cX13_join 68 = .ok (.ldc2_w 266, 3) := by decide +kernel
theorem dX13_join_71 : decode cX13_join 71 = .ok (.lrem, 1) := by decide +kernel
theorem dX13_join_72 : decode cX13_join 72 = .ok (.ladd, 1) := by decide +kernel
theorem dX13_join_73 : decode cX13_join 73 = .ok (.lastore, 1) := by decide +kernel
theorem dX13_join_74 : decode cX13_join 74 = .ok (.aload_n 0, 1) := by decide +kernel
theorem dX13_join_75 : decode cX13_join 75 = .ok (.getfield 51, 3) := by decide +kernel
theorem dX13_join_78 : decode cX13_join 78 = .ok (.iload_n 1, 1) := by decide +kernel
theorem dX13_join_79 : decode cX13_join 79 = .ok (.iaload, 1) := by decide +kernel
theorem dX13_join_80 : decode cX13_join 80 = .ok (.iconst 3, 1) := by decide +kernel
theorem dX13_join_81 : decode cX13_join 81 = .ok (.if_icmp .ne 36, 3) := by decide +kernel
theorem dX13_join_84 : decode cX13_join 84 = .ok (.aload_n 0, 1) := by decide +kernel
theorem dX13_join_85 : decode cX13_join 85 = .ok (.getfield 54, 3) := by decide +kernel
theorem dX13_join_88 : decode cX13_join 88 = .ok (.iload_n 1, 1) := by decide +kernel
theorem dX13_join_89 : decode cX13_join 89 = .ok (.iconst 4, 1) := by decide +kernel
theorem dX13_join_90 : decode cX13_join 90 = .ok (.iastore, 1) := by decide +kernel
theorem dX13_join_91 : decode cX13_join 91 = .ok (.aload_n 0, 1) := by decide +kernel
theorem dX13_join_92 : decode cX13_join 92 = .ok (.getfield 57, 3) := by decide +kernel
theorem dX13_join_95 : decode cX13_join 95 = .ok (.iload_n 1, 1) := by decide +kernel
theorem dX13_join_96 : decode cX13_join 96 = .ok (.aload_n 0, 1) := by decide +kernel
theorem dX13_join_97 : decode cX13_join 97 = .ok (.getfield 226, 3) := by decide +kernel
theorem dX13_join_100 : decode cX13_join 100 = .ok (.ldc2_w 273, 3) := by decide +kernel
theorem dX13_join_103 : decode cX13_join 103 = .ok (.aload_n 0, 1) := by decide +kernel
theorem dX13_join_104 : decode cX13_join 104 = .ok (.getfield 17, 3) := by decide +kernel
theorem dX13_join_107 : decode cX13_join 107 = .ok (.iload_n 1, 1) := by decide +kernel
theorem dX13_join_108 : decode cX13_join 108 = .ok (.iaload, 1) := by decide +kernel
theorem dX13_join_109 : decode cX13_join 109 = .ok (.i2l, 1) := by decide +kernel
theorem dX13_join_110 : decode cX13_join 110 = .ok (.lmul, 1) := by decide +kernel
theorem dX13_join_111 : decode cX13_join 111 = .ok (.ldc2_w 275, 3) := by decide +kernel
theorem dX13_join_114 : decode cX13_join 114 = .ok (.lrem, 1) := by decide +kernel
theorem dX13_join_115 : decode cX13_join 115 = .ok (.ladd, 1) := by decide +kernel
theorem dX13_join_116 : decode cX13_join 116 = .ok (.lastore, 1) := by decide +kernel
theorem dX13_join_117 : decode cX13_join 117 = .ok (.iinc 1 1, 3) := by decide +kernel
theorem dX13_join_120 : decode cX13_join 120 = .ok (.goto (-113), 3) := by decide +kernel
theorem dX13_join_123 : decode cX13_join 123 = .ok (.return_, 1) := by decide +kernel
theorem dX13_lose_0 : decode cX13_lose 0 = .ok (.aload_n 0, 1) := by decide +kernel
theorem dX13_lose_1 : decode cX13_lose 1 = .ok (.iconst 0, 1) := by decide +kernel
theorem dX13_lose_2 : decode cX13_lose 2 = .ok (.putfield 184, 3) := by decide +kernel
theorem dX13_lose_5 : decode cX13_lose 5 = .ok (.aload_n 0, 1) := by decide +kernel
theorem dX13_lose_6 : decode cX13_lose 6 = .ok (.iload_n 1, 1) := by decide +kernel
theorem dX13_lose_7 : decode cX13_lose 7 = .ok (.invokevirtual 386, 3) := by decide +kernel
theorem dX13_lose_10 : decode cX13_lose 10 = .ok (.ifCond .eq 23, 3) := by decide +kernel
theorem dX13_lose_13 : decode cX13_lose 13 = .ok (.aload_n 0, 1) := by decide +kernel
theorem dX13_lose_14 : decode cX13_lose 14 = .ok (.getfield 13, 3) := by decide +kernel
theorem dX13_lose_17 : decode cX13_lose 17 = .ok (.iload_n 1, 1) := by decide +kernel
theorem dX13_lose_18 : decode cX13_lose 18 = .ok (.baload, 1) := by decide +kernel
theorem dX13_lose_19 : decode cX13_lose 19 = .ok (.ifCond .eq 14, 3) := by decide +kernel
theorem dX13_lose_22 : decode cX13_lose 22 = .ok (.iload_n 2, 1) := by decide +kernel
theorem dX13_lose_23 : decode cX13_lose 23 = .ok (.ifCond .lt 10, 3) := by decide +kernel
theorem dX13_lose_26 : decode cX13_lose 26 = .ok (.iload_n 2, 1) := by decide +kernel
theorem dX13_lose_27 : decode cX13_lose 27 = .ok (.sipush 1000, 3) := by decide +kernel
theorem dX13_lose_30 : decode cX13_lose 30 = .ok (.if_icmp .le 5, 3) := by decide +kernel
theorem dX13_lose_33 : decode cX13_lose 33 = .ok (.iconst 0, 1) := by decide +kernel
theorem dX13_lose_34 : decode cX13_lose 34 = .ok (.ireturn, 1) := by decide +kernel
theorem dX13_lose_35 : decode cX13_lose 35 = .ok (.aload_n 0, 1) := by decide +kernel
theorem dX13_lose_36 : decode cX13_lose 36 = .ok (.getfield 29, 3) := by decide +kernel
theorem dX13_lose_39 : decode cX13_lose 39 = .ok (.iload_n 1, 1) := by decide +kernel
theorem dX13_lose_40 : decode cX13_lose 40 = .ok (.iload_n 2, 1) := by decide +kernel
theorem dX13_lose_41 : decode cX13_lose 41 = .ok (.iastore, 1) := by decide +kernel
theorem dX13_lose_42 : decode cX13_lose 42 = .ok (.iconst 1, 1) := by decide +kernel
theorem dX13_lose_43 : decode cX13_lose 43 = .ok (.ireturn, 1) := by decide +kernel
theorem dX13_give_0 : decode cX13_give 0 = .ok (.aload_n 0, 1) := by decide +kernel
theorem dX13_give_1 : decode cX13_give 1 = .ok (.iconst 0, 1) := by decide +kernel
theorem dX13_give_2 : decode cX13_give 2 = .ok (.putfield 184, 3) := by decide +kernel
theorem dX13_give_5 : decode cX13_give 5 = .ok (.aload_n 0, 1) := by decide +kernel
theorem dX13_give_6 : decode cX13_give 6 = .ok (.aload_n 0, 1) := by decide +kernel
theorem dX13_give_7 : decode cX13_give 7 = .ok (.getfield 188, 3) := by decide +kernel
theorem dX13_give_10 : decode cX13_give 10 = .ok (.putfield 318, 3) := by decide +kernel
theorem dX13_give_13 : decode cX13_give 13 = .ok (.aload_n 0, 1) := by decide +kernel
theorem dX13_give_14 : decode cX13_give 14 = .ok (.iconst 0, 1) := by decide +kernel
theorem dX13_give_15 : decode cX13_give 15 = .ok (.putfield 188, 3) := by decide +kernel
theorem dX13_give_18 : decode cX13_give 18 = .ok (.iconst 0, 1) := by decide +kernel
theorem dX13_give_19 : decode cX13_give 19 = .ok (.istore_n 2, 1) := by decide +kernel
theorem dX13_give_20 : decode cX13_give 20 = .ok (.iload_n 2, 1) := by decide +kernel
theorem dX13_give_21 : decode cX13_give 21 = .ok (.aload_n 0, 1) := by decide +kernel
theorem dX13_give_22 : decode cX13_give 22 = .ok (.getfield 318, 3) := by decide +kernel
theorem dX13_give_25 : decode cX13_give 25 = .ok (.if_icmp .ge 21, 3) := by decide +kernel
theorem dX13_give_28 : decode cX13_give 28 = .ok (.aload_n 0, 1) := by decide +kernel
theorem dX13_give_29 : decode cX13_give 29 = .ok (.getfield 160, 3) := by decide +kernel
theorem dX13_give_32 : decode cX13_give 32 = .ok (.iload_n 2, 1) := by decide +kernel
theorem dX13_give_33 : decode cX13_give 33 = .ok (.aload_n 0, 1) := by decide +kernel
theorem dX13_give_34 : decode cX13_give 34 = .ok (.getfield 7, 3) := by decide +kernel
theorem dX13_give_37 : decode cX13_give 37 = .ok (.iload_n 2, 1) := by decide +kernel
theorem dX13_give_38 : decode cX13_give 38 = .ok (.iaload, 1) := by decide +kernel
theorem dX13_give_39 : decode cX13_give 39 = .ok (.iastore, 1) := by decide +kernel
theorem dX13_give_40 : decode cX13_give 40 = .ok (.iinc 2 1, 3) := by decide +kernel
theorem dX13_give_43 : decode cX13_give 43 = .ok (.goto (-23), 3) := by decide +kernel
theorem dX13_give_46 : decode cX13_give 46 = .ok (.aload_n 0, 1) := by decide +kernel
theorem dX13_give_47 : decode cX13_give 47 = .ok (.iload_n 1, 1) := by decide +kernel
theorem dX13_give_48 : decode cX13_give 48 = .ok (.invokevirtual 386, 3) := by decide +kernel
theorem dX13_give_51 : decode cX13_give 51 = .ok (.ifCond .eq 12, 3) := by decide +kernel
theorem dX13_give_54 : decode cX13_give 54 = .ok (.aload_n 0, 1) := by decide +kernel
theorem dX13_give_55 : decode cX13_give 55 = .ok (.getfield 13, 3) := by decide +kernel
theorem dX13_give_58 : decode cX13_give 58 = .ok (.iload_n 1, 1) := by decide +kernel
theorem dX13_give_59 : decode cX13_give 59 = .ok (.baload, 1) := by decide +kernel
theorem dX13_give_60 : decode cX13_give 60 = .ok (.ifCond .ne 5, 3) := by decide +kernel
theorem dX13_give_63 : decode cX13_give 63 = .ok (.iconst (-1), 1) := by decide +kernel
theorem dX13_give_64 : decode cX13_give 64 = .ok (.ireturn, 1) := by decide +kernel
theorem dX13_give_65 : decode cX13_give 65 = .ok (.aload_n 0, 1) := by decide +kernel
theorem dX13_give_66 : decode cX13_give 66 = .ok (.iload_n 1, 1) := by decide +kernel
theorem dX13_give_67 : decode cX13_give 67 = .ok (.invokevirtual 321, 3) := by decide +kernel
theorem dX13_give_70 : decode cX13_give 70 = .ok (.ifCond .eq 7, 3) := by decide +kernel
theorem dX13_give_73 : decode cX13_give 73 = .ok (.iconst 0, 1) := by decide +kernel
theorem dX13_give_74 : decode cX13_give 74 = .ok (.goto 4, 3) := by decide +kernel
theorem dX13_give_77 : decode cX13_give 77 = .ok (.iconst 1, 1) := by decide +kernel
theorem dX13_give_78 : decode cX13_give 78 = .ok (.ireturn, 1) := by decide +kernel
theorem dX13_look_0 : decode cX13_look 0 = .ok (.aload_n 0, 1) := by decide +kernel
theorem dX13_look_1 : decode cX13_look 1 = .ok (.iconst 0, 1) := by decide +kernel
theorem dX13_look_2 : decode cX13_look 2 = .ok (.putfield 184, 3) := by decide +kernel
theorem dX13_look_5 : decode cX13_look 5 = .ok (.aload_n 0, 1) := by decide +kernel
theorem dX13_look_6 : decode cX13_look 6 = .ok (.iload_n 1, 1) := by decide +kernel
theorem dX13_look_7 : decode cX13_look 7 = .ok (.invokevirtual 386, 3) := by decide +kernel
theorem dX13_look_10 : decode cX13_look 10 = .ok (.ifCond .ne 9, 3) := by decide +kernel
theorem dX13_look_13 : decode cX13_look 13 = .ok (.aload_n 0, 1) := by decide +kernel
theorem dX13_look_14 : decode cX13_look 14 = .ok (.iconst 1, 1) := by decide +kernel
theorem dX13_look_15 : decode cX13_look 15 = .ok (.invokevirtual 402, 3) := by decide +kernel
theorem dX13_look_18 : decode cX13_look 18 = .ok (.ireturn, 1) := by decide +kernel
theorem dX13_look_19 : decode cX13_look 19 = .ok (.iload_n 2, 1) := by decide +kernel
theorem dX13_look_20 : decode cX13_look 20 = .ok (.ifCond .lt 9, 3) := by decide +kernel
theorem dX13_look_23 : decode cX13_look 23 = .ok (.iload_n 2, 1) := by decide +kernel
theorem dX13_look_24 : decode cX13_look 24 = .ok (.bipush 11, 2) := by decide +kernel
theorem dX13_look_26 : decode cX13_look 26 = .ok (.if_icmp .le 9, 3) := by decide +kernel
theorem dX13_look_29 : decode cX13_look 29 = .ok (.aload_n 0, 1) := by decide +kernel
theorem dX13_look_30 : decode cX13_look 30 = .ok (.iconst 2, 1) := by decide +kernel
theorem dX13_look_31 : decode cX13_look 31 = .ok (.invokevirtual 402, 3) := by decide +kernel
theorem dX13_look_34 : decode cX13_look 34 = .ok (.ireturn, 1) := by decide +kernel
theorem dX13_look_35 : decode cX13_look 35 = .ok (.iload_n 2, 1) := by decide +kernel
theorem dX13_look_36 : decode cX13_look 36 = .ok (.bipush 9, 2) := by decide +kernel
theorem dX13_look_38 : decode cX13_look 38 = .ok (.if_icmp .ne 10, 3) := by decide +kernel
theorem dX13_look_41 : decode cX13_look 41 = .ok (.aload_n 0, 1) := by decide +kernel
theorem dX13_look_42 : decode cX13_look 42 = .ok (.getfield 20, 3) := by decide +kernel
theorem dX13_look_45 : decode cX13_look 45 = .ok (.iload_n 1, 1) := by decide +kernel
theorem dX13_look_46 : decode cX13_look 46 = .ok (.iaload, 1) := by decide +kernel
theorem dX13_look_47 : decode cX13_look 47 = .ok (.ireturn, 1) := by decide +kernel
theorem dX13_look_48 : decode cX13_look 48 = .ok (.aload_n 0, 1) := by decide +kernel
theorem dX13_look_49 : decode cX13_look 49 = .ok (.getfield 13, 3) := by decide +kernel
theorem dX13_look_52 : decode cX13_look 52 = .ok (.iload_n 1, 1) := by decide +kernel
theorem dX13_look_53 : decode cX13_look 53 = .ok (.baload, 1) := by decide +kernel
theorem dX13_look_54 : decode cX13_look 54 = .ok (.ifCond .ne 14, 3) := by decide +kernel
theorem dX13_look_57 : decode cX13_look 57 = .ok (.iload_n 2, 1) := by decide +kernel
theorem dX13_look_58 : decode cX13_look 58 = .ok (.iconst 2, 1) := by decide +kernel
theorem dX13_look_59 : decode cX13_look 59 = .ok (.if_icmp .ne 7, 3) := by decide +kernel
theorem dX13_look_62 : decode cX13_look 62 = .ok (.iconst (-1), 1) := by decide +kernel
theorem dX13_look_63 : decode cX13_look 63 = .ok (.goto 4, 3) := by decide +kernel
theorem dX13_look_66 : decode cX13_look 66 = .ok (.iconst 0, 1) := by decide +kernel
theorem dX13_look_67 : decode cX13_look 67 = .ok (.ireturn, 1) := by decide +kernel
theorem dX13_look_68 : decode cX13_look 68 = .ok (.iload_n 2, 1) := by decide +kernel
theorem dX13_look_69 : decode cX13_look 69 = .ok (.tableswitch 172 0 10 #[59, 61, 68, 87, 94, 101, 108, 115, 158, 172, 165], 59) := by decide +kernel
theorem dX13_look_128 : decode cX13_look 128 = .ok (.iconst 1, 1) := by decide +kernel
theorem dX13_look_129 : decode cX13_look 129 = .ok (.ireturn, 1) := by decide +kernel
theorem dX13_look_130 : decode cX13_look 130 = .ok (.aload_n 0, 1) := by decide +kernel
theorem dX13_look_131 : decode cX13_look 131 = .ok (.getfield 17, 3) := by decide +kernel
theorem dX13_look_134 : decode cX13_look 134 = .ok (.iload_n 1, 1) := by decide +kernel
theorem dX13_look_135 : decode cX13_look 135 = .ok (.iaload, 1) := by decide +kernel
theorem dX13_look_136 : decode cX13_look 136 = .ok (.ireturn, 1) := by decide +kernel
theorem dX13_look_137 : decode cX13_look 137 = .ok (.aload_n 0, 1) := by decide +kernel
theorem dX13_look_138 : decode cX13_look 138 = .ok (.getfield 41, 3) := by decide +kernel
theorem dX13_look_141 : decode cX13_look 141 = .ok (.iload_n 1, 1) := by decide +kernel
theorem dX13_look_142 : decode cX13_look 142 = .ok (.baload, 1) := by decide +kernel
theorem dX13_look_143 : decode cX13_look 143 = .ok (.ifCond .eq 11, 3) := by decide +kernel
theorem dX13_look_146 : decode cX13_look 146 = .ok (.aload_n 0, 1) := by decide +kernel
theorem dX13_look_147 : decode cX13_look 147 = .ok (.iload_n 1, 1) := by decide +kernel
theorem dX13_look_148 : decode cX13_look 148 = .ok (.invokevirtual 240, 3) := by decide +kernel
theorem dX13_look_151 : decode cX13_look 151 = .ok (.goto 4, 3) := by decide +kernel
theorem dX13_look_154 : decode cX13_look 154 = .ok (.iconst (-1), 1) := by decide +kernel
theorem dX13_look_155 : decode cX13_look 155 = .ok (.ireturn, 1) := by decide +kernel
theorem dX13_look_156 : decode cX13_look 156 = .ok (.aload_n 0, 1) := by decide +kernel
theorem dX13_look_157 : decode cX13_look 157 = .ok (.getfield 23, 3) := by decide +kernel
theorem dX13_look_160 : decode cX13_look 160 = .ok (.iload_n 1, 1) := by decide +kernel
theorem dX13_look_161 : decode cX13_look 161 = .ok (.iaload, 1) := by decide +kernel
theorem dX13_look_162 : decode cX13_look 162 = .ok (.ireturn, 1) := by decide +kernel
theorem dX13_look_163 : decode cX13_look 163 = .ok (.aload_n 0, 1) := by decide +kernel
theorem dX13_look_164 : decode cX13_look 164 = .ok (.getfield 51, 3) := by decide +kernel
theorem dX13_look_167 : decode cX13_look 167 = .ok (.iload_n 1, 1) := by decide +kernel
theorem dX13_look_168 : decode cX13_look 168 = .ok (.iaload, 1) := by decide +kernel
theorem dX13_look_169 : decode cX13_look 169 = .ok (.ireturn, 1) := by decide +kernel
theorem dX13_look_170 : decode cX13_look 170 = .ok (.aload_n 0, 1) := by decide +kernel
theorem dX13_look_171 : decode cX13_look 171 = .ok (.getfield 26, 3) := by decide +kernel
theorem dX13_look_174 : decode cX13_look 174 = .ok (.iload_n 1, 1) := by decide +kernel
theorem dX13_look_175 : decode cX13_look 175 = .ok (.iaload, 1) := by decide +kernel
theorem dX13_look_176 : decode cX13_look 176 = .ok (.ireturn, 1) := by decide +kernel
theorem dX13_look_177 : decode cX13_look 177 = .ok (.aload_n 0, 1) := by decide +kernel
theorem dX13_look_178 : decode cX13_look 178 = .ok (.getfield 75, 3) := by decide +kernel
theorem dX13_look_181 : decode cX13_look 181 = .ok (.iload_n 1, 1) := by decide +kernel
theorem dX13_look_182 : decode cX13_look 182 = .ok (.iaload, 1) := by decide +kernel
theorem dX13_look_183 : decode cX13_look 183 = .ok (.ireturn, 1) := by decide +kernel
theorem dX13_look_184 : decode cX13_look 184 = .ok (.iconst 0, 1) := by decide +kernel
theorem dX13_look_185 : decode cX13_look 185 = .ok (.istore_n 3, 1) := by decide +kernel
theorem dX13_look_186 : decode cX13_look 186 = .ok (.iconst 4, 1) := by decide +kernel
theorem dX13_look_187 : decode cX13_look 187 = .ok (.iload_n 1, 1) := by decide +kernel
theorem dX13_look_188 : decode cX13_look 188 = .ok (.imul, 1) := by decide +kernel
theorem dX13_look_189 : decode cX13_look 189 = .ok (.istore 4, 2) := by decide +kernel
theorem dX13_look_191 : decode cX13_look 191 = .ok (.iload 4, 2) := by decide +kernel
theorem dX13_look_193 : decode cX13_look 193 = .ok (.iconst 4, 1) := by decide +kernel
theorem dX13_look_194 : decode cX13_look 194 = .ok (.iload_n 1, 1) := by decide +kernel
theorem dX13_look_195 : decode cX13_look 195 = .ok (.imul, 1) := by decide +kernel
theorem dX13_look_196 : decode cX13_look 196 = .ok (.iconst 4, 1) := by decide +kernel
theorem dX13_look_197 : decode cX13_look 197 = .ok (.iadd, 1) := by decide +kernel
theorem dX13_look_198 : decode cX13_look 198 = .ok (.if_icmp .ge 27, 3) := by decide +kernel
theorem dX13_look_201 : decode cX13_look 201 = .ok (.iload_n 3, 1) := by decide +kernel
theorem dX13_look_202 : decode cX13_look 202 = .ok (.aload_n 0, 1) := by decide +kernel
theorem dX13_look_203 : decode cX13_look 203 = .ok (.getfield 81, 3) := by decide +kernel
theorem dX13_look_206 : decode cX13_look 206 = .ok (.iload 4, 2) := by decide +kernel
theorem dX13_look_208 : decode cX13_look 208 = .ok (.iaload, 1) := by decide +kernel
theorem dX13_look_209 : decode cX13_look 209 = .ok (.ifCond .le 7, 3) := by decide +kernel
theorem dX13_look_212 : decode cX13_look 212 = .ok (.iconst 1, 1) := by decide +kernel
theorem dX13_look_213 : decode cX13_look 213 = .ok (.goto 4, 3) := by decide +kernel
theorem dX13_look_216 : decode cX13_look 216 = .ok (.iconst 0, 1) := by decide +kernel
theorem dX13_look_217 : decode cX13_look 217 = .ok (.iadd, 1) := by decide +kernel
theorem dX13_look_218 : decode cX13_look 218 = .ok (.istore_n 3, 1) := by decide +kernel
theorem dX13_look_219 : decode cX13_look 219 = .ok (.iinc 4 1, 3) := by decide +kernel
theorem dX13_look_222 : decode cX13_look 222 = .ok (.goto (-31), 3) := by decide +kernel
theorem dX13_look_225 : decode cX13_look 225 = .ok (.iload_n 3, 1) := by decide +kernel
theorem dX13_look_226 : decode cX13_look 226 = .ok (.ireturn, 1) := by decide +kernel
theorem dX13_look_227 : decode cX13_look 227 = .ok (.aload_n 0, 1) := by decide +kernel
theorem dX13_look_228 : decode cX13_look 228 = .ok (.getfield 99, 3) := by decide +kernel
theorem dX13_look_231 : decode cX13_look 231 = .ok (.iload_n 1, 1) := by decide +kernel
theorem dX13_look_232 : decode cX13_look 232 = .ok (.iaload, 1) := by decide +kernel
theorem dX13_look_233 : decode cX13_look 233 = .ok (.ireturn, 1) := by decide +kernel
theorem dX13_look_234 : decode cX13_look 234 = .ok (.aload_n 0, 1) := by decide +kernel
theorem dX13_look_235 : decode cX13_look 235 = .ok (.getfield 32, 3) := by decide +kernel
theorem dX13_look_238 : decode cX13_look 238 = .ok (.iload_n 1, 1) := by decide +kernel
theorem dX13_look_239 : decode cX13_look 239 = .ok (.iaload, 1) := by decide +kernel
theorem dX13_look_240 : decode cX13_look 240 = .ok (.ireturn, 1) := by decide +kernel
theorem dX13_look_241 : decode cX13_look 241 = .ok (.aload_n 0, 1) := by decide +kernel
theorem dX13_look_242 : decode cX13_look 242 = .ok (.getfield 35, 3) := by decide +kernel
theorem dX13_look_245 : decode cX13_look 245 = .ok (.iload_n 1, 1) := by decide +kernel
theorem dX13_look_246 : decode cX13_look 246 = .ok (.iaload, 1) := by decide +kernel
theorem dX13_look_247 : decode cX13_look 247 = .ok (.ireturn, 1) := by decide +kernel
theorem dX13_fails_0 : decode cX13_fails 0 = .ok (.aload_n 0, 1) := by decide +kernel
theorem dX13_fails_1 : decode cX13_fails 1 = .ok (.iload_n 1, 1) := by decide +kernel
theorem dX13_fails_2 : decode cX13_fails 2 = .ok (.putfield 184, 3) := by decide +kernel
theorem dX13_fails_5 : decode cX13_fails 5 = .ok (.iconst 0, 1) := by decide +kernel
theorem dX13_fails_6 : decode cX13_fails 6 = .ok (.ireturn, 1) := by decide +kernel
theorem dX13_sign_0 : decode cX13_sign 0 = .ok (.aload_n 0, 1) := by decide +kernel
theorem dX13_sign_1 : decode cX13_sign 1 = .ok (.iconst 0, 1) := by decide +kernel
theorem dX13_sign_2 : decode cX13_sign 2 = .ok (.putfield 184, 3) := by decide +kernel
theorem dX13_sign_5 : decode cX13_sign 5 = .ok (.aload_n 0, 1) := by decide +kernel
theorem dX13_sign_6 : decode cX13_sign 6 = .ok (.iload_n 1, 1) := by decide +kernel
theorem dX13_sign_7 : decode cX13_sign 7 = .ok (.invokevirtual 386, 3) := by decide +kernel
theorem dX13_sign_10 : decode cX13_sign 10 = .ok (.ifCond .eq 55, 3) := by decide +kernel
theorem dX13_sign_13 : decode cX13_sign 13 = .ok (.aload_n 0, 1) := by decide +kernel
theorem dX13_sign_14 : decode cX13_sign 14 = .ok (.getfield 13, 3) := by decide +kernel
theorem dX13_sign_17 : decode cX13_sign 17 = .ok (.iload_n 1, 1) := by decide +kernel
theorem dX13_sign_18 : decode cX13_sign 18 = .ok (.baload, 1) := by decide +kernel
theorem dX13_sign_19 : decode cX13_sign 19 = .ok (.ifCond .eq 46, 3) := by decide +kernel
theorem dX13_sign_22 : decode cX13_sign 22 = .ok (.aload_n 0, 1) := by decide +kernel
theorem dX13_sign_23 : decode cX13_sign 23 = .ok (.getfield 51, 3) := by decide +kernel
theorem dX13_sign_26 : decode cX13_sign 26 = .ok (.iload_n 1, 1) := by decide +kernel
theorem dX13_sign_27 : decode cX13_sign 27 = .ok (.iaload, 1) := by decide +kernel
theorem dX13_sign_28 : decode cX13_sign 28 = .ok (.iconst 1, 1) := by decide +kernel
theorem dX13_sign_29 : decode cX13_sign 29 = .ok (.if_icmp .le 36, 3) := by decide +kernel
theorem dX13_sign_32 : decode cX13_sign 32 = .ok (.iload_n 2, 1) := by decide +kernel
theorem dX13_sign_33 : decode cX13_sign 33 = .ok (.ifCond .lt 32, 3) := by decide +kernel
theorem dX13_sign_36 : decode cX13_sign 36 = .ok (.iload_n 2, 1) := by decide +kernel
theorem dX13_sign_37 : decode cX13_sign 37 = .ok (.aload_n 0, 1) := by decide +kernel
theorem dX13_sign_38 : decode cX13_sign 38 = .ok (.getfield 66, 3) := by decide +kernel
theorem dX13_sign_41 : decode cX13_sign 41 = .ok (.bipush 16, 2) := by decide +kernel
theorem dX13_sign_43 : decode cX13_sign 43 = .ok (.iload_n 1, 1) := by decide +kernel
theorem dX13_sign_44 : decode cX13_sign 44 = .ok (.imul, 1) := by decide +kernel
theorem dX13_sign_45 : decode cX13_sign 45 = .ok (.iaload, 1) := by decide +kernel
theorem dX13_sign_46 : decode cX13_sign 46 = .ok (.if_icmp .ge 19, 3) := by decide +kernel
theorem dX13_sign_49 : decode cX13_sign 49 = .ok (.aload_n 0, 1) := by decide +kernel
theorem dX13_sign_50 : decode cX13_sign 50 = .ok (.getfield 66, 3) := by decide +kernel
theorem dX13_sign_53 : decode cX13_sign 53 = .ok (.bipush 16, 2) := by decide +kernel
theorem dX13_sign_55 : decode cX13_sign 55 = .ok (.iload_n 1, 1) := by decide +kernel
theorem dX13_sign_56 : decode cX13_sign 56 = .ok (.imul, 1) := by decide +kernel
theorem dX13_sign_57 : decode cX13_sign 57 = .ok (.iconst 1, 1) := by decide +kernel
theorem dX13_sign_58 : decode cX13_sign 58 = .ok (.iadd, 1) := by decide +kernel
theorem dX13_sign_59 : decode cX13_sign 59 = .ok (.iload_n 2, 1) := by decide +kernel
theorem dX13_sign_60 : decode cX13_sign 60 = .ok (.iadd, 1) := by decide +kernel
theorem dX13_sign_61 : decode cX13_sign 61 = .ok (.iaload, 1) := by decide +kernel
theorem dX13_sign_62 : decode cX13_sign 62 = .ok (.goto 4, 3) := by decide +kernel
theorem dX13_sign_65 : decode cX13_sign 65 = .ok (.iconst (-1), 1) := by decide +kernel
theorem dX13_sign_66 : decode cX13_sign 66 = .ok (.ireturn, 1) := by decide +kernel
theorem dX13_answers_0 : decode cX13_answers 0 = .ok (.aload_n 0, 1) := by decide +kernel
theorem dX13_answers_1 : decode cX13_answers 1 = .ok (.iconst 0, 1) := by decide +kernel
theorem dX13_answers_2 : decode cX13_answers 2 = .ok (.putfield 184, 3) := by decide +kernel
theorem dX13_answers_5 : decode cX13_answers 5 = .ok (.aload_n 0, 1) := by decide +kernel
theorem dX13_answers_6 : decode cX13_answers 6 = .ok (.iload_n 1, 1) := by decide +kernel
theorem dX13_answers_7 : decode cX13_answers 7 = .ok (.iload_n 2, 1) := by decide +kernel
theorem dX13_answers_8 : decode cX13_answers 8 = .ok (.invokevirtual 398, 3) := by decide +kernel
theorem dX13_answers_11 : decode cX13_answers 11 = .ok (.ifCond .ne 5, 3) := by decide +kernel
theorem dX13_answers_14 : decode cX13_answers 14 = .ok (.iconst (-1), 1) := by decide +kernel
theorem dX13_answers_15 : decode cX13_answers 15 = .ok (.ireturn, 1) := by decide +kernel
theorem dX13_answers_16 : decode cX13_answers 16 = .ok (.iconst 0, 1) := by decide +kernel
theorem dX13_answers_17 : decode cX13_answers 17 = .ok (.istore_n 3, 1) := by decide +kernel
theorem dX13_answers_18 : decode cX13_answers 18 = .ok (.aload_n 0, 1) := by decide +kernel
theorem dX13_answers_19 : decode cX13_answers 19 = .ok (.iload_n 1, 1) := by decide +kernel
theorem dX13_answers_20 : decode cX13_answers 20 = .ok (.iload_n 2, 1) := by decide +kernel
theorem dX13_answers_21 : decode cX13_answers 21 = .ok (.iload_n 3, 1) := by decide +kernel
theorem dX13_answers_22 : decode cX13_answers 22 = .ok (.invokevirtual 405, 3) := by decide +kernel
theorem dX13_answers_25 : decode cX13_answers 25 = .ok (.ifCond .lt 9, 3) := by decide +kernel
theorem dX13_answers_28 : decode cX13_answers 28 = .ok (.iinc 3 1, 3) := by decide +kernel
theorem dX13_answers_31 : decode cX13_answers 31 = .ok (.goto (-13), 3) := by decide +kernel
theorem dX13_answers_34 : decode cX13_answers 34 = .ok (.iload_n 3, 1) := by decide +kernel
theorem dX13_answers_35 : decode cX13_answers 35 = .ok (.ireturn, 1) := by decide +kernel
theorem dX13_found_0 : decode cX13_found 0 = .ok (.aload_n 0, 1) := by decide +kernel
theorem dX13_found_1 : decode cX13_found 1 = .ok (.iconst 0, 1) := by decide +kernel
theorem dX13_found_2 : decode cX13_found 2 = .ok (.putfield 184, 3) := by decide +kernel
theorem dX13_found_5 : decode cX13_found 5 = .ok (.aload_n 0, 1) := by decide +kernel
theorem dX13_found_6 : decode cX13_found 6 = .ok (.iload_n 1, 1) := by decide +kernel
theorem dX13_found_7 : decode cX13_found 7 = .ok (.iload_n 2, 1) := by decide +kernel
theorem dX13_found_8 : decode cX13_found 8 = .ok (.invokevirtual 398, 3) := by decide +kernel
theorem dX13_found_11 : decode cX13_found 11 = .ok (.ifCond .eq 7, 3) := by decide +kernel
theorem dX13_found_14 : decode cX13_found 14 = .ok (.iload_n 3, 1) := by decide +kernel
theorem dX13_found_15 : decode cX13_found 15 = .ok (.ifCond .ge 5, 3) := by decide +kernel
theorem dX13_found_18 : decode cX13_found 18 = .ok (.iconst (-1), 1) := by decide +kernel
theorem dX13_found_19 : decode cX13_found 19 = .ok (.ireturn, 1) := by decide +kernel
theorem dX13_found_20 : decode cX13_found 20 = .ok (.aload_n 0, 1) := by decide +kernel
theorem dX13_found_21 : decode cX13_found 21 = .ok (.iload_n 1, 1) := by decide +kernel
theorem dX13_found_22 : decode cX13_found 22 = .ok (.iload_n 2, 1) := by decide +kernel
theorem dX13_found_23 : decode cX13_found 23 = .ok (.iload_n 3, 1) := by decide +kernel
theorem dX13_found_24 : decode cX13_found 24 = .ok (.invokevirtual 405, 3) := by decide +kernel
theorem dX13_found_27 : decode cX13_found 27 = .ok (.istore 5, 2) := by decide +kernel
theorem dX13_found_29 : decode cX13_found 29 = .ok (.iload 5, 2) := by decide +kernel
theorem dX13_found_31 : decode cX13_found 31 = .ok (.ifCond .ge 5, 3) := by decide +kernel
theorem dX13_found_34 : decode cX13_found 34 = .ok (.iconst (-1), 1) := by decide +kernel
theorem dX13_found_35 : decode cX13_found 35 = .ok (.ireturn, 1) := by decide +kernel
theorem dX13_found_36 : decode cX13_found 36 = .ok (.iload 4, 2) := by decide +kernel
theorem dX13_found_38 : decode cX13_found 38 = .ok (.tableswitch 59 0 2 #[26, 34, 48], 26) := by decide +kernel
theorem dX13_found_64 : decode cX13_found 64 = .ok (.aload_n 0, 1) := by decide +kernel
theorem dX13_found_65 : decode cX13_found 65 = .ok (.getfield 105, 3) := by decide +kernel
theorem dX13_found_68 : decode cX13_found 68 = .ok (.iload 5, 2) := by decide +kernel
theorem dX13_found_70 : decode cX13_found 70 = .ok (.iaload, 1) := by decide +kernel
theorem dX13_found_71 : decode cX13_found 71 = .ok (.ireturn, 1) := by decide +kernel
theorem dX13_found_72 : decode cX13_found 72 = .ok (.aload_n 0, 1) := by decide +kernel
theorem dX13_found_73 : decode cX13_found 73 = .ok (.getfield 114, 3) := by decide +kernel
theorem dX13_found_76 : decode cX13_found 76 = .ok (.iload 5, 2) := by decide +kernel
theorem dX13_found_78 : decode cX13_found 78 = .ok (.laload, 1) := by decide +kernel
theorem dX13_found_79 : decode cX13_found 79 = .ok (.aload_n 0, 1) := by decide +kernel
theorem dX13_found_80 : decode cX13_found 80 = .ok (.getfield 226, 3) := by decide +kernel
theorem dX13_found_83 : decode cX13_found 83 = .ok (.lsub, 1) := by decide +kernel
theorem dX13_found_84 : decode cX13_found 84 = .ok (.l2i, 1) := by decide +kernel
theorem dX13_found_85 : decode cX13_found 85 = .ok (.ireturn, 1) := by decide +kernel
theorem dX13_found_86 : decode cX13_found 86 = .ok (.aload_n 0, 1) := by decide +kernel
theorem dX13_found_87 : decode cX13_found 87 = .ok (.getfield 126, 3) := by decide +kernel
theorem dX13_found_90 : decode cX13_found 90 = .ok (.bipush 16, 2) := by decide +kernel
theorem dX13_found_92 : decode cX13_found 92 = .ok (.iload 5, 2) := by decide +kernel
theorem dX13_found_94 : decode cX13_found 94 = .ok (.imul, 1) := by decide +kernel
theorem dX13_found_95 : decode cX13_found 95 = .ok (.iaload, 1) := by decide +kernel
theorem dX13_found_96 : decode cX13_found 96 = .ok (.ireturn, 1) := by decide +kernel
theorem dX13_found_97 : decode cX13_found 97 = .ok (.iconst (-1), 1) := by decide +kernel
theorem dX13_found_98 : decode cX13_found 98 = .ok (.ireturn, 1) := by decide +kernel
theorem dX13_entry_0 : decode cX13_entry 0 = .ok (.aload_n 0, 1) := by decide +kernel
theorem dX13_entry_1 : decode cX13_entry 1 = .ok (.iconst 0, 1) := by decide +kernel
theorem dX13_entry_2 : decode cX13_entry 2 = .ok (.putfield 184, 3) := by decide +kernel
theorem dX13_entry_5 : decode cX13_entry 5 = .ok (.aload_n 0, 1) := by decide +kernel
theorem dX13_entry_6 : decode cX13_entry 6 = .ok (.iload_n 1, 1) := by decide +kernel
theorem dX13_entry_7 : decode cX13_entry 7 = .ok (.invokevirtual 386, 3) := by decide +kernel
theorem dX13_entry_10 : decode cX13_entry 10 = .ok (.ifCond .eq 26, 3) := by decide +kernel
theorem dX13_entry_13 : decode cX13_entry 13 = .ok (.aload_n 0, 1) := by decide +kernel
theorem dX13_entry_14 : decode cX13_entry 14 = .ok (.getfield 13, 3) := by decide +kernel
theorem dX13_entry_17 : decode cX13_entry 17 = .ok (.iload_n 1, 1) := by decide +kernel
theorem dX13_entry_18 : decode cX13_entry 18 = .ok (.baload, 1) := by decide +kernel
theorem dX13_entry_19 : decode cX13_entry 19 = .ok (.ifCond .eq 17, 3) := by decide +kernel
theorem dX13_entry_22 : decode cX13_entry 22 = .ok (.iload_n 2, 1) := by decide +kernel
theorem dX13_entry_23 : decode cX13_entry 23 = .ok (.ifCond .lt 13, 3) := by decide +kernel
theorem dX13_entry_26 : decode cX13_entry 26 = .ok (.iload_n 2, 1) := by decide +kernel
theorem dX13_entry_27 : decode cX13_entry 27 = .ok (.aload_n 0, 1) := by decide +kernel
theorem dX13_entry_28 : decode cX13_entry 28 = .ok (.getfield 99, 3) := by decide +kernel
theorem dX13_entry_31 : decode cX13_entry 31 = .ok (.iload_n 1, 1) := by decide +kernel
theorem dX13_entry_32 : decode cX13_entry 32 = .ok (.iaload, 1) := by decide +kernel
theorem dX13_entry_33 : decode cX13_entry 33 = .ok (.if_icmp .lt 5, 3) := by decide +kernel
theorem dX13_entry_36 : decode cX13_entry 36 = .ok (.iconst (-1), 1) := by decide +kernel
theorem dX13_entry_37 : decode cX13_entry 37 = .ok (.ireturn, 1) := by decide +kernel
theorem dX13_entry_38 : decode cX13_entry 38 = .ok (.bipush 24, 2) := by decide +kernel
theorem dX13_entry_40 : decode cX13_entry 40 = .ok (.iload_n 1, 1) := by decide +kernel
theorem dX13_entry_41 : decode cX13_entry 41 = .ok (.imul, 1) := by decide +kernel
theorem dX13_entry_42 : decode cX13_entry 42 = .ok (.iload_n 2, 1) := by decide +kernel
theorem dX13_entry_43 : decode cX13_entry 43 = .ok (.iadd, 1) := by decide +kernel
theorem dX13_entry_44 : decode cX13_entry 44 = .ok (.istore 4, 2) := by decide +kernel
theorem dX13_entry_46 : decode cX13_entry 46 = .ok (.iload_n 3, 1) := by decide +kernel
theorem dX13_entry_47 : decode cX13_entry 47 = .ok (.tableswitch 115 0 6 #[41, 49, 57, 65, 74, 85, 101], 41) := by decide +kernel
theorem dX13_entry_88 : decode cX13_entry 88 = .ok (.aload_n 0, 1) := by decide +kernel
theorem dX13_entry_89 : decode cX13_entry 89 = .ok (.getfield 102, 3) := by decide +kernel
theorem dX13_entry_92 : decode cX13_entry 92 = .ok (.iload 4, 2) := by decide +kernel
theorem dX13_entry_94 : decode cX13_entry 94 = .ok (.iaload, 1) := by decide +kernel
theorem dX13_entry_95 : decode cX13_entry 95 = .ok (.ireturn, 1) := by decide +kernel
theorem dX13_entry_96 : decode cX13_entry 96 = .ok (.aload_n 0, 1) := by decide +kernel
theorem dX13_entry_97 : decode cX13_entry 97 = .ok (.getfield 105, 3) := by decide +kernel
theorem dX13_entry_100 : decode cX13_entry 100 = .ok (.iload 4, 2) := by decide +kernel
theorem dX13_entry_102 : decode cX13_entry 102 = .ok (.iaload, 1) := by decide +kernel
theorem dX13_entry_103 : decode cX13_entry 103 = .ok (.ireturn, 1) := by decide +kernel
theorem dX13_entry_104 : decode cX13_entry 104 = .ok (.aload_n 0, 1) := by decide +kernel
theorem dX13_entry_105 : decode cX13_entry 105 = .ok (.getfield 108, 3) := by decide +kernel
theorem dX13_entry_108 : decode cX13_entry 108 = .ok (.iload 4, 2) := by decide +kernel
theorem dX13_entry_110 : decode cX13_entry 110 = .ok (.iaload, 1) := by decide +kernel
theorem dX13_entry_111 : decode cX13_entry 111 = .ok (.ireturn, 1) := by decide +kernel
theorem dX13_entry_112 : decode cX13_entry 112 = .ok (.aload_n 0, 1) := by decide +kernel
theorem dX13_entry_113 : decode cX13_entry 113 = .ok (.getfield 111, 3) := by decide +kernel
theorem dX13_entry_116 : decode cX13_entry 116 = .ok (.iload 4, 2) := by decide +kernel
theorem dX13_entry_118 : decode cX13_entry 118 = .ok (.laload, 1) := by decide +kernel
theorem dX13_entry_119 : decode cX13_entry 119 = .ok (.l2i, 1) := by decide +kernel
theorem dX13_entry_120 : decode cX13_entry 120 = .ok (.ireturn, 1) := by decide +kernel
theorem dX13_entry_121 : decode cX13_entry 121 = .ok (.aload_n 0, 1) := by decide +kernel
theorem dX13_entry_122 : decode cX13_entry 122 = .ok (.getfield 123, 3) := by decide +kernel
theorem dX13_entry_125 : decode cX13_entry 125 = .ok (.bipush 16, 2) := by decide +kernel
theorem dX13_entry_127 : decode cX13_entry 127 = .ok (.iload 4, 2) := by decide +kernel
theorem dX13_entry_129 : decode cX13_entry 129 = .ok (.imul, 1) := by decide +kernel
theorem dX13_entry_130 : decode cX13_entry 130 = .ok (.iaload, 1) := by decide +kernel
theorem dX13_entry_131 : decode cX13_entry 131 = .ok (.ireturn, 1) := by decide +kernel
theorem dX13_entry_132 : decode cX13_entry 132 = .ok (.aload_n 0, 1) := by decide +kernel
theorem dX13_entry_133 : decode cX13_entry 133 = .ok (.getfield 117, 3) := by decide +kernel
theorem dX13_entry_136 : decode cX13_entry 136 = .ok (.iload 4, 2) := by decide +kernel
theorem dX13_entry_138 : decode cX13_entry 138 = .ok (.baload, 1) := by decide +kernel
theorem dX13_entry_139 : decode cX13_entry 139 = .ok (.ifCond .eq 7, 3) := by decide +kernel
theorem dX13_entry_142 : decode cX13_entry 142 = .ok (.iconst 1, 1) := by decide +kernel
theorem dX13_entry_143 : decode cX13_entry 143 = .ok (.goto 4, 3) := by decide +kernel
theorem dX13_entry_146 : decode cX13_entry 146 = .ok (.iconst 0, 1) := by decide +kernel
theorem dX13_entry_147 : decode cX13_entry 147 = .ok (.ireturn, 1) := by decide +kernel
theorem dX13_entry_148 : decode cX13_entry 148 = .ok (.aload_n 0, 1) := by decide +kernel
theorem dX13_entry_149 : decode cX13_entry 149 = .ok (.getfield 114, 3) := by decide +kernel
theorem dX13_entry_152 : decode cX13_entry 152 = .ok (.iload 4, 2) := by decide +kernel
theorem dX13_entry_154 : decode cX13_entry 154 = .ok (.laload, 1) := by decide +kernel
theorem dX13_entry_155 : decode cX13_entry 155 = .ok (.aload_n 0, 1) := by decide +kernel
theorem dX13_entry_156 : decode cX13_entry 156 = .ok (.getfield 226, 3) := by decide +kernel
theorem dX13_entry_159 : decode cX13_entry 159 = .ok (.lsub, 1) := by decide +kernel
theorem dX13_entry_160 : decode cX13_entry 160 = .ok (.l2i, 1) := by decide +kernel
theorem dX13_entry_161 : decode cX13_entry 161 = .ok (.ireturn, 1) := by decide +kernel
theorem dX13_entry_162 : decode cX13_entry 162 = .ok (.iconst (-1), 1) := by decide +kernel
theorem dX13_entry_163 : decode cX13_entry 163 = .ok (.ireturn, 1) := by decide +kernel
theorem dX13_count_0 : decode cX13_count 0 = .ok (.aload_n 0, 1) := by decide +kernel
theorem dX13_count_1 : decode cX13_count 1 = .ok (.iconst 0, 1) := by decide +kernel
theorem dX13_count_2 : decode cX13_count 2 = .ok (.putfield 184, 3) := by decide +kernel
theorem dX13_count_5 : decode cX13_count 5 = .ok (.iload_n 1, 1) := by decide +kernel
theorem dX13_count_6 : decode cX13_count 6 = .ok (.ifCond .ne 11, 3) := by decide +kernel
theorem dX13_count_9 : decode cX13_count 9 = .ok (.aload_n 0, 1) := by decide +kernel
theorem dX13_count_10 : decode cX13_count 10 = .ok (.getfield 226, 3) := by decide +kernel
theorem dX13_count_13 : decode cX13_count 13 = .ok (.l2i, 1) := by decide +kernel
theorem dX13_count_14 : decode cX13_count 14 = .ok (.goto 23, 3) := by decide +kernel
theorem dX13_count_17 : decode cX13_count 17 = .ok (.iload_n 1, 1) := by decide +kernel
theorem dX13_count_18 : decode cX13_count 18 = .ok (.ifCond .le 18, 3) := by decide +kernel
theorem dX13_count_21 : decode cX13_count 21 = .ok (.iload_n 1, 1) := by decide +kernel
theorem dX13_count_22 : decode cX13_count 22 = .ok (.bipush 11, 2) := by decide +kernel
theorem dX13_count_24 : decode cX13_count 24 = .ok (.if_icmp .ge 12, 3) := by decide +kernel
theorem dX13_count_27 : decode cX13_count 27 = .ok (.aload_n 0, 1) := by decide +kernel
theorem dX13_count_28 : decode cX13_count 28 = .ok (.getfield 142, 3) := by decide +kernel
theorem dX13_count_31 : decode cX13_count 31 = .ok (.iload_n 1, 1) := by decide +kernel
theorem dX13_count_32 : decode cX13_count 32 = .ok (.iaload, 1) := by decide +kernel
theorem dX13_count_33 : decode cX13_count 33 = .ok (.goto 4, 3) := by decide +kernel
theorem dX13_count_36 : decode cX13_count 36 = .ok (.iconst (-1), 1) := by decide +kernel
theorem dX13_count_37 : decode cX13_count 37 = .ok (.ireturn, 1) := by decide +kernel
theorem dX13_holders_0 : decode cX13_holders 0 = .ok (.aload_n 0, 1) := by decide +kernel
theorem dX13_holders_1 : decode cX13_holders 1 = .ok (.iconst 0, 1) := by decide +kernel
theorem dX13_holders_2 : decode cX13_holders 2 = .ok (.putfield 184, 3) := by decide +kernel
theorem dX13_holders_5 : decode cX13_holders 5 = .ok (.iconst 0, 1) := by decide +kernel
theorem dX13_holders_6 : decode cX13_holders 6 = .ok (.istore_n 2, 1) := by decide +kernel
theorem dX13_holders_7 : decode cX13_holders 7 = .ok (.iconst 0, 1) := by decide +kernel
theorem dX13_holders_8 : decode cX13_holders 8 = .ok (.istore_n 3, 1) := by decide +kernel
theorem dX13_holders_9 : decode cX13_holders 9 = .ok (.iload_n 3, 1) := by decide +kernel
theorem dX13_holders_10 : decode cX13_holders 10 = .ok (.bipush 8, 2) := by decide +kernel
theorem dX13_holders_12 : decode cX13_holders 12 = .ok (.if_icmp .ge 44, 3) := by decide +kernel
theorem dX13_holders_15 : decode cX13_holders 15 = .ok (.iload_n 2, 1) := by decide +kernel
theorem dX13_holders_16 : decode cX13_holders 16 = .ok (.aload_n 0, 1) := by decide +kernel
theorem dX13_holders_17 : decode cX13_holders 17 = .ok (.getfield 13, 3) := by decide +kernel
theorem dX13_holders_20 : decode cX13_holders 20 = .ok (.iload_n 3, 1) := by decide +kernel
theorem dX13_holders_21 : decode cX13_holders 21 = .ok (.baload, 1) := by decide +kernel
theorem dX13_holders_22 : decode cX13_holders 22 = .ok (.ifCond .eq 25, 3) := by decide +kernel
theorem dX13_holders_25 : decode cX13_holders 25 = .ok (.aload_n 0, 1) := by decide +kernel
theorem dX13_holders_26 : decode cX13_holders 26 = .ok (.getfield 41, 3) := by decide +kernel
theorem dX13_holders_29 : decode cX13_holders 29 = .ok (.iload_n 3, 1) := by decide +kernel
theorem dX13_holders_30 : decode cX13_holders 30 = .ok (.baload, 1) := by decide +kernel
theorem dX13_holders_31 : decode cX13_holders 31 = .ok (.ifCond .eq 16, 3) := by decide +kernel
theorem dX13_holders_34 : decode cX13_holders 34 = .ok (.aload_n 0, 1) := by decide +kernel
theorem dX13_holders_35 : decode cX13_holders 35 = .ok (.iload_n 3, 1) := by decide +kernel
theorem dX13_holders_36 : decode cX13_holders 36 = .ok (.invokevirtual 240, 3) := by decide +kernel
theorem dX13_holders_39 : decode cX13_holders 39 = .ok (.iload_n 1, 1) := by decide +kernel
theorem dX13_holders_40 : decode cX13_holders 40 = .ok (.if_icmp .ne 7, 3) := by decide +kernel
theorem dX13_holders_43 : decode cX13_holders 43 = .ok (.iconst 1, 1) := by decide +kernel
theorem dX13_holders_44 : decode cX13_holders 44 = .ok (.goto 4, 3) := by decide +kernel
theorem dX13_holders_47 : decode cX13_holders 47 = .ok (.iconst 0, 1) := by decide +kernel
theorem dX13_holders_48 : decode cX13_holders 48 = .ok (.iadd, 1) := by decide +kernel
theorem dX13_holders_49 : decode cX13_holders 49 = .ok (.istore_n 2, 1) := by decide +kernel
theorem dX13_holders_50 : decode cX13_holders 50 = .ok (.iinc 3 1, 3) := by decide +kernel
theorem dX13_holders_53 : decode cX13_holders 53 = .ok (.goto (-44), 3) := by decide +kernel
theorem dX13_holders_56 : decode cX13_holders 56 = .ok (.iload_n 2, 1) := by decide +kernel
theorem dX13_holders_57 : decode cX13_holders 57 = .ok (.ireturn, 1) := by decide +kernel
theorem dX13_sent_0 : decode cX13_sent 0 = .ok (.aload_n 0, 1) := by decide +kernel
theorem dX13_sent_1 : decode cX13_sent 1 = .ok (.iconst 0, 1) := by decide +kernel
theorem dX13_sent_2 : decode cX13_sent 2 = .ok (.putfield 184, 3) := by decide +kernel
theorem dX13_sent_5 : decode cX13_sent 5 = .ok (.iload_n 1, 1) := by decide +kernel
theorem dX13_sent_6 : decode cX13_sent 6 = .ok (.ifCond .lt 20, 3) := by decide +kernel
theorem dX13_sent_9 : decode cX13_sent 9 = .ok (.iload_n 1, 1) := by decide +kernel
theorem dX13_sent_10 : decode cX13_sent 10 = .ok (.aload_n 0, 1) := by decide +kernel
theorem dX13_sent_11 : decode cX13_sent 11 = .ok (.getfield 223, 3) := by decide +kernel
theorem dX13_sent_14 : decode cX13_sent 14 = .ok (.if_icmp .ge 12, 3) := by decide +kernel
theorem dX13_sent_17 : decode cX13_sent 17 = .ok (.aload_n 0, 1) := by decide +kernel
theorem dX13_sent_18 : decode cX13_sent 18 = .ok (.getfield 145, 3) := by decide +kernel
theorem dX13_sent_21 : decode cX13_sent 21 = .ok (.iload_n 1, 1) := by decide +kernel
theorem dX13_sent_22 : decode cX13_sent 22 = .ok (.iaload, 1) := by decide +kernel
theorem dX13_sent_23 : decode cX13_sent 23 = .ok (.goto 4, 3) := by decide +kernel
theorem dX13_sent_26 : decode cX13_sent 26 = .ok (.iconst (-1), 1) := by decide +kernel
theorem dX13_sent_27 : decode cX13_sent 27 = .ok (.ireturn, 1) := by decide +kernel
theorem dX13_go_0 : decode cX13_go 0 = .ok (.aload_n 0, 1) := by decide +kernel
theorem dX13_go_1 : decode cX13_go 1 = .ok (.iconst 0, 1) := by decide +kernel
theorem dX13_go_2 : decode cX13_go 2 = .ok (.putfield 184, 3) := by decide +kernel
theorem dX13_go_5 : decode cX13_go 5 = .ok (.iload_n 1, 1) := by decide +kernel
theorem dX13_go_6 : decode cX13_go 6 = .ok (.ifCond .lt 10, 3) := by decide +kernel
theorem dX13_go_9 : decode cX13_go 9 = .ok (.iload_n 1, 1) := by decide +kernel
theorem dX13_go_10 : decode cX13_go 10 = .ok (.sipush 20000, 3) := by decide +kernel
theorem dX13_go_13 : decode cX13_go 13 = .ok (.if_icmp .le 5, 3) := by decide +kernel
theorem dX13_go_16 : decode cX13_go 16 = .ok (.iconst (-1), 1) := by decide +kernel
theorem dX13_go_17 : decode cX13_go 17 = .ok (.ireturn, 1) := by decide +kernel
theorem dX13_go_18 : decode cX13_go 18 = .ok (.aload_n 0, 1) := by decide +kernel
theorem dX13_go_19 : decode cX13_go 19 = .ok (.invokevirtual 328, 3) := by decide +kernel
theorem dX13_go_22 : decode cX13_go 22 = .ok (.aload_n 0, 1) := by decide +kernel
theorem dX13_go_23 : decode cX13_go 23 = .ok (.getfield 226, 3) := by decide +kernel
theorem dX13_go_26 : decode cX13_go 26 = .ok (.iload_n 1, 1) := by decide +kernel
theorem dX13_go_27 : decode cX13_go 27 = .ok (.i2l, 1) := by decide +kernel
theorem dX13_go_28 : decode cX13_go 28 = .ok (.ladd, 1) := by decide +kernel
theorem dX13_go_29 : decode cX13_go 29 = .ok (.lstore_n 2, 1) := by decide +kernel
theorem dX13_go_30 : decode cX13_go 30 = .ok (.aload_n 0, 1) := by decide +kernel
theorem dX13_go_31 : decode cX13_go 31 = .ok (.getfield 226, 3) := by decide +kernel
theorem dX13_go_34 : decode cX13_go 34 = .ok (.lload_n 2, 1) := by decide +kernel
theorem dX13_go_35 : decode cX13_go 35 = .ok (.lcmp, 1) := by decide +kernel
theorem dX13_go_36 : decode cX13_go 36 = .ok (.ifCond .ge 52, 3) := by decide +kernel
theorem dX13_go_39 : decode cX13_go 39 = .ok (.aload_n 0, 1) := by decide +kernel
theorem dX13_go_40 : decode cX13_go 40 = .ok (.invokevirtual 331, 3) := by decide +kernel
theorem dX13_go_43 : decode cX13_go 43 = .ok (.lstore 4, 2) := by decide +kernel
theorem dX13_go_45 : decode cX13_go 45 = .ok (.aload_n 0, 1) := by decide +kernel
theorem dX13_go_46 : decode cX13_go 46 = .ok (.lload 4, 2) := by decide +kernel
theorem dX13_go_48 : decode cX13_go 48 = .ok (.lload_n 2, 1) := by decide +kernel
theorem dX13_go_49 : decode cX13_go 49 = .ok (.lcmp, 1) := by decide +kernel
theorem dX13_go_50 : decode cX13_go 50 = .ok (.ifCond .le 7, 3) := by decide +kernel
theorem dX13_go_53 : decode cX13_go 53 = .ok (.lload_n 2, 1) := by decide +kernel
theorem dX13_go_54 : decode cX13_go 54 = .ok (.goto 24, 3) := by decide +kernel
theorem dX13_go_57 : decode cX13_go 57 = .ok (.lload 4, 2) := by decide +kernel
theorem dX13_go_59 : decode cX13_go 59 = .ok (.aload_n 0, 1) := by decide +kernel
theorem dX13_go_60 : decode cX13_go 60 = .ok (.getfield 226, 3) := by decide +kernel
theorem dX13_go_63 : decode cX13_go 63 = .ok (.lcmp, 1) := by decide +kernel
theorem dX13_go_64 : decode cX13_go 64 = .ok (.ifCond .le 8, 3) := by decide +kernel
theorem dX13_go_67 : decode cX13_go 67 = .ok (.lload 4, 2) := by decide +kernel
theorem dX13_go_69 : decode cX13_go 69 = .ok (.goto 9, 3) := by decide +kernel
theorem dX13_go_72 : decode cX13_go 72 = .ok (.aload_n 0, 1) := by decide +kernel
theorem dX13_go_73 : decode cX13_go 73 = .ok (.getfield 226, 3) := by decide +kernel
theorem dX13_go_76 : decode cX13_go 76 = .ok (.lconst 1, 1) := by decide +kernel
theorem dX13_go_77 : decode cX13_go 77 = .ok (.ladd, 1) := by decide +kernel
theorem dX13_go_78 : decode cX13_go 78 = .ok (.putfield 226, 3) := by decide +kernel
theorem dX13_go_81 : decode cX13_go 81 = .ok (.aload_n 0, 1) := by decide +kernel
theorem dX13_go_82 : decode cX13_go 82 = .ok (.invokevirtual 328, 3) := by decide +kernel
theorem dX13_go_85 : decode cX13_go 85 = .ok (.goto (-55), 3) := by decide +kernel
theorem dX13_go_88 : decode cX13_go 88 = .ok (.aload_n 0, 1) := by decide +kernel
theorem dX13_go_89 : decode cX13_go 89 = .ok (.getfield 226, 3) := by decide +kernel
theorem dX13_go_92 : decode cX13_go 92 = .ok (.l2i, 1) := by decide +kernel
theorem dX13_go_93 : decode cX13_go 93 = .ok (.ireturn, 1) := by decide +kernel
end
section
theorem dX13_millisecond_0 : decode cX13_millisecond 0 = .ok (.iconst 1, 1) := by decide +kernel
theorem dX13_millisecond_1 : decode cX13_millisecond 1 = .ok (.istore_n 1, 1) := by decide +kernel
theorem dX13_millisecond_2 : decode cX13_millisecond 2 = .ok (.iload_n 1, 1) := by decide +kernel
theorem dX13_millisecond_3 : decode cX13_millisecond 3 = .ok (.ifCond .eq 208, 3) := by decide +kernel
theorem dX13_millisecond_6 : decode cX13_millisecond 6 = .ok (.aload_n 0, 1) := by decide +kernel
theorem dX13_millisecond_7 : decode cX13_millisecond 7 = .ok (.getfield 220, 3) := by decide +kernel
theorem dX13_millisecond_10 : decode cX13_millisecond 10 = .ok (.ifCond .le 193, 3) := by decide +kernel
theorem dX13_millisecond_13 : decode cX13_millisecond 13 = .ok (.aload_n 0, 1) := by decide +kernel
theorem dX13_millisecond_14 : decode cX13_millisecond 14 = .ok (.getfield 217, 3) := by decide +kernel
theorem dX13_millisecond_17 : decode cX13_millisecond 17 = .ok (.istore_n 2, 1) := by decide +kernel
theorem dX13_millisecond_18 : decode cX13_millisecond 18 = .ok (.aload_n 0, 1) := by decide +kernel
theorem dX13_millisecond_19 : decode cX13_millisecond 19 = .ok (.aload_n 0, 1) := by decide +kernel
theorem dX13_millisecond_20 : decode cX13_millisecond 20 = .ok (.getfield 217, 3) := by decide +kernel
theorem dX13_millisecond_23 : decode cX13_millisecond 23 = .ok (.iconst 1, 1) := by decide +kernel
theorem dX13_millisecond_24 : decode cX13_millisecond 24 = .ok (.iadd, 1) := by decide +kernel
theorem dX13_millisecond_25 : decode cX13_millisecond 25 = .ok (.sipush 800, 3) := by decide +kernel
theorem dX13_millisecond_28 : decode cX13_millisecond 28 = .ok (.irem, 1) := by decide +kernel
theorem dX13_millisecond_29 : decode cX13_millisecond 29 = .ok (.putfield 217, 3) := by decide +kernel
theorem dX13_millisecond_32 : decode cX13_millisecond 32 = .ok (.aload_n 0, 1) := by decide +kernel
theorem dX13_millisecond_33 : decode cX13_millisecond 33 = .ok (.dup, 1) := by decide +kernel
theorem dX13_millisecond_34 : decode cX13_millisecond 34 = .ok (.getfield 220, 3) := by decide +kernel
theorem dX13_millisecond_37 : decode cX13_millisecond 37 = .ok (.iconst 1, 1) := by decide +kernel
theorem dX13_millisecond_38 : decode cX13_millisecond 38 = .ok (.isub, 1) := by decide +kernel
theorem dX13_millisecond_39 : decode cX13_millisecond 39 = .ok (.putfield 220, 3) := by decide +kernel
theorem dX13_millisecond_42 : decode cX13_millisecond 42 = .ok (.aload_n 0, 1) := by decide +kernel
theorem dX13_millisecond_43 : decode cX13_millisecond 43 = .ok (.aload_n 0, 1) := by decide +kernel
theorem dX13_millisecond_44 : decode cX13_millisecond 44 = .ok (.getfield 133, 3) := by decide +kernel
theorem dX13_millisecond_47 : decode cX13_millisecond 47 = .ok (.iload_n 2, 1) := by decide +kernel
theorem dX13_millisecond_48 : decode cX13_millisecond 48 = .ok (.iaload, 1) := by decide +kernel
theorem dX13_millisecond_49 : decode cX13_millisecond 49 = .ok (.putfield 318, 3) := by decide +kernel
theorem dX13_millisecond_52 : decode cX13_millisecond 52 = .ok (.iconst 0, 1) := by decide +kernel
theorem dX13_millisecond_53 : decode cX13_millisecond 53 = .ok (.istore_n 3, 1) := by decide +kernel
theorem dX13_millisecond_54 : decode cX13_millisecond 54 = .ok (.iload_n 3, 1) := by decide +kernel
theorem dX13_millisecond_55 : decode cX13_millisecond 55 = .ok (.aload_n 0, 1) := by decide +kernel
theorem dX13_millisecond_56 : decode cX13_millisecond 56 = .ok (.getfield 318, 3) := by decide +kernel
theorem dX13_millisecond_59 : decode cX13_millisecond 59 = .ok (.if_icmp .ge 27, 3) := by decide +kernel
theorem dX13_millisecond_62 : decode cX13_millisecond 62 = .ok (.aload_n 0, 1) := by decide +kernel
theorem dX13_millisecond_63 : decode cX13_millisecond 63 = .ok (.getfield 160, 3) := by decide +kernel
theorem dX13_millisecond_66 : decode cX13_millisecond 66 = .ok (.iload_n 3, 1) := by decide +kernel
theorem dX13_millisecond_67 : decode cX13_millisecond 67 = .ok (.aload_n 0, 1) := by decide +kernel
theorem dX13_millisecond_68 : decode cX13_millisecond 68 = .ok (.getfield 130, 3) := by decide +kernel
theorem dX13_millisecond_71 : decode cX13_millisecond 71 = .ok (.sipush 200, 3) := by decide +kernel
theorem dX13_millisecond_74 : decode cX13_millisecond 74 = .ok (.iload_n 2, 1) := by decide +kernel
theorem dX13_millisecond_75 : decode cX13_millisecond 75 = .ok (.imul, 1) := by decide +kernel
theorem dX13_millisecond_76 : decode cX13_millisecond 76 = .ok (.iload_n 3, 1) := by decide +kernel
theorem dX13_millisecond_77 : decode cX13_millisecond 77 = .ok (.iadd, 1) := by decide +kernel
theorem dX13_millisecond_78 : decode cX13_millisecond 78 = .ok (.iaload, 1) := by decide +kernel
theorem dX13_millisecond_79 : decode cX13_millisecond 79 = .ok (.iastore, 1) := by decide +kernel
theorem dX13_millisecond_80 : decode cX13_millisecond 80 = .ok (.iinc 3 1, 3) := by decide +kernel
theorem dX13_millisecond_83 : decode cX13_millisecond 83 = .ok (.goto (-29), 3) := by decide +kernel
theorem dX13_millisecond_86 : decode cX13_millisecond 86 = .ok (.aload_n 0, 1) := by decide +kernel
theorem dX13_millisecond_87 : decode cX13_millisecond 87 = .ok (.getfield 136, 3) := by decide +kernel
theorem dX13_millisecond_90 : decode cX13_millisecond 90 = .ok (.iload_n 2, 1) := by decide +kernel
theorem dX13_millisecond_91 : decode cX13_millisecond 91 = .ok (.iaload, 1) := by decide +kernel
theorem dX13_millisecond_92 : decode cX13_millisecond 92 = .ok (.istore_n 3, 1) := by decide +kernel
theorem dX13_millisecond_93 : decode cX13_millisecond 93 = .ok (.aload_n 0, 1) := by decide +kernel
theorem dX13_millisecond_94 : decode cX13_millisecond 94 = .ok (.getfield 139, 3) := by decide +kernel
theorem dX13_millisecond_97 : decode cX13_millisecond 97 = .ok (.iload_n 2, 1) := by decide +kernel
theorem dX13_millisecond_98 : decode cX13_millisecond 98 = .ok (.iaload, 1) := by decide +kernel
theorem dX13_millisecond_99 : decode cX13_millisecond 99 = .ok (.istore 4, 2) := by decide +kernel
theorem dX13_millisecond_101 : decode cX13_millisecond 101 = .ok (.iconst 0, 1) := by decide +kernel
theorem dX13_millisecond_102 : decode cX13_millisecond 102 = .ok (.istore 5, 2) := by decide +kernel
theorem dX13_millisecond_104 : decode cX13_millisecond 104 = .ok (.iload 5, 2) := by decide +kernel
theorem dX13_millisecond_106 : decode cX13_millisecond 106 = .ok (.bipush 8, 2) := by decide +kernel
theorem dX13_millisecond_108 : decode cX13_millisecond 108 = .ok (.if_icmp .ge 92, 3) := by decide +kernel
theorem dX13_millisecond_111 : decode cX13_millisecond 111 = .ok (.iload 5, 2) := by decide +kernel
theorem dX13_millisecond_113 : decode cX13_millisecond 113 = .ok (.iload_n 3, 1) := by decide +kernel
theorem dX13_millisecond_114 : decode cX13_millisecond 114 = .ok (.if_icmp .eq 80, 3) := by decide +kernel
theorem dX13_millisecond_117 : decode cX13_millisecond 117 = .ok (.aload_n 0, 1) := by decide +kernel
theorem dX13_millisecond_118 : decode cX13_millisecond 118 = .ok (.getfield 13, 3) := by decide +kernel
theorem dX13_millisecond_121 : decode cX13_millisecond 121 = .ok (.iload 5, 2) := by decide +kernel
theorem dX13_millisecond_123 : decode cX13_millisecond 123 = .ok (.baload, 1) := by decide +kernel
theorem dX13_millisecond_124 : decode cX13_millisecond 124 = .ok (.ifCond .eq 70, 3) := by decide +kernel
theorem dX13_millisecond_127 : decode cX13_millisecond 127 = .ok (.aload_n 0, 1) := by decide +kernel
theorem dX13_millisecond_128 : decode cX13_millisecond 128 = .ok (.getfield 20, 3) := by decide +kernel
theorem dX13_millisecond_131 : decode cX13_millisecond 131 = .ok (.iload 5, 2) := by decide +kernel
theorem dX13_millisecond_133 : decode cX13_millisecond 133 = .ok (.iaload, 1) := by decide +kernel
theorem dX13_millisecond_134 : decode cX13_millisecond 134 = .ok (.iload 4, 2) := by decide +kernel
theorem dX13_millisecond_136 : decode cX13_millisecond 136 = .ok (.if_icmp .eq 6, 3) := by decide +kernel
theorem dX13_millisecond_139 : decode cX13_millisecond 139 = .ok (.goto 55, 3) := by decide +kernel
theorem dX13_millisecond_142 : decode cX13_millisecond 142 = .ok (.aload_n 0, 1) := by decide +kernel
theorem dX13_millisecond_143 : decode cX13_millisecond 143 = .ok (.getfield 29, 3) := by decide +kernel
theorem dX13_millisecond_146 : decode cX13_millisecond 146 = .ok (.iload 5, 2) := by decide +kernel
theorem dX13_millisecond_148 : decode cX13_millisecond 148 = .ok (.iaload, 1) := by decide +kernel
theorem dX13_millisecond_149 : decode cX13_millisecond 149 = .ok (.ifCond .le 27, 3) := by decide +kernel
theorem dX13_millisecond_152 : decode cX13_millisecond 152 = .ok (.aload_n 0, 1) := by decide +kernel
theorem dX13_millisecond_153 : decode cX13_millisecond 153 = .ok (.getfield 29, 3) := by decide +kernel
theorem dX13_millisecond_156 : decode cX13_millisecond 156 = .ok (.iload 5, 2) := by decide +kernel
theorem dX13_millisecond_158 : decode cX13_millisecond 158 = .ok (.dup2, 1) := by decide +kernel
theorem dX13_millisecond_159 : decode cX13_millisecond 159 = .ok (.iaload, 1) := by decide +kernel
theorem dX13_millisecond_160 : decode cX13_millisecond 160 = .ok (.iconst 1, 1) := by decide +kernel
theorem dX13_millisecond_161 : decode cX13_millisecond 161 = .ok (.isub, 1) := by decide +kernel
theorem dX13_millisecond_162 : decode cX13_millisecond 162 = .ok (.iastore, 1) := by decide +kernel
theorem dX13_millisecond_163 : decode cX13_millisecond 163 = .ok (.aload_n 0, 1) := by decide +kernel
theorem dX13_millisecond_164 : decode cX13_millisecond 164 = .ok (.getfield 142, 3) := by decide +kernel
theorem dX13_millisecond_167 : decode cX13_millisecond 167 = .ok (.iconst 4, 1) := by decide +kernel
theorem dX13_millisecond_168 : decode cX13_millisecond 168 = .ok (.dup2, 1) := by decide +kernel
theorem dX13_millisecond_169 : decode cX13_millisecond 169 = .ok (.iaload, 1) := by decide +kernel
theorem dX13_millisecond_170 : decode cX13_millisecond 170 = .ok (.iconst 1, 1) := by decide +kernel
theorem dX13_millisecond_171 : decode cX13_millisecond 171 = .ok (.iadd, 1) := by decide +kernel
theorem dX13_millisecond_172 : decode cX13_millisecond 172 = .ok (.iastore, 1) := by decide +kernel
theorem dX13_millisecond_173 : decode cX13_millisecond 173 = .ok (.goto 21, 3) := by decide +kernel
theorem dX13_millisecond_176 : decode cX13_millisecond 176 = .ok (.aload_n 0, 1) := by decide +kernel
theorem dX13_millisecond_177 : decode cX13_millisecond 177 = .ok (.getfield 142, 3) := by decide +kernel
theorem dX13_millisecond_180 : decode cX13_millisecond 180 = .ok (.iconst 3, 1) := by decide +kernel
theorem dX13_millisecond_181 : decode cX13_millisecond 181 = .ok (.dup2, 1) := by decide +kernel
theorem dX13_millisecond_182 : decode cX13_millisecond 182 = .ok (.iaload, 1) := by decide +kernel
theorem dX13_millisecond_183 : decode cX13_millisecond 183 = .ok (.iconst 1, 1) := by decide +kernel
theorem dX13_millisecond_184 : decode cX13_millisecond 184 = .ok (.iadd, 1) := by decide +kernel
theorem dX13_millisecond_185 : decode cX13_millisecond 185 = .ok (.iastore, 1) := by decide +kernel
theorem dX13_millisecond_186 : decode cX13_millisecond 186 = .ok (.aload_n 0, 1) := by decide +kernel
theorem dX13_millisecond_187 : decode cX13_millisecond 187 = .ok (.iload 5, 2) := by decide +kernel
theorem dX13_millisecond_189 : decode cX13_millisecond 189 = .ok (.invokevirtual 321, 3) := by decide +kernel
theorem dX13_millisecond_192 : decode cX13_millisecond 192 = .ok (.istore 6, 2) := by decide +kernel
theorem dX13_millisecond_194 : decode cX13_millisecond 194 = .ok (.iinc 5 1, 3) := by decide +kernel
theorem dX13_millisecond_197 : decode cX13_millisecond 197 = .ok (.goto (-93), 3) := by decide +kernel
theorem dX13_millisecond_200 : decode cX13_millisecond 200 = .ok (.goto (-194), 3) := by decide +kernel
theorem dX13_millisecond_203 : decode cX13_millisecond 203 = .ok (.aload_n 0, 1) := by decide +kernel
theorem dX13_millisecond_204 : decode cX13_millisecond 204 = .ok (.invokevirtual 324, 3) := by decide +kernel
theorem dX13_millisecond_207 : decode cX13_millisecond 207 = .ok (.istore_n 1, 1) := by decide +kernel
theorem dX13_millisecond_208 : decode cX13_millisecond 208 = .ok (.goto (-206), 3) := by decide +kernel
theorem dX13_millisecond_211 : decode cX13_millisecond 211 = .ok (.return_, 1) := by decide +kernel
theorem dX13_acts_0 : decode cX13_acts 0 = .ok (.iconst 0, 1) := by decide +kernel
theorem dX13_acts_1 : decode cX13_acts 1 = .ok (.istore_n 1, 1) := by decide +kernel
theorem dX13_acts_2 : decode cX13_acts 2 = .ok (.iload_n 1, 1) := by decide +kernel
theorem dX13_acts_3 : decode cX13_acts 3 = .ok (.bipush 8, 2) := by decide +kernel
theorem dX13_acts_5 : decode cX13_acts 5 = .ok (.if_icmp .ge 203, 3) := by decide +kernel
theorem dX13_acts_8 : decode cX13_acts 8 = .ok (.aload_n 0, 1) := by decide +kernel
theorem dX13_acts_9 : decode cX13_acts 9 = .ok (.getfield 13, 3) := by decide +kernel
theorem dX13_acts_12 : decode cX13_acts 12 = .ok (.iload_n 1, 1) := by decide +kernel
theorem dX13_acts_13 : decode cX13_acts 13 = .ok (.baload, 1) := by decide +kernel
theorem dX13_acts_14 : decode cX13_acts 14 = .ok (.ifCond .ne 6, 3) := by decide +kernel
theorem dX13_acts_17 : decode cX13_acts 17 = .ok (.goto 185, 3) := by decide +kernel
theorem dX13_acts_20 : decode cX13_acts 20 = .ok (.aload_n 0, 1) := by decide +kernel
theorem dX13_acts_21 : decode cX13_acts 21 = .ok (.getfield 44, 3) := by decide +kernel
theorem dX13_acts_24 : decode cX13_acts 24 = .ok (.iload_n 1, 1) := by decide +kernel
theorem dX13_acts_25 : decode cX13_acts 25 = .ok (.laload, 1) := by decide +kernel
theorem dX13_acts_26 : decode cX13_acts 26 = .ok (.aload_n 0, 1) := by decide +kernel
theorem dX13_acts_27 : decode cX13_acts 27 = .ok (.getfield 226, 3) := by decide +kernel
theorem dX13_acts_30 : decode cX13_acts 30 = .ok (.lcmp, 1) := by decide +kernel
theorem dX13_acts_31 : decode cX13_acts 31 = .ok (.ifCond .gt 10, 3) := by decide +kernel
theorem dX13_acts_34 : decode cX13_acts 34 = .ok (.aload_n 0, 1) := by decide +kernel
theorem dX13_acts_35 : decode cX13_acts 35 = .ok (.iload_n 1, 1) := by decide +kernel
theorem dX13_acts_36 : decode cX13_acts 36 = .ok (.invokevirtual 299, 3) := by decide +kernel
theorem dX13_acts_39 : decode cX13_acts 39 = .ok (.iconst 1, 1) := by decide +kernel
theorem dX13_acts_40 : decode cX13_acts 40 = .ok (.ireturn, 1) := by decide +kernel
theorem dX13_acts_41 : decode cX13_acts 41 = .ok (.aload_n 0, 1) := by decide +kernel
theorem dX13_acts_42 : decode cX13_acts 42 = .ok (.getfield 57, 3) := by decide +kernel
theorem dX13_acts_45 : decode cX13_acts 45 = .ok (.iload_n 1, 1) := by decide +kernel
theorem dX13_acts_46 : decode cX13_acts 46 = .ok (.laload, 1) := by decide +kernel
theorem dX13_acts_47 : decode cX13_acts 47 = .ok (.aload_n 0, 1) := by decide +kernel
theorem dX13_acts_48 : decode cX13_acts 48 = .ok (.getfield 226, 3) := by decide +kernel
theorem dX13_acts_51 : decode cX13_acts 51 = .ok (.lcmp, 1) := by decide +kernel
theorem dX13_acts_52 : decode cX13_acts 52 = .ok (.ifCond .gt 10, 3) := by decide +kernel
theorem dX13_acts_55 : decode cX13_acts 55 = .ok (.aload_n 0, 1) := by decide +kernel
theorem dX13_acts_56 : decode cX13_acts 56 = .ok (.iload_n 1, 1) := by decide +kernel
theorem dX13_acts_57 : decode cX13_acts 57 = .ok (.invokevirtual 302, 3) := by decide +kernel
theorem dX13_acts_60 : decode cX13_acts 60 = .ok (.iconst 1, 1) := by decide +kernel
theorem dX13_acts_61 : decode cX13_acts 61 = .ok (.ireturn, 1) := by decide +kernel
theorem dX13_acts_62 : decode cX13_acts 62 = .ok (.iconst 4, 1) := by decide +kernel
theorem dX13_acts_63 : decode cX13_acts 63 = .ok (.iload_n 1, 1) := by decide +kernel
theorem dX13_acts_64 : decode cX13_acts 64 = .ok (.imul, 1) := by decide +kernel
theorem dX13_acts_65 : decode cX13_acts 65 = .ok (.istore_n 2, 1) := by decide +kernel
theorem dX13_acts_66 : decode cX13_acts 66 = .ok (.iload_n 2, 1) := by decide +kernel
theorem dX13_acts_67 : decode cX13_acts 67 = .ok (.iconst 4, 1) := by decide +kernel
theorem dX13_acts_68 : decode cX13_acts 68 = .ok (.iload_n 1, 1) := by decide +kernel
theorem dX13_acts_69 : decode cX13_acts 69 = .ok (.imul, 1) := by decide +kernel
theorem dX13_acts_70 : decode cX13_acts 70 = .ok (.iconst 4, 1) := by decide +kernel
theorem dX13_acts_71 : decode cX13_acts 71 = .ok (.iadd, 1) := by decide +kernel
theorem dX13_acts_72 : decode cX13_acts 72 = .ok (.if_icmp .ge 39, 3) := by decide +kernel
theorem dX13_acts_75 : decode cX13_acts 75 = .ok (.aload_n 0, 1) := by decide +kernel
theorem dX13_acts_76 : decode cX13_acts 76 = .ok (.getfield 81, 3) := by decide +kernel
theorem dX13_acts_79 : decode cX13_acts 79 = .ok (.iload_n 2, 1) := by decide +kernel
theorem dX13_acts_80 : decode cX13_acts 80 = .ok (.iaload, 1) := by decide +kernel
theorem dX13_acts_81 : decode cX13_acts 81 = .ok (.ifCond .le 24, 3) := by decide +kernel
theorem dX13_acts_84 : decode cX13_acts 84 = .ok (.aload_n 0, 1) := by decide +kernel
theorem dX13_acts_85 : decode cX13_acts 85 = .ok (.getfield 84, 3) := by decide +kernel
theorem dX13_acts_88 : decode cX13_acts 88 = .ok (.iload_n 2, 1) := by decide +kernel
theorem dX13_acts_89 : decode cX13_acts 89 = .ok (.laload, 1) := by decide +kernel
theorem dX13_acts_90 : decode cX13_acts 90 = .ok (.aload_n 0, 1) := by decide +kernel
theorem dX13_acts_91 : decode cX13_acts 91 = .ok (.getfield 226, 3) := by decide +kernel
theorem dX13_acts_94 : decode cX13_acts 94 = .ok (.lcmp, 1) := by decide +kernel
theorem dX13_acts_95 : decode cX13_acts 95 = .ok (.ifCond .gt 10, 3) := by decide +kernel
theorem dX13_acts_98 : decode cX13_acts 98 = .ok (.aload_n 0, 1) := by decide +kernel
theorem dX13_acts_99 : decode cX13_acts 99 = .ok (.iload_n 2, 1) := by decide +kernel
theorem dX13_acts_100 : decode cX13_acts 100 = .ok (.invokevirtual 305, 3) := by decide +kernel
theorem dX13_acts_103 : decode cX13_acts 103 = .ok (.iconst 1, 1) := by decide +kernel
theorem dX13_acts_104 : decode cX13_acts 104 = .ok (.ireturn, 1) := by decide +kernel
theorem dX13_acts_105 : decode cX13_acts 105 = .ok (.iinc 2 1, 3) := by decide +kernel
theorem dX13_acts_108 : decode cX13_acts 108 = .ok (.goto (-42), 3) := by decide +kernel
theorem dX13_acts_111 : decode cX13_acts 111 = .ok (.iconst 0, 1) := by decide +kernel
theorem dX13_acts_112 : decode cX13_acts 112 = .ok (.istore_n 2, 1) := by decide +kernel
theorem dX13_acts_113 : decode cX13_acts 113 = .ok (.iload_n 2, 1) := by decide +kernel
theorem dX13_acts_114 : decode cX13_acts 114 = .ok (.aload_n 0, 1) := by decide +kernel
theorem dX13_acts_115 : decode cX13_acts 115 = .ok (.getfield 96, 3) := by decide +kernel
theorem dX13_acts_118 : decode cX13_acts 118 = .ok (.iload_n 1, 1) := by decide +kernel
theorem dX13_acts_119 : decode cX13_acts 119 = .ok (.iaload, 1) := by decide +kernel
theorem dX13_acts_120 : decode cX13_acts 120 = .ok (.if_icmp .ge 35, 3) := by decide +kernel
theorem dX13_acts_123 : decode cX13_acts 123 = .ok (.aload_n 0, 1) := by decide +kernel
theorem dX13_acts_124 : decode cX13_acts 124 = .ok (.getfield 93, 3) := by decide +kernel
theorem dX13_acts_127 : decode cX13_acts 127 = .ok (.iconst 4, 1) := by decide +kernel
theorem dX13_acts_128 : decode cX13_acts 128 = .ok (.iload_n 1, 1) := by decide +kernel
theorem dX13_acts_129 : decode cX13_acts 129 = .ok (.imul, 1) := by decide +kernel
theorem dX13_acts_130 : decode cX13_acts 130 = .ok (.iload_n 2, 1) := by decide +kernel
theorem dX13_acts_131 : decode cX13_acts 131 = .ok (.iadd, 1) := by decide +kernel
theorem dX13_acts_132 : decode cX13_acts 132 = .ok (.laload, 1) := by decide +kernel
theorem dX13_acts_133 : decode cX13_acts 133 = .ok (.aload_n 0, 1) := by decide +kernel
theorem dX13_acts_134 : decode cX13_acts 134 = .ok (.getfield 226, 3) := by decide +kernel
theorem dX13_acts_137 : decode cX13_acts 137 = .ok (.lcmp, 1) := by decide +kernel
theorem dX13_acts_138 : decode cX13_acts 138 = .ok (.ifCond .gt 11, 3) := by decide +kernel
theorem dX13_acts_141 : decode cX13_acts 141 = .ok (.aload_n 0, 1) := by decide +kernel
theorem dX13_acts_142 : decode cX13_acts 142 = .ok (.iload_n 1, 1) := by decide +kernel
theorem dX13_acts_143 : decode cX13_acts 143 = .ok (.iload_n 2, 1) := by decide +kernel
theorem dX13_acts_144 : decode cX13_acts 144 = .ok (.invokevirtual 308, 3) := by decide +kernel
theorem dX13_acts_147 : decode cX13_acts 147 = .ok (.iconst 1, 1) := by decide +kernel
theorem dX13_acts_148 : decode cX13_acts 148 = .ok (.ireturn, 1) := by decide +kernel
theorem dX13_acts_149 : decode cX13_acts 149 = .ok (.iinc 2 1, 3) := by decide +kernel
theorem dX13_acts_152 : decode cX13_acts 152 = .ok (.goto (-39), 3) := by decide +kernel
theorem dX13_acts_155 : decode cX13_acts 155 = .ok (.bipush 24, 2) := by decide +kernel
theorem dX13_acts_157 : decode cX13_acts 157 = .ok (.iload_n 1, 1) := by decide +kernel
theorem dX13_acts_158 : decode cX13_acts 158 = .ok (.imul, 1) := by decide +kernel
theorem dX13_acts_159 : decode cX13_acts 159 = .ok (.istore_n 2, 1) := by decide +kernel
theorem dX13_acts_160 : decode cX13_acts 160 = .ok (.iload_n 2, 1) := by decide +kernel
theorem dX13_acts_161 : decode cX13_acts 161 = .ok (.bipush 24, 2) := by decide +kernel
theorem dX13_acts_163 : decode cX13_acts 163 = .ok (.iload_n 1, 1) := by decide +kernel
theorem dX13_acts_164 : decode cX13_acts 164 = .ok (.imul, 1) := by decide +kernel
theorem dX13_acts_165 : decode cX13_acts 165 = .ok (.aload_n 0, 1) := by decide +kernel
theorem dX13_acts_166 : decode cX13_acts 166 = .ok (.getfield 99, 3) := by decide +kernel
theorem dX13_acts_169 : decode cX13_acts 169 = .ok (.iload_n 1, 1) := by decide +kernel
theorem dX13_acts_170 : decode cX13_acts 170 = .ok (.iaload, 1) := by decide +kernel
theorem dX13_acts_171 : decode cX13_acts 171 = .ok (.iadd, 1) := by decide +kernel
theorem dX13_acts_172 : decode cX13_acts 172 = .ok (.if_icmp .ge 30, 3) := by decide +kernel
theorem dX13_acts_175 : decode cX13_acts 175 = .ok (.aload_n 0, 1) := by decide +kernel
theorem dX13_acts_176 : decode cX13_acts 176 = .ok (.iload_n 2, 1) := by decide +kernel
theorem dX13_acts_177 : decode cX13_acts 177 = .ok (.invokevirtual 311, 3) := by decide +kernel
theorem dX13_acts_180 : decode cX13_acts 180 = .ok (.aload_n 0, 1) := by decide +kernel
theorem dX13_acts_181 : decode cX13_acts 181 = .ok (.getfield 226, 3) := by decide +kernel
theorem dX13_acts_184 : decode cX13_acts 184 = .ok (.lcmp, 1) := by decide +kernel
theorem dX13_acts_185 : decode cX13_acts 185 = .ok (.ifCond .gt 11, 3) := by decide +kernel
theorem dX13_acts_188 : decode cX13_acts 188 = .ok (.aload_n 0, 1) := by decide +kernel
theorem dX13_acts_189 : decode cX13_acts 189 = .ok (.iload_n 1, 1) := by decide +kernel
theorem dX13_acts_190 : decode cX13_acts 190 = .ok (.iload_n 2, 1) := by decide +kernel
theorem dX13_acts_191 : decode cX13_acts 191 = .ok (.invokevirtual 315, 3) := by decide +kernel
theorem dX13_acts_194 : decode cX13_acts 194 = .ok (.iconst 1, 1) := by decide +kernel
theorem dX13_acts_195 : decode cX13_acts 195 = .ok (.ireturn, 1) := by decide +kernel
theorem dX13_acts_196 : decode cX13_acts 196 = .ok (.iinc 2 1, 3) := by decide +kernel
theorem dX13_acts_199 : decode cX13_acts 199 = .ok (.goto (-39), 3) := by decide +kernel
theorem dX13_acts_202 : decode cX13_acts 202 = .ok (.iinc 1 1, 3) := by decide +kernel
theorem dX13_acts_205 : decode cX13_acts 205 = .ok (.goto (-203), 3) := by decide +kernel
theorem dX13_acts_208 : decode cX13_acts 208 = .ok (.iconst 0, 1) := by decide +kernel
theorem dX13_acts_209 : decode cX13_acts 209 = .ok (.ireturn, 1) := by decide +kernel
theorem dX13_nextDue_0 : decode cX13_nextDue 0 = .ok (.ldc2_w 271, 3) := by decide +kernel
theorem dX13_nextDue_3 : decode cX13_nextDue 3 = .ok (.lstore_n 1, 1) := by decide +kernel
theorem dX13_nextDue_4 : decode cX13_nextDue 4 = .ok (.iconst 0, 1) := by decide +kernel
theorem dX13_nextDue_5 : decode cX13_nextDue 5 = .ok (.istore_n 3, 1) := by decide +kernel
theorem dX13_nextDue_6 : decode cX13_nextDue 6 = .ok (.iload_n 3, 1) := by decide +kernel
theorem dX13_nextDue_7 : decode cX13_nextDue 7 = .ok (.bipush 8, 2) := by decide +kernel
theorem dX13_nextDue_9 : decode cX13_nextDue 9 = .ok (.if_icmp .ge 220, 3) := by decide +kernel
theorem dX13_nextDue_12 : decode cX13_nextDue 12 = .ok (.aload_n 0, 1) := by decide +kernel
theorem dX13_nextDue_13 : decode cX13_nextDue 13 = .ok (.getfield 13, 3) := by decide +kernel
theorem dX13_nextDue_16 : decode cX13_nextDue 16 = .ok (.iload_n 3, 1) := by decide +kernel
theorem dX13_nextDue_17 : decode cX13_nextDue 17 = .ok (.baload, 1) := by decide +kernel
theorem dX13_nextDue_18 : decode cX13_nextDue 18 = .ok (.ifCond .ne 6, 3) := by decide +kernel
theorem dX13_nextDue_21 : decode cX13_nextDue 21 = .ok (.goto 202, 3) := by decide +kernel
theorem dX13_nextDue_24 : decode cX13_nextDue 24 = .ok (.aload_n 0, 1) := by decide +kernel
theorem dX13_nextDue_25 : decode cX13_nextDue 25 = .ok (.getfield 44, 3) := by decide +kernel
theorem dX13_nextDue_28 : decode cX13_nextDue 28 = .ok (.iload_n 3, 1) := by decide +kernel
theorem dX13_nextDue_29 : decode cX13_nextDue 29 = .ok (.laload, 1) := by decide +kernel
theorem dX13_nextDue_30 : decode cX13_nextDue 30 = .ok (.lload_n 1, 1) := by decide +kernel
theorem dX13_nextDue_31 : decode cX13_nextDue 31 = .ok (.lcmp, 1) := by decide +kernel
theorem dX13_nextDue_32 : decode cX13_nextDue 32 = .ok (.ifCond .ge 12, 3) := by decide +kernel
theorem dX13_nextDue_35 : decode cX13_nextDue 35 = .ok (.aload_n 0, 1) := by decide +kernel
theorem dX13_nextDue_36 : decode cX13_nextDue 36 = .ok (.getfield 44, 3) := by decide +kernel
theorem dX13_nextDue_39 : decode cX13_nextDue 39 = .ok (.iload_n 3, 1) := by decide +kernel
theorem dX13_nextDue_40 : decode cX13_nextDue 40 = .ok (.laload, 1) := by decide +kernel
theorem dX13_nextDue_41 : decode cX13_nextDue 41 = .ok (.goto 4, 3) := by decide +kernel
theorem dX13_nextDue_44 : decode cX13_nextDue 44 = .ok (.lload_n 1, 1) := by decide +kernel
theorem dX13_nextDue_45 : decode cX13_nextDue 45 = .ok (.lstore_n 1, 1) := by decide +kernel
theorem dX13_nextDue_46 : decode cX13_nextDue 46 = .ok (.aload_n 0, 1) := by decide +kernel
theorem dX13_nextDue_47 : decode cX13_nextDue 47 = .ok (.getfield 57, 3) := by decide +kernel
theorem dX13_nextDue_50 : decode cX13_nextDue 50 = .ok (.iload_n 3, 1) := by decide +kernel
theorem dX13_nextDue_51 : decode cX13_nextDue 51 = .ok (.laload, 1) := by decide +kernel
theorem dX13_nextDue_52 : decode cX13_nextDue 52 = .ok (.lload_n 1, 1) := by decide +kernel
theorem dX13_nextDue_53 : decode cX13_nextDue 53 = .ok (.lcmp, 1) := by decide +kernel
theorem dX13_nextDue_54 : decode cX13_nextDue 54 = .ok (.ifCond .ge 12, 3) := by decide +kernel
theorem dX13_nextDue_57 : decode cX13_nextDue 57 = .ok (.aload_n 0, 1) := by decide +kernel
theorem dX13_nextDue_58 : decode cX13_nextDue 58 = .ok (.getfield 57, 3) := by decide +kernel
theorem dX13_nextDue_61 : decode cX13_nextDue 61 = .ok (.iload_n 3, 1) := by decide +kernel
theorem dX13_nextDue_62 : decode cX13_nextDue 62 = .ok (.laload, 1) := by decide +kernel
theorem dX13_nextDue_63 : decode cX13_nextDue 63 = .ok (.goto 4, 3) := by decide +kernel
theorem dX13_nextDue_66 : decode cX13_nextDue 66 = .ok (.lload_n 1, 1) := by decide +kernel
theorem dX13_nextDue_67 : decode cX13_nextDue 67 = .ok (.lstore_n 1, 1) := by decide +kernel
theorem dX13_nextDue_68 : decode cX13_nextDue 68 = .ok (.iconst 4, 1) := by decide +kernel
theorem dX13_nextDue_69 : decode cX13_nextDue 69 = .ok (.iload_n 3, 1) := by decide +kernel
theorem dX13_nextDue_70 : decode cX13_nextDue 70 = .ok (.imul, 1) := by decide +kernel
theorem dX13_nextDue_71 : decode cX13_nextDue 71 = .ok (.istore 4, 2) := by decide +kernel
theorem dX13_nextDue_73 : decode cX13_nextDue 73 = .ok (.iload 4, 2) := by decide +kernel
theorem dX13_nextDue_75 : decode cX13_nextDue 75 = .ok (.iconst 4, 1) := by decide +kernel
theorem dX13_nextDue_76 : decode cX13_nextDue 76 = .ok (.iload_n 3, 1) := by decide +kernel
theorem dX13_nextDue_77 : decode cX13_nextDue 77 = .ok (.imul, 1) := by decide +kernel
theorem dX13_nextDue_78 : decode cX13_nextDue 78 = .ok (.iconst 4, 1) := by decide +kernel
theorem dX13_nextDue_79 : decode cX13_nextDue 79 = .ok (.iadd, 1) := by decide +kernel
theorem dX13_nextDue_80 : decode cX13_nextDue 80 = .ok (.if_icmp .ge 43, 3) := by decide +kernel
theorem dX13_nextDue_83 : decode cX13_nextDue 83 = .ok (.aload_n 0, 1) := by decide +kernel
theorem dX13_nextDue_84 : decode cX13_nextDue 84 = .ok (.getfield 81, 3) := by decide +kernel
theorem dX13_nextDue_87 : decode cX13_nextDue 87 = .ok (.iload 4, 2) := by decide +kernel
theorem dX13_nextDue_89 : decode cX13_nextDue 89 = .ok (.iaload, 1) := by decide +kernel
theorem dX13_nextDue_90 : decode cX13_nextDue 90 = .ok (.ifCond .le 25, 3) := by decide +kernel
theorem dX13_nextDue_93 : decode cX13_nextDue 93 = .ok (.aload_n 0, 1) := by decide +kernel
theorem dX13_nextDue_94 : decode cX13_nextDue 94 = .ok (.getfield 84, 3) := by decide +kernel
theorem dX13_nextDue_97 : decode cX13_nextDue 97 = .ok (.iload 4, 2) := by decide +kernel
theorem dX13_nextDue_99 : decode cX13_nextDue 99 = .ok (.laload, 1) := by decide +kernel
theorem dX13_nextDue_100 : decode cX13_nextDue 100 = .ok (.lload_n 1, 1) := by decide +kernel
theorem dX13_nextDue_101 : decode cX13_nextDue 101 = .ok (.lcmp, 1) := by decide +kernel
theorem dX13_nextDue_102 : decode cX13_nextDue 102 = .ok (.ifCond .ge 13, 3) := by decide +kernel
theorem dX13_nextDue_105 : decode cX13_nextDue 105 = .ok (.aload_n 0, 1) := by decide +kernel
theorem dX13_nextDue_106 : decode cX13_nextDue 106 = .ok (.getfield 84, 3) := by decide +kernel
theorem dX13_nextDue_109 : decode cX13_nextDue 109 = .ok (.iload 4, 2) := by decide +kernel
theorem dX13_nextDue_111 : decode cX13_nextDue 111 = .ok (.laload, 1) := by decide +kernel
theorem dX13_nextDue_112 : decode cX13_nextDue 112 = .ok (.goto 4, 3) := by decide +kernel
theorem dX13_nextDue_115 : decode cX13_nextDue 115 = .ok (.lload_n 1, 1) := by decide +kernel
theorem dX13_nextDue_116 : decode cX13_nextDue 116 = .ok (.lstore_n 1, 1) := by decide +kernel
theorem dX13_nextDue_117 : decode cX13_nextDue 117 = .ok (.iinc 4 1, 3) := by decide +kernel
theorem dX13_nextDue_120 : decode cX13_nextDue 120 = .ok (.goto (-47), 3) := by decide +kernel
theorem dX13_nextDue_123 : decode cX13_nextDue 123 = .ok (.iconst 4, 1) := by decide +kernel
theorem dX13_nextDue_124 : decode cX13_nextDue 124 = .ok (.iload_n 3, 1) := by decide +kernel
theorem dX13_nextDue_125 : decode cX13_nextDue 125 = .ok (.imul, 1) := by decide +kernel
theorem dX13_nextDue_126 : decode cX13_nextDue 126 = .ok (.istore 4, 2) := by decide +kernel
theorem dX13_nextDue_128 : decode cX13_nextDue 128 = .ok (.iload 4, 2) := by decide +kernel
theorem dX13_nextDue_130 : decode cX13_nextDue 130 = .ok (.iconst 4, 1) := by decide +kernel
theorem dX13_nextDue_131 : decode cX13_nextDue 131 = .ok (.iload_n 3, 1) := by decide +kernel
theorem dX13_nextDue_132 : decode cX13_nextDue 132 = .ok (.imul, 1) := by decide +kernel
theorem dX13_nextDue_133 : decode cX13_nextDue 133 = .ok (.aload_n 0, 1) := by decide +kernel
theorem dX13_nextDue_134 : decode cX13_nextDue 134 = .ok (.getfield 96, 3) := by decide +kernel
theorem dX13_nextDue_137 : decode cX13_nextDue 137 = .ok (.iload_n 3, 1) := by decide +kernel
theorem dX13_nextDue_138 : decode cX13_nextDue 138 = .ok (.iaload, 1) := by decide +kernel
theorem dX13_nextDue_139 : decode cX13_nextDue 139 = .ok (.iadd, 1) := by decide +kernel
theorem dX13_nextDue_140 : decode cX13_nextDue 140 = .ok (.if_icmp .ge 33, 3) := by decide +kernel
theorem dX13_nextDue_143 : decode cX13_nextDue 143 = .ok (.aload_n 0, 1) := by decide +kernel
theorem dX13_nextDue_144 : decode cX13_nextDue 144 = .ok (.getfield 93, 3) := by decide +kernel
theorem dX13_nextDue_147 : decode cX13_nextDue 147 = .ok (.iload 4, 2) := by decide +kernel
theorem dX13_nextDue_149 : decode cX13_nextDue 149 = .ok (.laload, 1) := by decide +kernel
theorem dX13_nextDue_150 : decode cX13_nextDue 150 = .ok (.lload_n 1, 1) := by decide +kernel
theorem dX13_nextDue_151 : decode cX13_nextDue 151 = .ok (.lcmp, 1) := by decide +kernel
theorem dX13_nextDue_152 : decode cX13_nextDue 152 = .ok (.ifCond .ge 13, 3) := by decide +kernel
theorem dX13_nextDue_155 : decode cX13_nextDue 155 = .ok (.aload_n 0, 1) := by decide +kernel
theorem dX13_nextDue_156 : decode cX13_nextDue 156 = .ok (.getfield 93, 3) := by decide +kernel
theorem dX13_nextDue_159 : decode cX13_nextDue 159 = .ok (.iload 4, 2) := by decide +kernel
theorem dX13_nextDue_161 : decode cX13_nextDue 161 = .ok (.laload, 1) := by decide +kernel
theorem dX13_nextDue_162 : decode cX13_nextDue 162 = .ok (.goto 4, 3) := by decide +kernel
theorem dX13_nextDue_165 : decode cX13_nextDue 165 = .ok (.lload_n 1, 1) := by decide +kernel
theorem dX13_nextDue_166 : decode cX13_nextDue 166 = .ok (.lstore_n 1, 1) := by decide +kernel
theorem dX13_nextDue_167 : decode cX13_nextDue 167 = .ok (.iinc 4 1, 3) := by decide +kernel
theorem dX13_nextDue_170 : decode cX13_nextDue 170 = .ok (.goto (-42), 3) := by decide +kernel
theorem dX13_nextDue_173 : decode cX13_nextDue 173 = .ok (.bipush 24, 2) := by decide +kernel
theorem dX13_nextDue_175 : decode cX13_nextDue 175 = .ok (.iload_n 3, 1) := by decide +kernel
theorem dX13_nextDue_176 : decode cX13_nextDue 176 = .ok (.imul, 1) := by decide +kernel
theorem dX13_nextDue_177 : decode cX13_nextDue 177 = .ok (.istore 4, 2) := by decide +kernel
theorem dX13_nextDue_179 : decode cX13_nextDue 179 = .ok (.iload 4, 2) := by decide +kernel
theorem dX13_nextDue_181 : decode cX13_nextDue 181 = .ok (.bipush 24, 2) := by decide +kernel
theorem dX13_nextDue_183 : decode cX13_nextDue 183 = .ok (.iload_n 3, 1) := by decide +kernel
theorem dX13_nextDue_184 : decode cX13_nextDue 184 = .ok (.imul, 1) := by decide +kernel
theorem dX13_nextDue_185 : decode cX13_nextDue 185 = .ok (.aload_n 0, 1) := by decide +kernel
theorem dX13_nextDue_186 : decode cX13_nextDue 186 = .ok (.getfield 99, 3) := by decide +kernel
theorem dX13_nextDue_189 : decode cX13_nextDue 189 = .ok (.iload_n 3, 1) := by decide +kernel
theorem dX13_nextDue_190 : decode cX13_nextDue 190 = .ok (.iaload, 1) := by decide +kernel
theorem dX13_nextDue_191 : decode cX13_nextDue 191 = .ok (.iadd, 1) := by decide +kernel
theorem dX13_nextDue_192 : decode cX13_nextDue 192 = .ok (.if_icmp .ge 31, 3) := by decide +kernel
theorem dX13_nextDue_195 : decode cX13_nextDue 195 = .ok (.aload_n 0, 1) := by decide +kernel
theorem dX13_nextDue_196 : decode cX13_nextDue 196 = .ok (.iload 4, 2) := by decide +kernel
theorem dX13_nextDue_198 : decode cX13_nextDue 198 = .ok (.invokevirtual 311, 3) := by decide +kernel
theorem dX13_nextDue_201 : decode cX13_nextDue 201 = .ok (.lload_n 1, 1) := by decide +kernel
theorem dX13_nextDue_202 : decode cX13_nextDue 202 = .ok (.lcmp, 1) := by decide +kernel
theorem dX13_nextDue_203 : decode cX13_nextDue 203 = .ok (.ifCond .ge 12, 3) := by decide +kernel
theorem dX13_nextDue_206 : decode cX13_nextDue 206 = .ok (.aload_n 0, 1) := by decide +kernel
theorem dX13_nextDue_207 : decode cX13_nextDue 207 = .ok (.iload 4, 2) := by decide +kernel
theorem dX13_nextDue_209 : decode cX13_nextDue 209 = .ok (.invokevirtual 311, 3) := by decide +kernel
theorem dX13_nextDue_212 : decode cX13_nextDue 212 = .ok (.goto 4, 3) := by decide +kernel
theorem dX13_nextDue_215 : decode cX13_nextDue 215 = .ok (.lload_n 1, 1) := by decide +kernel
theorem dX13_nextDue_216 : decode cX13_nextDue 216 = .ok (.lstore_n 1, 1) := by decide +kernel
theorem dX13_nextDue_217 : decode cX13_nextDue 217 = .ok (.iinc 4 1, 3) := by decide +kernel
theorem dX13_nextDue_220 : decode cX13_nextDue 220 = .ok (.goto (-41), 3) := by decide +kernel
theorem dX13_nextDue_223 : decode cX13_nextDue 223 = .ok (.iinc 3 1, 3) := by decide +kernel
theorem dX13_nextDue_226 : decode cX13_nextDue 226 = .ok (.goto (-220), 3) := by decide +kernel
theorem dX13_nextDue_229 : decode cX13_nextDue 229 = .ok (.lload_n 1, 1) := by decide +kernel
theorem dX13_nextDue_230 : decode cX13_nextDue 230 = .ok (.lreturn, 1) := by decide +kernel
theorem dL_law_0 : decode cL_law 0 = .ok (.new 8, 3) := by decide +kernel
theorem dL_law_3 : decode cL_law 3 = .ok (.dup, 1) := by decide +kernel
theorem dL_law_4 : decode cL_law 4 = .ok (.invokespecial 17, 3) := by decide +kernel
theorem dL_law_7 : decode cL_law 7 = .ok (.astore_n 1, 1) := by decide +kernel
theorem dL_law_8 : decode cL_law 8 = .ok (.new 18, 3) := by decide +kernel
theorem dL_law_11 : decode cL_law 11 = .ok (.dup, 1) := by decide +kernel
theorem dL_law_12 : decode cL_law 12 = .ok (.invokespecial 20, 3) := by decide +kernel
theorem dL_law_15 : decode cL_law 15 = .ok (.astore_n 2, 1) := by decide +kernel
theorem dL_law_16 : decode cL_law 16 = .ok (.iconst 1, 1) := by decide +kernel
theorem dL_law_17 : decode cL_law 17 = .ok (.newarray .long, 2) := by decide +kernel
theorem dL_law_19 : decode cL_law 19 = .ok (.astore_n 3, 1) := by decide +kernel
theorem dL_law_20 : decode cL_law 20 = .ok (.iconst 0, 1) := by decide +kernel
theorem dL_law_21 : decode cL_law 21 = .ok (.istore 4, 2) := by decide +kernel
theorem dL_law_23 : decode cL_law 23 = .ok (.iload 4, 2) := by decide +kernel
theorem dL_law_25 : decode cL_law 25 = .ok (.aload_n 0, 1) := by decide +kernel
theorem dL_law_26 : decode cL_law 26 = .ok (.arraylength, 1) := by decide +kernel
theorem dL_law_27 : decode cL_law 27 = .ok (.bipush 6, 2) := by decide +kernel
theorem dL_law_29 : decode cL_law 29 = .ok (.isub, 1) := by decide +kernel
theorem dL_law_30 : decode cL_law 30 = .ok (.if_icmp .gt 888, 3) := by decide +kernel
theorem dL_law_33 : decode cL_law 33 = .ok (.aload_n 0, 1) := by decide +kernel
theorem dL_law_34 : decode cL_law 34 = .ok (.iload 4, 2) := by decide +kernel
theorem dL_law_36 : decode cL_law 36 = .ok (.iaload, 1) := by decide +kernel
theorem dL_law_37 : decode cL_law 37 = .ok (.bipush 31, 2) := by decide +kernel
theorem dL_law_39 : decode cL_law 39 = .ok (.iand, 1) := by decide +kernel
theorem dL_law_40 : decode cL_law 40 = .ok (.tableswitch 872 0 20 #[100, 173, 198, 235, 288, 313, 350, 387, 424, 449, 472, 483, 520, 545, 613, 650, 687, 748, 797, 822, 847], 100) := by decide +kernel
theorem dL_law_140 : decode cL_law 140 = .ok (.aload_n 1, 1) := by decide +kernel
theorem dL_law_141 : decode cL_law 141 = .ok (.aload_n 0, 1) := by decide +kernel
theorem dL_law_142 : decode cL_law 142 = .ok (.iload 4, 2) := by decide +kernel
theorem dL_law_144 : decode cL_law 144 = .ok (.iconst 1, 1) := by decide +kernel
theorem dL_law_145 : decode cL_law 145 = .ok (.iadd, 1) := by decide +kernel
theorem dL_law_146 : decode cL_law 146 = .ok (.iaload, 1) := by decide +kernel
theorem dL_law_147 : decode cL_law 147 = .ok (.aload_n 0, 1) := by decide +kernel
theorem dL_law_148 : decode cL_law 148 = .ok (.iload 4, 2) := by decide +kernel
theorem dL_law_150 : decode cL_law 150 = .ok (.iconst 2, 1) := by decide +kernel
theorem dL_law_151 : decode cL_law 151 = .ok (.iadd, 1) := by decide +kernel
theorem dL_law_152 : decode cL_law 152 = .ok (.iaload, 1) := by decide +kernel
theorem dL_law_153 : decode cL_law 153 = .ok (.aload_n 0, 1) := by decide +kernel
theorem dL_law_154 : decode cL_law 154 = .ok (.iload 4, 2) := by decide +kernel
theorem dL_law_156 : decode cL_law 156 = .ok (.iconst 3, 1) := by decide +kernel
theorem dL_law_157 : decode cL_law 157 = .ok (.iadd, 1) := by decide +kernel
theorem dL_law_158 : decode cL_law 158 = .ok (.iaload, 1) := by decide +kernel
theorem dL_law_159 : decode cL_law 159 = .ok (.aload_n 0, 1) := by decide +kernel
theorem dL_law_160 : decode cL_law 160 = .ok (.iload 4, 2) := by decide +kernel
theorem dL_law_162 : decode cL_law 162 = .ok (.iconst 4, 1) := by decide +kernel
theorem dL_law_163 : decode cL_law 163 = .ok (.iadd, 1) := by decide +kernel
theorem dL_law_164 : decode cL_law 164 = .ok (.iaload, 1) := by decide +kernel
theorem dL_law_165 : decode cL_law 165 = .ok (.aload_n 0, 1) := by decide +kernel
theorem dL_law_166 : decode cL_law 166 = .ok (.iload 4, 2) := by decide +kernel
theorem dL_law_168 : decode cL_law 168 = .ok (.iconst 5, 1) := by decide +kernel
theorem dL_law_169 : decode cL_law 169 = .ok (.iadd, 1) := by decide +kernel
theorem dL_law_170 : decode cL_law 170 = .ok (.iaload, 1) := by decide +kernel
theorem dL_law_171 : decode cL_law 171 = .ok (.invokevirtual 21, 3) := by decide +kernel
theorem dL_law_174 : decode cL_law 174 = .ok (.aload_n 2, 1) := by decide +kernel
theorem dL_law_175 : decode cL_law 175 = .ok (.aload_n 0, 1) := by decide +kernel
theorem dL_law_176 : decode cL_law 176 = .ok (.iload 4, 2) := by decide +kernel
theorem dL_law_178 : decode cL_law 178 = .ok (.iconst 1, 1) := by decide +kernel
theorem dL_law_179 : decode cL_law 179 = .ok (.iadd, 1) := by decide +kernel
theorem dL_law_180 : decode cL_law 180 = .ok (.iaload, 1) := by decide +kernel
theorem dL_law_181 : decode cL_law 181 = .ok (.aload_n 0, 1) := by decide +kernel
theorem dL_law_182 : decode cL_law 182 = .ok (.iload 4, 2) := by decide +kernel
theorem dL_law_184 : decode cL_law 184 = .ok (.iconst 2, 1) := by decide +kernel
theorem dL_law_185 : decode cL_law 185 = .ok (.iadd, 1) := by decide +kernel
theorem dL_law_186 : decode cL_law 186 = .ok (.iaload, 1) := by decide +kernel
theorem dL_law_187 : decode cL_law 187 = .ok (.aload_n 0, 1) := by decide +kernel
theorem dL_law_188 : decode cL_law 188 = .ok (.iload 4, 2) := by decide +kernel
theorem dL_law_190 : decode cL_law 190 = .ok (.iconst 3, 1) := by decide +kernel
theorem dL_law_191 : decode cL_law 191 = .ok (.iadd, 1) := by decide +kernel
theorem dL_law_192 : decode cL_law 192 = .ok (.iaload, 1) := by decide +kernel
theorem dL_law_193 : decode cL_law 193 = .ok (.aload_n 0, 1) := by decide +kernel
theorem dL_law_194 : decode cL_law 194 = .ok (.iload 4, 2) := by decide +kernel
theorem dL_law_196 : decode cL_law 196 = .ok (.iconst 4, 1) := by decide +kernel
theorem dL_law_197 : decode cL_law 197 = .ok (.iadd, 1) := by decide +kernel
theorem dL_law_198 : decode cL_law 198 = .ok (.iaload, 1) := by decide +kernel
theorem dL_law_199 : decode cL_law 199 = .ok (.aload_n 0, 1) := by decide +kernel
theorem dL_law_200 : decode cL_law 200 = .ok (.iload 4, 2) := by decide +kernel
theorem dL_law_202 : decode cL_law 202 = .ok (.iconst 5, 1) := by decide +kernel
theorem dL_law_203 : decode cL_law 203 = .ok (.iadd, 1) := by decide +kernel
theorem dL_law_204 : decode cL_law 204 = .ok (.iaload, 1) := by decide +kernel
theorem dL_law_205 : decode cL_law 205 = .ok (.invokevirtual 25, 3) := by decide +kernel
theorem dL_law_208 : decode cL_law 208 = .ok (.if_icmp .eq 704, 3) := by decide +kernel
theorem dL_law_211 : decode cL_law 211 = .ok (.iconst 0, 1) := by decide +kernel
theorem dL_law_212 : decode cL_law 212 = .ok (.ireturn, 1) := by decide +kernel
theorem dL_law_213 : decode cL_law 213 = .ok (.aload_n 1, 1) := by decide +kernel
theorem dL_law_214 : decode cL_law 214 = .ok (.aload_n 0, 1) := by decide +kernel
theorem dL_law_215 : decode cL_law 215 = .ok (.iload 4, 2) := by decide +kernel
theorem dL_law_217 : decode cL_law 217 = .ok (.iconst 1, 1) := by decide +kernel
theorem dL_law_218 : decode cL_law 218 = .ok (.iadd, 1) := by decide +kernel
theorem dL_law_219 : decode cL_law 219 = .ok (.iaload, 1) := by decide +kernel
theorem dL_law_220 : decode cL_law 220 = .ok (.invokevirtual 26, 3) := by decide +kernel
theorem dL_law_223 : decode cL_law 223 = .ok (.aload_n 2, 1) := by decide +kernel
theorem dL_law_224 : decode cL_law 224 = .ok (.aload_n 0, 1) := by decide +kernel
theorem dL_law_225 : decode cL_law 225 = .ok (.iload 4, 2) := by decide +kernel
theorem dL_law_227 : decode cL_law 227 = .ok (.iconst 1, 1) := by decide +kernel
theorem dL_law_228 : decode cL_law 228 = .ok (.iadd, 1) := by decide +kernel
theorem dL_law_229 : decode cL_law 229 = .ok (.iaload, 1) := by decide +kernel
theorem dL_law_230 : decode cL_law 230 = .ok (.invokevirtual 30, 3) := by decide +kernel
theorem dL_law_233 : decode cL_law 233 = .ok (.if_icmp .eq 679, 3) := by decide +kernel
theorem dL_law_236 : decode cL_law 236 = .ok (.iconst 0, 1) := by decide +kernel
theorem dL_law_237 : decode cL_law 237 = .ok (.ireturn, 1) := by decide +kernel
theorem dL_law_238 : decode cL_law 238 = .ok (.aload_n 1, 1) := by decide +kernel
theorem dL_law_239 : decode cL_law 239 = .ok (.aload_n 0, 1) := by decide +kernel
theorem dL_law_240 : decode cL_law 240 = .ok (.iload 4, 2) := by decide +kernel
theorem dL_law_242 : decode cL_law 242 = .ok (.iconst 1, 1) := by decide +kernel
theorem dL_law_243 : decode cL_law 243 = .ok (.iadd, 1) := by decide +kernel
theorem dL_law_244 : decode cL_law 244 = .ok (.iaload, 1) := by decide +kernel
theorem dL_law_245 : decode cL_law 245 = .ok (.aload_n 0, 1) := by decide +kernel
theorem dL_law_246 : decode cL_law 246 = .ok (.iload 4, 2) := by decide +kernel
theorem dL_law_248 : decode cL_law 248 = .ok (.iconst 2, 1) := by decide +kernel
theorem dL_law_249 : decode cL_law 249 = .ok (.iadd, 1) := by decide +kernel
theorem dL_law_250 : decode cL_law 250 = .ok (.iaload, 1) := by decide +kernel
theorem dL_law_251 : decode cL_law 251 = .ok (.invokevirtual 31, 3) := by decide +kernel
theorem dL_law_254 : decode cL_law 254 = .ok (.aload_n 2, 1) := by decide +kernel
theorem dL_law_255 : decode cL_law 255 = .ok (.aload_n 0, 1) := by decide +kernel
theorem dL_law_256 : decode cL_law 256 = .ok (.iload 4, 2) := by decide +kernel
theorem dL_law_258 : decode cL_law 258 = .ok (.iconst 1, 1) := by decide +kernel
theorem dL_law_259 : decode cL_law 259 = .ok (.iadd, 1) := by decide +kernel
theorem dL_law_260 : decode cL_law 260 = .ok (.iaload, 1) := by decide +kernel
theorem dL_law_261 : decode cL_law 261 = .ok (.aload_n 0, 1) := by decide +kernel
theorem dL_law_262 : decode cL_law 262 = .ok (.iload 4, 2) := by decide +kernel
theorem dL_law_264 : decode cL_law 264 = .ok (.iconst 2, 1) := by decide +kernel
theorem dL_law_265 : decode cL_law 265 = .ok (.iadd, 1) := by decide +kernel
theorem dL_law_266 : decode cL_law 266 = .ok (.iaload, 1) := by decide +kernel
theorem dL_law_267 : decode cL_law 267 = .ok (.invokevirtual 35, 3) := by decide +kernel
theorem dL_law_270 : decode cL_law 270 = .ok (.if_icmp .eq 642, 3) := by decide +kernel
theorem dL_law_273 : decode cL_law 273 = .ok (.iconst 0, 1) := by decide +kernel
theorem dL_law_274 : decode cL_law 274 = .ok (.ireturn, 1) := by decide +kernel
theorem dL_law_275 : decode cL_law 275 = .ok (.aload_n 1, 1) := by decide +kernel
theorem dL_law_276 : decode cL_law 276 = .ok (.aload_n 0, 1) := by decide +kernel
theorem dL_law_277 : decode cL_law 277 = .ok (.iload 4, 2) := by decide +kernel
theorem dL_law_279 : decode cL_law 279 = .ok (.iconst 1, 1) := by decide +kernel
theorem dL_law_280 : decode cL_law 280 = .ok (.iadd, 1) := by decide +kernel
theorem dL_law_281 : decode cL_law 281 = .ok (.iaload, 1) := by decide +kernel
theorem dL_law_282 : decode cL_law 282 = .ok (.aload_n 0, 1) := by decide +kernel
theorem dL_law_283 : decode cL_law 283 = .ok (.iload 4, 2) := by decide +kernel
theorem dL_law_285 : decode cL_law 285 = .ok (.iconst 2, 1) := by decide +kernel
theorem dL_law_286 : decode cL_law 286 = .ok (.iadd, 1) := by decide +kernel
theorem dL_law_287 : decode cL_law 287 = .ok (.iaload, 1) := by decide +kernel
theorem dL_law_288 : decode cL_law 288 = .ok (.ifCond .eq 7, 3) := by decide +kernel
theorem dL_law_291 : decode cL_law 291 = .ok (.iconst 1, 1) := by decide +kernel
theorem dL_law_292 : decode cL_law 292 = .ok (.goto 4, 3) := by decide +kernel
theorem dL_law_295 : decode cL_law 295 = .ok (.iconst 0, 1) := by decide +kernel
theorem dL_law_296 : decode cL_law 296 = .ok (.invokevirtual 36, 3) := by decide +kernel
theorem dL_law_299 : decode cL_law 299 = .ok (.aload_n 2, 1) := by decide +kernel
theorem dL_law_300 : decode cL_law 300 = .ok (.aload_n 0, 1) := by decide +kernel
theorem dL_law_301 : decode cL_law 301 = .ok (.iload 4, 2) := by decide +kernel
theorem dL_law_303 : decode cL_law 303 = .ok (.iconst 1, 1) := by decide +kernel
theorem dL_law_304 : decode cL_law 304 = .ok (.iadd, 1) := by decide +kernel
theorem dL_law_305 : decode cL_law 305 = .ok (.iaload, 1) := by decide +kernel
theorem dL_law_306 : decode cL_law 306 = .ok (.aload_n 0, 1) := by decide +kernel
theorem dL_law_307 : decode cL_law 307 = .ok (.iload 4, 2) := by decide +kernel
theorem dL_law_309 : decode cL_law 309 = .ok (.iconst 2, 1) := by decide +kernel
theorem dL_law_310 : decode cL_law 310 = .ok (.iadd, 1) := by decide +kernel
theorem dL_law_311 : decode cL_law 311 = .ok (.iaload, 1) := by decide +kernel
theorem dL_law_312 : decode cL_law 312 = .ok (.ifCond .eq 7, 3) := by decide +kernel
theorem dL_law_315 : decode cL_law 315 = .ok (.iconst 1, 1) := by decide +kernel
theorem dL_law_316 : decode cL_law 316 = .ok (.goto 4, 3) := by decide +kernel
theorem dL_law_319 : decode cL_law 319 = .ok (.iconst 0, 1) := by decide +kernel
theorem dL_law_320 : decode cL_law 320 = .ok (.invokevirtual 40, 3) := by decide +kernel
theorem dL_law_323 : decode cL_law 323 = .ok (.if_icmp .eq 589, 3) := by decide +kernel
theorem dL_law_326 : decode cL_law 326 = .ok (.iconst 0, 1) := by decide +kernel
theorem dL_law_327 : decode cL_law 327 = .ok (.ireturn, 1) := by decide +kernel
theorem dL_law_328 : decode cL_law 328 = .ok (.aload_n 1, 1) := by decide +kernel
theorem dL_law_329 : decode cL_law 329 = .ok (.aload_n 0, 1) := by decide +kernel
theorem dL_law_330 : decode cL_law 330 = .ok (.iload 4, 2) := by decide +kernel
theorem dL_law_332 : decode cL_law 332 = .ok (.iconst 1, 1) := by decide +kernel
theorem dL_law_333 : decode cL_law 333 = .ok (.iadd, 1) := by decide +kernel
theorem dL_law_334 : decode cL_law 334 = .ok (.iaload, 1) := by decide +kernel
theorem dL_law_335 : decode cL_law 335 = .ok (.invokevirtual 41, 3) := by decide +kernel
theorem dL_law_338 : decode cL_law 338 = .ok (.aload_n 2, 1) := by decide +kernel
theorem dL_law_339 : decode cL_law 339 = .ok (.aload_n 0, 1) := by decide +kernel
theorem dL_law_340 : decode cL_law 340 = .ok (.iload 4, 2) := by decide +kernel
theorem dL_law_342 : decode cL_law 342 = .ok (.iconst 1, 1) := by decide +kernel
theorem dL_law_343 : decode cL_law 343 = .ok (.iadd, 1) := by decide +kernel
theorem dL_law_344 : decode cL_law 344 = .ok (.iaload, 1) := by decide +kernel
theorem dL_law_345 : decode cL_law 345 = .ok (.invokevirtual 45, 3) := by decide +kernel
theorem dL_law_348 : decode cL_law 348 = .ok (.if_icmp .eq 564, 3) := by decide +kernel
theorem dL_law_351 : decode cL_law 351 = .ok (.iconst 0, 1) := by decide +kernel
theorem dL_law_352 : decode cL_law 352 = .ok (.ireturn, 1) := by decide +kernel
theorem dL_law_353 : decode cL_law 353 = .ok (.aload_n 1, 1) := by decide +kernel
theorem dL_law_354 : decode cL_law 354 = .ok (.aload_n 0, 1) := by decide +kernel
theorem dL_law_355 : decode cL_law 355 = .ok (.iload 4, 2) := by decide +kernel
theorem dL_law_357 : decode cL_law 357 = .ok (.iconst 1, 1) := by decide +kernel
theorem dL_law_358 : decode cL_law 358 = .ok (.iadd, 1) := by decide +kernel
theorem dL_law_359 : decode cL_law 359 = .ok (.iaload, 1) := by decide +kernel
theorem dL_law_360 : decode cL_law 360 = .ok (.aload_n 0, 1) := by decide +kernel
theorem dL_law_361 : decode cL_law 361 = .ok (.iload 4, 2) := by decide +kernel
theorem dL_law_363 : decode cL_law 363 = .ok (.iconst 2, 1) := by decide +kernel
theorem dL_law_364 : decode cL_law 364 = .ok (.iadd, 1) := by decide +kernel
theorem dL_law_365 : decode cL_law 365 = .ok (.iaload, 1) := by decide +kernel
theorem dL_law_366 : decode cL_law 366 = .ok (.invokevirtual 46, 3) := by decide +kernel
theorem dL_law_369 : decode cL_law 369 = .ok (.aload_n 2, 1) := by decide +kernel
theorem dL_law_370 : decode cL_law 370 = .ok (.aload_n 0, 1) := by decide +kernel
theorem dL_law_371 : decode cL_law 371 = .ok (.iload 4, 2) := by decide +kernel
theorem dL_law_373 : decode cL_law 373 = .ok (.iconst 1, 1) := by decide +kernel
theorem dL_law_374 : decode cL_law 374 = .ok (.iadd, 1) := by decide +kernel
theorem dL_law_375 : decode cL_law 375 = .ok (.iaload, 1) := by decide +kernel
theorem dL_law_376 : decode cL_law 376 = .ok (.aload_n 0, 1) := by decide +kernel
theorem dL_law_377 : decode cL_law 377 = .ok (.iload 4, 2) := by decide +kernel
theorem dL_law_379 : decode cL_law 379 = .ok (.iconst 2, 1) := by decide +kernel
theorem dL_law_380 : decode cL_law 380 = .ok (.iadd, 1) := by decide +kernel
theorem dL_law_381 : decode cL_law 381 = .ok (.iaload, 1) := by decide +kernel
theorem dL_law_382 : decode cL_law 382 = .ok (.invokevirtual 49, 3) := by decide +kernel
theorem dL_law_385 : decode cL_law 385 = .ok (.if_icmp .eq 527, 3) := by decide +kernel
theorem dL_law_388 : decode cL_law 388 = .ok (.iconst 0, 1) := by decide +kernel
theorem dL_law_389 : decode cL_law 389 = .ok (.ireturn, 1) := by decide +kernel
theorem dL_law_390 : decode cL_law 390 = .ok (.aload_n 1, 1) := by decide +kernel
theorem dL_law_391 : decode cL_law 391 = .ok (.aload_n 0, 1) := by decide +kernel
theorem dL_law_392 : decode cL_law 392 = .ok (.iload 4, 2) := by decide +kernel
theorem dL_law_394 : decode cL_law 394 = .ok (.iconst 1, 1) := by decide +kernel
theorem dL_law_395 : decode cL_law 395 = .ok (.iadd, 1) := by decide +kernel
theorem dL_law_396 : decode cL_law 396 = .ok (.iaload, 1) := by decide +kernel
theorem dL_law_397 : decode cL_law 397 = .ok (.aload_n 0, 1) := by decide +kernel
theorem dL_law_398 : decode cL_law 398 = .ok (.iload 4, 2) := by decide +kernel
theorem dL_law_400 : decode cL_law 400 = .ok (.iconst 2, 1) := by decide +kernel
theorem dL_law_401 : decode cL_law 401 = .ok (.iadd, 1) := by decide +kernel
theorem dL_law_402 : decode cL_law 402 = .ok (.iaload, 1) := by decide +kernel
theorem dL_law_403 : decode cL_law 403 = .ok (.invokevirtual 50, 3) := by decide +kernel
theorem dL_law_406 : decode cL_law 406 = .ok (.aload_n 2, 1) := by decide +kernel
theorem dL_law_407 : decode cL_law 407 = .ok (.aload_n 0, 1) := by decide +kernel
theorem dL_law_408 : decode cL_law 408 = .ok (.iload 4, 2) := by decide +kernel
theorem dL_law_410 : decode cL_law 410 = .ok (.iconst 1, 1) := by decide +kernel
theorem dL_law_411 : decode cL_law 411 = .ok (.iadd, 1) := by decide +kernel
theorem dL_law_412 : decode cL_law 412 = .ok (.iaload, 1) := by decide +kernel
theorem dL_law_413 : decode cL_law 413 = .ok (.aload_n 0, 1) := by decide +kernel
theorem dL_law_414 : decode cL_law 414 = .ok (.iload 4, 2) := by decide +kernel
theorem dL_law_416 : decode cL_law 416 = .ok (.iconst 2, 1) := by decide +kernel
theorem dL_law_417 : decode cL_law 417 = .ok (.iadd, 1) := by decide +kernel
theorem dL_law_418 : decode cL_law 418 = .ok (.iaload, 1) := by decide +kernel
theorem dL_law_419 : decode cL_law 419 = .ok (.invokevirtual 53, 3) := by decide +kernel
theorem dL_law_422 : decode cL_law 422 = .ok (.if_icmp .eq 490, 3) := by decide +kernel
theorem dL_law_425 : decode cL_law 425 = .ok (.iconst 0, 1) := by decide +kernel
theorem dL_law_426 : decode cL_law 426 = .ok (.ireturn, 1) := by decide +kernel
theorem dL_law_427 : decode cL_law 427 = .ok (.aload_n 1, 1) := by decide +kernel
theorem dL_law_428 : decode cL_law 428 = .ok (.aload_n 0, 1) := by decide +kernel
theorem dL_law_429 : decode cL_law 429 = .ok (.iload 4, 2) := by decide +kernel
theorem dL_law_431 : decode cL_law 431 = .ok (.iconst 1, 1) := by decide +kernel
theorem dL_law_432 : decode cL_law 432 = .ok (.iadd, 1) := by decide +kernel
theorem dL_law_433 : decode cL_law 433 = .ok (.iaload, 1) := by decide +kernel
theorem dL_law_434 : decode cL_law 434 = .ok (.aload_n 0, 1) := by decide +kernel
theorem dL_law_435 : decode cL_law 435 = .ok (.iload 4, 2) := by decide +kernel
theorem dL_law_437 : decode cL_law 437 = .ok (.iconst 2, 1) := by decide +kernel
theorem dL_law_438 : decode cL_law 438 = .ok (.iadd, 1) := by decide +kernel
theorem dL_law_439 : decode cL_law 439 = .ok (.iaload, 1) := by decide +kernel
theorem dL_law_440 : decode cL_law 440 = .ok (.invokevirtual 54, 3) := by decide +kernel
theorem dL_law_443 : decode cL_law 443 = .ok (.aload_n 2, 1) := by decide +kernel
theorem dL_law_444 : decode cL_law 444 = .ok (.aload_n 0, 1) := by decide +kernel
theorem dL_law_445 : decode cL_law 445 = .ok (.iload 4, 2) := by decide +kernel
theorem dL_law_447 : decode cL_law 447 = .ok (.iconst 1, 1) := by decide +kernel
theorem dL_law_448 : decode cL_law 448 = .ok (.iadd, 1) := by decide +kernel
theorem dL_law_449 : decode cL_law 449 = .ok (.iaload, 1) := by decide +kernel
theorem dL_law_450 : decode cL_law 450 = .ok (.aload_n 0, 1) := by decide +kernel
theorem dL_law_451 : decode cL_law 451 = .ok (.iload 4, 2) := by decide +kernel
theorem dL_law_453 : decode cL_law 453 = .ok (.iconst 2, 1) := by decide +kernel
theorem dL_law_454 : decode cL_law 454 = .ok (.iadd, 1) := by decide +kernel
theorem dL_law_455 : decode cL_law 455 = .ok (.iaload, 1) := by decide +kernel
theorem dL_law_456 : decode cL_law 456 = .ok (.invokevirtual 57, 3) := by decide +kernel
theorem dL_law_459 : decode cL_law 459 = .ok (.if_icmp .eq 453, 3) := by decide +kernel
theorem dL_law_462 : decode cL_law 462 = .ok (.iconst 0, 1) := by decide +kernel
theorem dL_law_463 : decode cL_law 463 = .ok (.ireturn, 1) := by decide +kernel
theorem dL_law_464 : decode cL_law 464 = .ok (.aload_n 1, 1) := by decide +kernel
theorem dL_law_465 : decode cL_law 465 = .ok (.aload_n 0, 1) := by decide +kernel
theorem dL_law_466 : decode cL_law 466 = .ok (.iload 4, 2) := by decide +kernel
theorem dL_law_468 : decode cL_law 468 = .ok (.iconst 1, 1) := by decide +kernel
theorem dL_law_469 : decode cL_law 469 = .ok (.iadd, 1) := by decide +kernel
theorem dL_law_470 : decode cL_law 470 = .ok (.iaload, 1) := by decide +kernel
theorem dL_law_471 : decode cL_law 471 = .ok (.invokevirtual 58, 3) := by decide +kernel
theorem dL_law_474 : decode cL_law 474 = .ok (.aload_n 2, 1) := by decide +kernel
theorem dL_law_475 : decode cL_law 475 = .ok (.aload_n 0, 1) := by decide +kernel
theorem dL_law_476 : decode cL_law 476 = .ok (.iload 4, 2) := by decide +kernel
theorem dL_law_478 : decode cL_law 478 = .ok (.iconst 1, 1) := by decide +kernel
theorem dL_law_479 : decode cL_law 479 = .ok (.iadd, 1) := by decide +kernel
theorem dL_law_480 : decode cL_law 480 = .ok (.iaload, 1) := by decide +kernel
theorem dL_law_481 : decode cL_law 481 = .ok (.invokevirtual 61, 3) := by decide +kernel
theorem dL_law_484 : decode cL_law 484 = .ok (.if_icmp .eq 428, 3) := by decide +kernel
theorem dL_law_487 : decode cL_law 487 = .ok (.iconst 0, 1) := by decide +kernel
theorem dL_law_488 : decode cL_law 488 = .ok (.ireturn, 1) := by decide +kernel
theorem dL_law_489 : decode cL_law 489 = .ok (.aload_n 1, 1) := by decide +kernel
theorem dL_law_490 : decode cL_law 490 = .ok (.aload_n 0, 1) := by decide +kernel
theorem dL_law_491 : decode cL_law 491 = .ok (.iload 4, 2) := by decide +kernel
theorem dL_law_493 : decode cL_law 493 = .ok (.iconst 1, 1) := by decide +kernel
theorem dL_law_494 : decode cL_law 494 = .ok (.iadd, 1) := by decide +kernel
theorem dL_law_495 : decode cL_law 495 = .ok (.iaload, 1) := by decide +kernel
theorem dL_law_496 : decode cL_law 496 = .ok (.invokevirtual 62, 3) := by decide +kernel
theorem dL_law_499 : decode cL_law 499 = .ok (.aload_n 2, 1) := by decide +kernel
theorem dL_law_500 : decode cL_law 500 = .ok (.aload_n 0, 1) := by decide +kernel
theorem dL_law_501 : decode cL_law 501 = .ok (.iload 4, 2) := by decide +kernel
theorem dL_law_503 : decode cL_law 503 = .ok (.iconst 1, 1) := by decide +kernel
theorem dL_law_504 : decode cL_law 504 = .ok (.iadd, 1) := by decide +kernel
theorem dL_law_505 : decode cL_law 505 = .ok (.iaload, 1) := by decide +kernel
theorem dL_law_506 : decode cL_law 506 = .ok (.invokevirtual 66, 3) := by decide +kernel
theorem dL_law_509 : decode cL_law 509 = .ok (.goto 403, 3) := by decide +kernel
theorem dL_law_512 : decode cL_law 512 = .ok (.aload_n 1, 1) := by decide +kernel
theorem dL_law_513 : decode cL_law 513 = .ok (.invokevirtual 67, 3) := by decide +kernel
theorem dL_law_516 : decode cL_law 516 = .ok (.aload_n 2, 1) := by decide +kernel
theorem dL_law_517 : decode cL_law 517 = .ok (.invokevirtual 70, 3) := by decide +kernel
theorem dL_law_520 : decode cL_law 520 = .ok (.goto 392, 3) := by decide +kernel
theorem dL_law_523 : decode cL_law 523 = .ok (.aload_n 1, 1) := by decide +kernel
theorem dL_law_524 : decode cL_law 524 = .ok (.aload_n 0, 1) := by decide +kernel
theorem dL_law_525 : decode cL_law 525 = .ok (.iload 4, 2) := by decide +kernel
theorem dL_law_527 : decode cL_law 527 = .ok (.iconst 1, 1) := by decide +kernel
theorem dL_law_528 : decode cL_law 528 = .ok (.iadd, 1) := by decide +kernel
theorem dL_law_529 : decode cL_law 529 = .ok (.iaload, 1) := by decide +kernel
theorem dL_law_530 : decode cL_law 530 = .ok (.aload_n 0, 1) := by decide +kernel
theorem dL_law_531 : decode cL_law 531 = .ok (.iload 4, 2) := by decide +kernel
theorem dL_law_533 : decode cL_law 533 = .ok (.iconst 2, 1) := by decide +kernel
theorem dL_law_534 : decode cL_law 534 = .ok (.iadd, 1) := by decide +kernel
theorem dL_law_535 : decode cL_law 535 = .ok (.iaload, 1) := by decide +kernel
theorem dL_law_536 : decode cL_law 536 = .ok (.invokevirtual 71, 3) := by decide +kernel
theorem dL_law_539 : decode cL_law 539 = .ok (.aload_n 2, 1) := by decide +kernel
theorem dL_law_540 : decode cL_law 540 = .ok (.aload_n 0, 1) := by decide +kernel
theorem dL_law_541 : decode cL_law 541 = .ok (.iload 4, 2) := by decide +kernel
theorem dL_law_543 : decode cL_law 543 = .ok (.iconst 1, 1) := by decide +kernel
theorem dL_law_544 : decode cL_law 544 = .ok (.iadd, 1) := by decide +kernel
theorem dL_law_545 : decode cL_law 545 = .ok (.iaload, 1) := by decide +kernel
end
section
theorem dL_law_546 : decode cL_law 546 = .ok (.aload_n 0, 1) := by decide +kernel
theorem dL_law_547 : decode cL_law 547 = .ok (.iload 4, 2) := by decide +kernel
theorem dL_law_549 : decode cL_law 549 = .ok (.iconst 2, 1) := by decide +kernel
theorem dL_law_550 : decode cL_law 550 = .ok (.iadd, 1) := by decide +kernel
theorem dL_law_551 : decode cL_law 551 = .ok (.iaload, 1) := by decide +kernel
theorem dL_law_552 : decode cL_law 552 = .ok (.invokevirtual 74, 3) := by decide +kernel
theorem dL_law_555 : decode cL_law 555 = .ok (.if_icmp .eq 357, 3) := by decide +kernel
theorem dL_law_558 : decode cL_law 558 = .ok (.iconst 0, 1) := by decide +kernel
theorem dL_law_559 : decode cL_law 559 = .ok (.ireturn, 1) := by decide +kernel
theorem dL_law_560 : decode cL_law 560 = .ok (.aload_n 1, 1) := by decide +kernel
theorem dL_law_561 : decode cL_law 561 = .ok (.aload_n 0, 1) := by decide +kernel
theorem dL_law_562 : decode cL_law 562 = .ok (.iload 4, 2) := by decide +kernel
theorem dL_law_564 : decode cL_law 564 = .ok (.iconst 1, 1) := by decide +kernel
theorem dL_law_565 : decode cL_law 565 = .ok (.iadd, 1) := by decide +kernel
theorem dL_law_566 : decode cL_law 566 = .ok (.iaload, 1) := by decide +kernel
theorem dL_law_567 : decode cL_law 567 = .ok (.invokevirtual 75, 3) := by decide +kernel
theorem dL_law_570 : decode cL_law 570 = .ok (.aload_n 2, 1) := by decide +kernel
theorem dL_law_571 : decode cL_law 571 = .ok (.aload_n 0, 1) := by decide +kernel
theorem dL_law_572 : decode cL_law 572 = .ok (.iload 4, 2) := by decide +kernel
theorem dL_law_574 : decode cL_law 574 = .ok (.iconst 1, 1) := by decide +kernel
theorem dL_law_575 : decode cL_law 575 = .ok (.iadd, 1) := by decide +kernel
theorem dL_law_576 : decode cL_law 576 = .ok (.iaload, 1) := by decide +kernel
theorem dL_law_577 : decode cL_law 577 = .ok (.invokevirtual 78, 3) := by decide +kernel
theorem dL_law_580 : decode cL_law 580 = .ok (.if_icmp .eq 332, 3) := by decide +kernel
theorem dL_law_583 : decode cL_law 583 = .ok (.iconst 0, 1) := by decide +kernel
theorem dL_law_584 : decode cL_law 584 = .ok (.ireturn, 1) := by decide +kernel
theorem dL_law_585 : decode cL_law 585 = .ok (.aload_n 1, 1) := by decide +kernel
theorem dL_law_586 : decode cL_law 586 = .ok (.aload_n 0, 1) := by decide +kernel
theorem dL_law_587 : decode cL_law 587 = .ok (.iload 4, 2) := by decide +kernel
theorem dL_law_589 : decode cL_law 589 = .ok (.iconst 1, 1) := by decide +kernel
theorem dL_law_590 : decode cL_law 590 = .ok (.iadd, 1) := by decide +kernel
theorem dL_law_591 : decode cL_law 591 = .ok (.iaload, 1) := by decide +kernel
theorem dL_law_592 : decode cL_law 592 = .ok (.aload_n 0, 1) := by decide +kernel
theorem dL_law_593 : decode cL_law 593 = .ok (.iload 4, 2) := by decide +kernel
theorem dL_law_595 : decode cL_law 595 = .ok (.iconst 2, 1) := by decide +kernel
theorem dL_law_596 : decode cL_law 596 = .ok (.iadd, 1) := by decide +kernel
theorem dL_law_597 : decode cL_law 597 = .ok (.iaload, 1) := by decide +kernel
theorem dL_law_598 : decode cL_law 598 = .ok (.aload_n 3, 1) := by decide +kernel
theorem dL_law_599 : decode cL_law 599 = .ok (.invokestatic 79, 3) := by decide +kernel
theorem dL_law_602 : decode cL_law 602 = .ok (.istore 5, 2) := by decide +kernel
theorem dL_law_604 : decode cL_law 604 = .ok (.aload_n 2, 1) := by decide +kernel
theorem dL_law_605 : decode cL_law 605 = .ok (.aload_n 0, 1) := by decide +kernel
theorem dL_law_606 : decode cL_law 606 = .ok (.iload 4, 2) := by decide +kernel
theorem dL_law_608 : decode cL_law 608 = .ok (.iconst 1, 1) := by decide +kernel
theorem dL_law_609 : decode cL_law 609 = .ok (.iadd, 1) := by decide +kernel
theorem dL_law_610 : decode cL_law 610 = .ok (.iaload, 1) := by decide +kernel
theorem dL_law_611 : decode cL_law 611 = .ok (.aload_n 0, 1) := by decide +kernel
theorem dL_law_612 : decode cL_law 612 = .ok (.iload 4, 2) := by decide +kernel
theorem dL_law_614 : decode cL_law 614 = .ok (.iconst 2, 1) := by decide +kernel
theorem dL_law_615 : decode cL_law 615 = .ok (.iadd, 1) := by decide +kernel
theorem dL_law_616 : decode cL_law 616 = .ok (.iaload, 1) := by decide +kernel
theorem dL_law_617 : decode cL_law 617 = .ok (.invokevirtual 84, 3) := by decide +kernel
theorem dL_law_620 : decode cL_law 620 = .ok (.istore 6, 2) := by decide +kernel
theorem dL_law_622 : decode cL_law 622 = .ok (.aload_n 2, 1) := by decide +kernel
theorem dL_law_623 : decode cL_law 623 = .ok (.invokevirtual 85, 3) := by decide +kernel
theorem dL_law_626 : decode cL_law 626 = .ok (.iload 5, 2) := by decide +kernel
theorem dL_law_628 : decode cL_law 628 = .ok (.if_icmp .eq 5, 3) := by decide +kernel
theorem dL_law_631 : decode cL_law 631 = .ok (.iconst 0, 1) := by decide +kernel
theorem dL_law_632 : decode cL_law 632 = .ok (.ireturn, 1) := by decide +kernel
theorem dL_law_633 : decode cL_law 633 = .ok (.iload 5, 2) := by decide +kernel
theorem dL_law_635 : decode cL_law 635 = .ok (.ifCond .ne 15, 3) := by decide +kernel
theorem dL_law_638 : decode cL_law 638 = .ok (.aload_n 3, 1) := by decide +kernel
theorem dL_law_639 : decode cL_law 639 = .ok (.iconst 0, 1) := by decide +kernel
theorem dL_law_640 : decode cL_law 640 = .ok (.laload, 1) := by decide +kernel
theorem dL_law_641 : decode cL_law 641 = .ok (.iload 6, 2) := by decide +kernel
theorem dL_law_643 : decode cL_law 643 = .ok (.i2l, 1) := by decide +kernel
theorem dL_law_644 : decode cL_law 644 = .ok (.lcmp, 1) := by decide +kernel
theorem dL_law_645 : decode cL_law 645 = .ok (.ifCond .eq 5, 3) := by decide +kernel
theorem dL_law_648 : decode cL_law 648 = .ok (.iconst 0, 1) := by decide +kernel
theorem dL_law_649 : decode cL_law 649 = .ok (.ireturn, 1) := by decide +kernel
theorem dL_law_650 : decode cL_law 650 = .ok (.goto 262, 3) := by decide +kernel
theorem dL_law_653 : decode cL_law 653 = .ok (.aload_n 1, 1) := by decide +kernel
theorem dL_law_654 : decode cL_law 654 = .ok (.aload_n 0, 1) := by decide +kernel
theorem dL_law_655 : decode cL_law 655 = .ok (.iload 4, 2) := by decide +kernel
theorem dL_law_657 : decode cL_law 657 = .ok (.iconst 1, 1) := by decide +kernel
theorem dL_law_658 : decode cL_law 658 = .ok (.iadd, 1) := by decide +kernel
theorem dL_law_659 : decode cL_law 659 = .ok (.iaload, 1) := by decide +kernel
theorem dL_law_660 : decode cL_law 660 = .ok (.aload_n 0, 1) := by decide +kernel
theorem dL_law_661 : decode cL_law 661 = .ok (.iload 4, 2) := by decide +kernel
theorem dL_law_663 : decode cL_law 663 = .ok (.iconst 2, 1) := by decide +kernel
theorem dL_law_664 : decode cL_law 664 = .ok (.iadd, 1) := by decide +kernel
theorem dL_law_665 : decode cL_law 665 = .ok (.iaload, 1) := by decide +kernel
theorem dL_law_666 : decode cL_law 666 = .ok (.invokevirtual 89, 3) := by decide +kernel
theorem dL_law_669 : decode cL_law 669 = .ok (.aload_n 2, 1) := by decide +kernel
theorem dL_law_670 : decode cL_law 670 = .ok (.aload_n 0, 1) := by decide +kernel
theorem dL_law_671 : decode cL_law 671 = .ok (.iload 4, 2) := by decide +kernel
theorem dL_law_673 : decode cL_law 673 = .ok (.iconst 1, 1) := by decide +kernel
theorem dL_law_674 : decode cL_law 674 = .ok (.iadd, 1) := by decide +kernel
theorem dL_law_675 : decode cL_law 675 = .ok (.iaload, 1) := by decide +kernel
theorem dL_law_676 : decode cL_law 676 = .ok (.aload_n 0, 1) := by decide +kernel
theorem dL_law_677 : decode cL_law 677 = .ok (.iload 4, 2) := by decide +kernel
theorem dL_law_679 : decode cL_law 679 = .ok (.iconst 2, 1) := by decide +kernel
theorem dL_law_680 : decode cL_law 680 = .ok (.iadd, 1) := by decide +kernel
theorem dL_law_681 : decode cL_law 681 = .ok (.iaload, 1) := by decide +kernel
theorem dL_law_682 : decode cL_law 682 = .ok (.invokevirtual 92, 3) := by decide +kernel
theorem dL_law_685 : decode cL_law 685 = .ok (.if_icmp .eq 227, 3) := by decide +kernel
theorem dL_law_688 : decode cL_law 688 = .ok (.iconst 0, 1) := by decide +kernel
theorem dL_law_689 : decode cL_law 689 = .ok (.ireturn, 1) := by decide +kernel
theorem dL_law_690 : decode cL_law 690 = .ok (.aload_n 1, 1) := by decide +kernel
theorem dL_law_691 : decode cL_law 691 = .ok (.aload_n 0, 1) := by decide +kernel
theorem dL_law_692 : decode cL_law 692 = .ok (.iload 4, 2) := by decide +kernel
theorem dL_law_694 : decode cL_law 694 = .ok (.iconst 1, 1) := by decide +kernel
theorem dL_law_695 : decode cL_law 695 = .ok (.iadd, 1) := by decide +kernel
theorem dL_law_696 : decode cL_law 696 = .ok (.iaload, 1) := by decide +kernel
theorem dL_law_697 : decode cL_law 697 = .ok (.aload_n 0, 1) := by decide +kernel
theorem dL_law_698 : decode cL_law 698 = .ok (.iload 4, 2) := by decide +kernel
theorem dL_law_700 : decode cL_law 700 = .ok (.iconst 2, 1) := by decide +kernel
theorem dL_law_701 : decode cL_law 701 = .ok (.iadd, 1) := by decide +kernel
theorem dL_law_702 : decode cL_law 702 = .ok (.iaload, 1) := by decide +kernel
theorem dL_law_703 : decode cL_law 703 = .ok (.invokevirtual 93, 3) := by decide +kernel
theorem dL_law_706 : decode cL_law 706 = .ok (.aload_n 2, 1) := by decide +kernel
theorem dL_law_707 : decode cL_law 707 = .ok (.aload_n 0, 1) := by decide +kernel
theorem dL_law_708 : decode cL_law 708 = .ok (.iload 4, 2) := by decide +kernel
theorem dL_law_710 : decode cL_law 710 = .ok (.iconst 1, 1) := by decide +kernel
theorem dL_law_711 : decode cL_law 711 = .ok (.iadd, 1) := by decide +kernel
theorem dL_law_712 : decode cL_law 712 = .ok (.iaload, 1) := by decide +kernel
theorem dL_law_713 : decode cL_law 713 = .ok (.aload_n 0, 1) := by decide +kernel
theorem dL_law_714 : decode cL_law 714 = .ok (.iload 4, 2) := by decide +kernel
theorem dL_law_716 : decode cL_law 716 = .ok (.iconst 2, 1) := by decide +kernel
theorem dL_law_717 : decode cL_law 717 = .ok (.iadd, 1) := by decide +kernel
theorem dL_law_718 : decode cL_law 718 = .ok (.iaload, 1) := by decide +kernel
theorem dL_law_719 : decode cL_law 719 = .ok (.invokevirtual 96, 3) := by decide +kernel
theorem dL_law_722 : decode cL_law 722 = .ok (.if_icmp .eq 190, 3) := by decide +kernel
theorem dL_law_725 : decode cL_law 725 = .ok (.iconst 0, 1) := by decide +kernel
theorem dL_law_726 : decode cL_law 726 = .ok (.ireturn, 1) := by decide +kernel
theorem dL_law_727 : decode cL_law 727 = .ok (.aload_n 1, 1) := by decide +kernel
theorem dL_law_728 : decode cL_law 728 = .ok (.aload_n 0, 1) := by decide +kernel
theorem dL_law_729 : decode cL_law 729 = .ok (.iload 4, 2) := by decide +kernel
theorem dL_law_731 : decode cL_law 731 = .ok (.iconst 1, 1) := by decide +kernel
theorem dL_law_732 : decode cL_law 732 = .ok (.iadd, 1) := by decide +kernel
theorem dL_law_733 : decode cL_law 733 = .ok (.iaload, 1) := by decide +kernel
theorem dL_law_734 : decode cL_law 734 = .ok (.aload_n 0, 1) := by decide +kernel
theorem dL_law_735 : decode cL_law 735 = .ok (.iload 4, 2) := by decide +kernel
theorem dL_law_737 : decode cL_law 737 = .ok (.iconst 2, 1) := by decide +kernel
theorem dL_law_738 : decode cL_law 738 = .ok (.iadd, 1) := by decide +kernel
theorem dL_law_739 : decode cL_law 739 = .ok (.iaload, 1) := by decide +kernel
theorem dL_law_740 : decode cL_law 740 = .ok (.aload_n 0, 1) := by decide +kernel
theorem dL_law_741 : decode cL_law 741 = .ok (.iload 4, 2) := by decide +kernel
theorem dL_law_743 : decode cL_law 743 = .ok (.iconst 3, 1) := by decide +kernel
theorem dL_law_744 : decode cL_law 744 = .ok (.iadd, 1) := by decide +kernel
theorem dL_law_745 : decode cL_law 745 = .ok (.iaload, 1) := by decide +kernel
theorem dL_law_746 : decode cL_law 746 = .ok (.aload_n 0, 1) := by decide +kernel
theorem dL_law_747 : decode cL_law 747 = .ok (.iload 4, 2) := by decide +kernel
theorem dL_law_749 : decode cL_law 749 = .ok (.iconst 4, 1) := by decide +kernel
theorem dL_law_750 : decode cL_law 750 = .ok (.iadd, 1) := by decide +kernel
theorem dL_law_751 : decode cL_law 751 = .ok (.iaload, 1) := by decide +kernel
theorem dL_law_752 : decode cL_law 752 = .ok (.invokevirtual 97, 3) := by decide +kernel
theorem dL_law_755 : decode cL_law 755 = .ok (.aload_n 2, 1) := by decide +kernel
theorem dL_law_756 : decode cL_law 756 = .ok (.aload_n 0, 1) := by decide +kernel
theorem dL_law_757 : decode cL_law 757 = .ok (.iload 4, 2) := by decide +kernel
theorem dL_law_759 : decode cL_law 759 = .ok (.iconst 1, 1) := by decide +kernel
theorem dL_law_760 : decode cL_law 760 = .ok (.iadd, 1) := by decide +kernel
theorem dL_law_761 : decode cL_law 761 = .ok (.iaload, 1) := by decide +kernel
theorem dL_law_762 : decode cL_law 762 = .ok (.aload_n 0, 1) := by decide +kernel
theorem dL_law_763 : decode cL_law 763 = .ok (.iload 4, 2) := by decide +kernel
theorem dL_law_765 : decode cL_law 765 = .ok (.iconst 2, 1) := by decide +kernel
theorem dL_law_766 : decode cL_law 766 = .ok (.iadd, 1) := by decide +kernel
theorem dL_law_767 : decode cL_law 767 = .ok (.iaload, 1) := by decide +kernel
theorem dL_law_768 : decode cL_law 768 = .ok (.aload_n 0, 1) := by decide +kernel
theorem dL_law_769 : decode cL_law 769 = .ok (.iload 4, 2) := by decide +kernel
theorem dL_law_771 : decode cL_law 771 = .ok (.iconst 3, 1) := by decide +kernel
theorem dL_law_772 : decode cL_law 772 = .ok (.iadd, 1) := by decide +kernel
theorem dL_law_773 : decode cL_law 773 = .ok (.iaload, 1) := by decide +kernel
theorem dL_law_774 : decode cL_law 774 = .ok (.aload_n 0, 1) := by decide +kernel
theorem dL_law_775 : decode cL_law 775 = .ok (.iload 4, 2) := by decide +kernel
theorem dL_law_777 : decode cL_law 777 = .ok (.iconst 4, 1) := by decide +kernel
theorem dL_law_778 : decode cL_law 778 = .ok (.iadd, 1) := by decide +kernel
theorem dL_law_779 : decode cL_law 779 = .ok (.iaload, 1) := by decide +kernel
theorem dL_law_780 : decode cL_law 780 = .ok (.invokevirtual 101, 3) := by decide +kernel
theorem dL_law_783 : decode cL_law 783 = .ok (.if_icmp .eq 129, 3) := by decide +kernel
theorem dL_law_786 : decode cL_law 786 = .ok (.iconst 0, 1) := by decide +kernel
theorem dL_law_787 : decode cL_law 787 = .ok (.ireturn, 1) := by decide +kernel
theorem dL_law_788 : decode cL_law 788 = .ok (.aload_n 1, 1) := by decide +kernel
theorem dL_law_789 : decode cL_law 789 = .ok (.aload_n 0, 1) := by decide +kernel
theorem dL_law_790 : decode cL_law 790 = .ok (.iload 4, 2) := by decide +kernel
theorem dL_law_792 : decode cL_law 792 = .ok (.iconst 1, 1) := by decide +kernel
theorem dL_law_793 : decode cL_law 793 = .ok (.iadd, 1) := by decide +kernel
theorem dL_law_794 : decode cL_law 794 = .ok (.iaload, 1) := by decide +kernel
theorem dL_law_795 : decode cL_law 795 = .ok (.aload_n 0, 1) := by decide +kernel
theorem dL_law_796 : decode cL_law 796 = .ok (.iload 4, 2) := by decide +kernel
theorem dL_law_798 : decode cL_law 798 = .ok (.iconst 2, 1) := by decide +kernel
theorem dL_law_799 : decode cL_law 799 = .ok (.iadd, 1) := by decide +kernel
theorem dL_law_800 : decode cL_law 800 = .ok (.iaload, 1) := by decide +kernel
theorem dL_law_801 : decode cL_law 801 = .ok (.aload_n 0, 1) := by decide +kernel
theorem dL_law_802 : decode cL_law 802 = .ok (.iload 4, 2) := by decide +kernel
theorem dL_law_804 : decode cL_law 804 = .ok (.iconst 3, 1) := by decide +kernel
theorem dL_law_805 : decode cL_law 805 = .ok (.iadd, 1) := by decide +kernel
theorem dL_law_806 : decode cL_law 806 = .ok (.iaload, 1) := by decide +kernel
theorem dL_law_807 : decode cL_law 807 = .ok (.invokevirtual 102, 3) := by decide +kernel
theorem dL_law_810 : decode cL_law 810 = .ok (.aload_n 2, 1) := by decide +kernel
theorem dL_law_811 : decode cL_law 811 = .ok (.aload_n 0, 1) := by decide +kernel
theorem dL_law_812 : decode cL_law 812 = .ok (.iload 4, 2) := by decide +kernel
theorem dL_law_814 : decode cL_law 814 = .ok (.iconst 1, 1) := by decide +kernel
theorem dL_law_815 : decode cL_law 815 = .ok (.iadd, 1) := by decide +kernel
theorem dL_law_816 : decode cL_law 816 = .ok (.iaload, 1) := by decide +kernel
theorem dL_law_817 : decode cL_law 817 = .ok (.aload_n 0, 1) := by decide +kernel
theorem dL_law_818 : decode cL_law 818 = .ok (.iload 4, 2) := by decide +kernel
theorem dL_law_820 : decode cL_law 820 = .ok (.iconst 2, 1) := by decide +kernel
theorem dL_law_821 : decode cL_law 821 = .ok (.iadd, 1) := by decide +kernel
theorem dL_law_822 : decode cL_law 822 = .ok (.iaload, 1) := by decide +kernel
theorem dL_law_823 : decode cL_law 823 = .ok (.aload_n 0, 1) := by decide +kernel
theorem dL_law_824 : decode cL_law 824 = .ok (.iload 4, 2) := by decide +kernel
theorem dL_law_826 : decode cL_law 826 = .ok (.iconst 3, 1) := by decide +kernel
theorem dL_law_827 : decode cL_law 827 = .ok (.iadd, 1) := by decide +kernel
theorem dL_law_828 : decode cL_law 828 = .ok (.iaload, 1) := by decide +kernel
theorem dL_law_829 : decode cL_law 829 = .ok (.invokevirtual 106, 3) := by decide +kernel
theorem dL_law_832 : decode cL_law 832 = .ok (.if_icmp .eq 80, 3) := by decide +kernel
theorem dL_law_835 : decode cL_law 835 = .ok (.iconst 0, 1) := by decide +kernel
theorem dL_law_836 : decode cL_law 836 = .ok (.ireturn, 1) := by decide +kernel
theorem dL_law_837 : decode cL_law 837 = .ok (.aload_n 1, 1) := by decide +kernel
theorem dL_law_838 : decode cL_law 838 = .ok (.aload_n 0, 1) := by decide +kernel
theorem dL_law_839 : decode cL_law 839 = .ok (.iload 4, 2) := by decide +kernel
theorem dL_law_841 : decode cL_law 841 = .ok (.iconst 1, 1) := by decide +kernel
theorem dL_law_842 : decode cL_law 842 = .ok (.iadd, 1) := by decide +kernel
theorem dL_law_843 : decode cL_law 843 = .ok (.iaload, 1) := by decide +kernel
theorem dL_law_844 : decode cL_law 844 = .ok (.invokevirtual 107, 3) := by decide +kernel
theorem dL_law_847 : decode cL_law 847 = .ok (.aload_n 2, 1) := by decide +kernel
theorem dL_law_848 : decode cL_law 848 = .ok (.aload_n 0, 1) := by decide +kernel
theorem dL_law_849 : decode cL_law 849 = .ok (.iload 4, 2) := by decide +kernel
theorem dL_law_851 : decode cL_law 851 = .ok (.iconst 1, 1) := by decide +kernel
theorem dL_law_852 : decode cL_law 852 = .ok (.iadd, 1) := by decide +kernel
theorem dL_law_853 : decode cL_law 853 = .ok (.iaload, 1) := by decide +kernel
theorem dL_law_854 : decode cL_law 854 = .ok (.invokevirtual 110, 3) := by decide +kernel
theorem dL_law_857 : decode cL_law 857 = .ok (.if_icmp .eq 55, 3) := by decide +kernel
theorem dL_law_860 : decode cL_law 860 = .ok (.iconst 0, 1) := by decide +kernel
theorem dL_law_861 : decode cL_law 861 = .ok (.ireturn, 1) := by decide +kernel
theorem dL_law_862 : decode cL_law 862 = .ok (.aload_n 1, 1) := by decide +kernel
theorem dL_law_863 : decode cL_law 863 = .ok (.aload_n 0, 1) := by decide +kernel
theorem dL_law_864 : decode cL_law 864 = .ok (.iload 4, 2) := by decide +kernel
theorem dL_law_866 : decode cL_law 866 = .ok (.iconst 1, 1) := by decide +kernel
theorem dL_law_867 : decode cL_law 867 = .ok (.iadd, 1) := by decide +kernel
theorem dL_law_868 : decode cL_law 868 = .ok (.iaload, 1) := by decide +kernel
theorem dL_law_869 : decode cL_law 869 = .ok (.invokevirtual 111, 3) := by decide +kernel
theorem dL_law_872 : decode cL_law 872 = .ok (.aload_n 2, 1) := by decide +kernel
theorem dL_law_873 : decode cL_law 873 = .ok (.aload_n 0, 1) := by decide +kernel
theorem dL_law_874 : decode cL_law 874 = .ok (.iload 4, 2) := by decide +kernel
theorem dL_law_876 : decode cL_law 876 = .ok (.iconst 1, 1) := by decide +kernel
theorem dL_law_877 : decode cL_law 877 = .ok (.iadd, 1) := by decide +kernel
theorem dL_law_878 : decode cL_law 878 = .ok (.iaload, 1) := by decide +kernel
theorem dL_law_879 : decode cL_law 879 = .ok (.invokevirtual 114, 3) := by decide +kernel
theorem dL_law_882 : decode cL_law 882 = .ok (.if_icmp .eq 30, 3) := by decide +kernel
theorem dL_law_885 : decode cL_law 885 = .ok (.iconst 0, 1) := by decide +kernel
theorem dL_law_886 : decode cL_law 886 = .ok (.ireturn, 1) := by decide +kernel
theorem dL_law_887 : decode cL_law 887 = .ok (.aload_n 1, 1) := by decide +kernel
theorem dL_law_888 : decode cL_law 888 = .ok (.aload_n 0, 1) := by decide +kernel
theorem dL_law_889 : decode cL_law 889 = .ok (.iload 4, 2) := by decide +kernel
theorem dL_law_891 : decode cL_law 891 = .ok (.iconst 1, 1) := by decide +kernel
theorem dL_law_892 : decode cL_law 892 = .ok (.iadd, 1) := by decide +kernel
theorem dL_law_893 : decode cL_law 893 = .ok (.iaload, 1) := by decide +kernel
theorem dL_law_894 : decode cL_law 894 = .ok (.invokevirtual 115, 3) := by decide +kernel
theorem dL_law_897 : decode cL_law 897 = .ok (.aload_n 2, 1) := by decide +kernel
theorem dL_law_898 : decode cL_law 898 = .ok (.aload_n 0, 1) := by decide +kernel
theorem dL_law_899 : decode cL_law 899 = .ok (.iload 4, 2) := by decide +kernel
theorem dL_law_901 : decode cL_law 901 = .ok (.iconst 1, 1) := by decide +kernel
theorem dL_law_902 : decode cL_law 902 = .ok (.iadd, 1) := by decide +kernel
theorem dL_law_903 : decode cL_law 903 = .ok (.iaload, 1) := by decide +kernel
theorem dL_law_904 : decode cL_law 904 = .ok (.invokevirtual 118, 3) := by decide +kernel
theorem dL_law_907 : decode cL_law 907 = .ok (.if_icmp .eq 5, 3) := by decide +kernel
theorem dL_law_910 : decode cL_law 910 = .ok (.iconst 0, 1) := by decide +kernel
theorem dL_law_911 : decode cL_law 911 = .ok (.ireturn, 1) := by decide +kernel
theorem dL_law_912 : decode cL_law 912 = .ok (.iinc 4 6, 3) := by decide +kernel
theorem dL_law_915 : decode cL_law 915 = .ok (.goto (-892), 3) := by decide +kernel
theorem dL_law_918 : decode cL_law 918 = .ok (.iconst 1, 1) := by decide +kernel
theorem dL_law_919 : decode cL_law 919 = .ok (.ireturn, 1) := by decide +kernel
theorem dL_look_0 : decode cL_look 0 = .ok (.aload_n 3, 1) := by decide +kernel
theorem dL_look_1 : decode cL_look 1 = .ok (.iconst 0, 1) := by decide +kernel
theorem dL_look_2 : decode cL_look 2 = .ok (.aload_n 0, 1) := by decide +kernel
theorem dL_look_3 : decode cL_look 3 = .ok (.iload_n 1, 1) := by decide +kernel
theorem dL_look_4 : decode cL_look 4 = .ok (.iload_n 2, 1) := by decide +kernel
theorem dL_look_5 : decode cL_look 5 = .ok (.invokevirtual 7, 3) := by decide +kernel
theorem dL_look_8 : decode cL_look 8 = .ok (.i2l, 1) := by decide +kernel
theorem dL_look_9 : decode cL_look 9 = .ok (.lastore, 1) := by decide +kernel
theorem dL_look_10 : decode cL_look 10 = .ok (.goto 11, 3) := by decide +kernel
theorem dL_look_13 : decode cL_look 13 = .ok (.astore 4, 2) := by decide +kernel
theorem dL_look_15 : decode cL_look 15 = .ok (.iconst 1, 1) := by decide +kernel
theorem dL_look_16 : decode cL_look 16 = .ok (.ireturn, 1) := by decide +kernel
theorem dL_look_17 : decode cL_look 17 = .ok (.astore 4, 2) := by decide +kernel
theorem dL_look_19 : decode cL_look 19 = .ok (.iconst 2, 1) := by decide +kernel
theorem dL_look_20 : decode cL_look 20 = .ok (.ireturn, 1) := by decide +kernel
theorem dL_look_21 : decode cL_look 21 = .ok (.iconst 0, 1) := by decide +kernel
theorem dL_look_22 : decode cL_look 22 = .ok (.ireturn, 1) := by decide +kernel
end
section
/-- the tables' good words: every contract's words are its own code and these -/
def xG : List Cond := lw_tbl.filter goodWord
theorem xin {w : Cond} (i : Nat) (h : tables_1[i]? = some w) (g : goodWord w = true) : w ∈ xG := List.mem_filter.mpr ⟨List.mem_append_right _ (List.mem_of_getElem? h), g⟩
theorem xinS {w : Cond} (i : Nat) (h : (k2_sels lw_privs)[i]? = some w) (g : goodWord w = true) : w ∈ xG := List.mem_filter.mpr ⟨List.mem_append_left _ (List.mem_of_getElem? h), g⟩
theorem xall (ws : List Cond) (ps : List Nat) (hp : ws = ps.filterMap (fun i => tables_1[i]?)) (h : ws.all goodWord = true) : ∀ w ∈ ws, w ∈ xG := by
  intro w hw
  have h1 := List.all_eq_true.mp h w hw
  rw [hp] at hw
  obtain ⟨i, -, hi⟩ := List.mem_filterMap.mp hw
  exact xin i hi h1
theorem xgood {w : Cond} (h : w ∈ xG) : (w.onTables && w.keeps) = true ∨ ∃ ty, w = .arrayClass ty := good_of_word (List.mem_filter.mp h).2
def xw (y : MethodName) (c : ByteArray) (n : Nat) (r : Option FieldType) : List Cond := .code y c n r :: xG
theorem xw_in {y : MethodName} {c : ByteArray} {n : Nat} {r : Option FieldType} (h : Cond.code y c n r ∈ xG) : ∀ w ∈ xw y c n r, w ∈ xG := fun w hw => (List.mem_cons.mp hw).elim (fun e => e ▸ h) id
theorem xw_good {y : MethodName} {c : ByteArray} {n : Nat} {r : Option FieldType} (h : Cond.code y c n r ∈ xG) : GoodIn xG (xw y c n r) := fun w hw => ⟨xw_in h w hw, xgood (xw_in h w hw)⟩
/-- the classes of the arrays -/
def xT (cy : Nat → ClassId) : List (ClassId × FieldType) := [(cy 0, .byte), (cy 1, .int), (cy 2, .long), (cy 3, .boolean), (cy 4, .object RX2), (cy 5, .object RX3), (cy 6, .object RX5), (cy 7, .object RX6), (cy 8, .object RX8), (cy 9, .object RX9), (cy 10, .object RX10)]
def xAO : List String := [RX2, RX3, RX5, RX6, RX8, RX9, RX10]
def xNest : List (String × Nat × MethodName) := [(RX12, 17, yX5_init), (RX7, 19, yX11_init), (RX7, 47, yX10_init), (RX10, 9, yX11_init), (RX3, 11, yX0_init), (RX3, 20, yX4_init), (RX4, 11, yX11_init), (RX1, 21, yX2_init), (RX2, 11, yX11_init), (RX3, 82, yX9_init), (RX9, 9, yX11_init), (RX3, 83, yX6_init), (RX6, 9, yX11_init), (RX3, 84, yX8_init), (RX8, 9, yX11_init)]
/-- what the tables say, beside the good words -/
def xK (D : va_G) (cy : Nat → ClassId) (U : State) : Prop := va_K D vwCl (xT cy) U ∧ (∀ C ∈ xAO, va_AO C U) ∧ ∀ q ∈ xNest, va_Nw (.methodLinkNest q.1 q.2.1 q.2.2 RX12) U
theorem xK.warm {D : va_G} {cy : Nat → ClassId} {s U : State} (hW : s.WarmedH U.vm) (h : xK D cy s) : xK D cy U := ⟨va_K.moved hW.alike h.1, fun C hC => (h.2.1 C hC).moved hW.alike, fun q hq => va_Nw.warmM hW (h.2.2 q hq)⟩
theorem xK.same {D : va_G} {cy : Nat → ClassId} {U V : State} (e : U.vm = V.vm) (h : xK D cy U) : xK D cy V := ⟨va_K.moved (by rw [e]; exact Vm.Alike.refl V.vm) h.1, fun C hC => (h.2.1 C hC).moved (by rw [e]; exact Vm.Alike.refl V.vm), fun q hq => va_Nw.same rfl e (h.2.2 q hq)⟩
def xPre (D : va_G) (cy : Nat → ClassId) (sz : Nat) (ws : va_W) (U : State) : Prop := U.heap.size = sz ∧ va_P D vwCl ws U.heap ∧ xK D cy U ∧ va_D (fun _ => True) ws
theorem xblind {D : va_G} {cy : Nat → ClassId} {sz : Nat} {ws : va_W} {av : List Value} : FrameBlind (va_Pc av (xPre D cy sz ws)) := fun a U g mk q => by
  obtain ⟨q0, q1, qP, qK, qD⟩ := q
  exact ⟨q0, q1, qP, qK.same rfl, qD⟩
theorem xpreS {D : va_G} {cy : Nat → ClassId} {A : Nat → Prop} {ws : va_W} {av : List Value} {s : State} {H : Heap} (hK : xK D cy s) (hP : va_P D vwCl ws H) (hD : va_D A ws) : PreS s H (va_Pc av (xPre D cy H.size ws)) av :=
  ⟨xblind, fun U hU hW => ⟨rfl, by rw [hU], by rw [hU]; exact hP, hK.warm hW, hD.weaken (fun _ _ _ _ => trivial)⟩⟩
theorem xpreV {D : va_G} {cy : Nat → ClassId} {A : Nat → Prop} {ws : va_W} {As : List Value} {s : State} {H : Heap} {b : Nat} (hK : xK D cy s) (hP : va_P D vwCl ws H) (hD : va_D A ws) (k ci : Nat) {fs : List Value} {q : vw_C} (he : ws[k]? = some (b, .inr (ci, fs))) (hc : vwCl[ci]? = some q) {C : String} (hC : q.1 = C) : PreV s H C b (va_Pc (.ref b :: As) (xPre D cy H.size ws)) As := by
  subst hC
  exact ⟨xblind, va_recv hK.1 hP hc he, fun U hU hW => ⟨rfl, by rw [hU], by rw [hU]; exact hP, hK.warm hW, hD.weaken (fun _ _ _ _ => trivial)⟩⟩
def xB {S : Type} (D : va_G) (A : Nat → Prop) (w : S → va_W) (u : S) (t : State) : Prop := va_P D vwCl (w u) t.heap ∧ va_D A (w u)
/-- contracts: void, int, long, a reference or null -/
abbrev xMv (l : Launch) (D : va_G) (cy : Nat → ClassId) (y : MethodName) (c : ByteArray) (n : Nat) (rm : Room) (av : List Value) (ws : va_W) {S : Type} (post : S → Prop) (w : S → va_W) : Prop := ∀ sz : Nat, Met l y (xw y c n none) rm (va_Pc av (xPre D cy sz ws)) (va_Qv post (xB D (va_A ws sz) w) (va_A ws sz)) rm.cells rm.slots (va_A ws sz)
abbrev xMi (l : Launch) (D : va_G) (cy : Nat → ClassId) (y : MethodName) (c : ByteArray) (n : Nat) (r : Option FieldType) (rm : Room) (av : List Value) (ws : va_W) {S : Type} (post : Int32 → S → Prop) (w : S → va_W) : Prop := ∀ sz : Nat, Met l y (xw y c n r) rm (va_Pc av (xPre D cy sz ws)) (va_Qi post (xB D (va_A ws sz) w) (va_A ws sz)) rm.cells rm.slots (va_A ws sz)
abbrev xMl (l : Launch) (D : va_G) (cy : Nat → ClassId) (y : MethodName) (c : ByteArray) (n : Nat) (rm : Room) (av : List Value) (ws : va_W) {S : Type} (post : Int64 → S → Prop) (w : S → va_W) : Prop := ∀ sz : Nat, Met l y (xw y c n (some .long)) rm (va_Pc av (xPre D cy sz ws)) (va_Ql post (xB D (va_A ws sz) w) (va_A ws sz)) rm.cells rm.slots (va_A ws sz)
abbrev xMq (l : Launch) (D : va_G) (cy : Nat → ClassId) (y : MethodName) (c : ByteArray) (n : Nat) (r : Option FieldType) (rm : Room) (av : List Value) (ws : va_W) {S : Type} (post : Option Nat → S → Prop) (w : S → va_W) : Prop := ∀ sz : Nat, Met l y (xw y c n r) rm (va_Pc av (xPre D cy sz ws)) (va_Qq post (xB D (va_A ws sz) w) (va_A ws sz)) rm.cells rm.slots (va_A ws sz)
section XC
variable {p : Program} {l : Launch} {e : Env} {R : Room} {s : State} {m : MethodId} {args : Array Value} {below : List Frame} {meth : Method} {c : Code} {H H0 : Heap} {locs : List Loc} {cells slots mc ms pc : Nat} {Q : State → Prop} {D : va_G} {cy : Nat → ClassId} {A : Nat → Prop} {ws : va_W} {ls : Array Slot} {st0 rest : List Value} {a : Array Value} {cc : ByteArray}
theorem x_ci {x y : Int32} (h : x = y) (k : W p l e R s m args below meth c H locs cells slots Q (F0 m pc ls (.int y :: rest))) : W p l e R s m args below meth c H locs cells slots Q (F0 m pc ls (.int x :: rest)) := h ▸ k
theorem x_cl {x y : Int64} (h : x = y) (k : W p l e R s m args below meth c H locs cells slots Q (F0 m pc ls (.long y :: rest))) : W p l e R s m args below meth c H locs cells slots Q (F0 m pc ls (.long x :: rest)) := h ▸ k
theorem x_cv {x y : Value} (h : x = y) (k : W p l e R s m args below meth c H locs cells slots Q (F0 m pc ls (y :: rest))) : W p l e R s m args below meth c H locs cells slots Q (F0 m pc ls (x :: rest)) := h ▸ k
theorem x_callv {S : Type} {post : S → Prop} {w : S → va_W} (wc wr : va_W) (hr : va_Run p l e R s m args below meth c H locs cells slots mc ms (F0 m pc ls st0) rest (va_Qv post (xB D (va_A wc H.size) w) (va_A wc H.size) a) (va_A wc H.size)) (hP : va_P D vwCl ws H) (hD : va_D A ws) (hS : va_S A H0 H locs) (hA : ∀ q, H0.size ≤ q → A q) (isC isR : List Nat) (hC : isC.map (fun i => ws[i]?) = wc.map some) (hR : isR.map (fun i => ws[i]?) = wr.map some) (hn : va_nd isR = true) (hdis : ∀ i ∈ isR, i ∉ isC)
    (kk : ∀ (u : S) (H1 : Heap) (locs1 : List Loc), post u → va_P D vwCl (wr ++ w u) H1 → va_D A (wr ++ w u) → va_S A H0 H1 locs1 → W p l e R s m args below meth c H1 locs1 (cells + mc) (slots + ms) Q (F0 m (pc + 3) ls rest)) : W p l e R s m args below meth c H locs cells slots Q (F0 m pc ls st0) := by
  have hFc := va_free (wc := wc) hD hS hA isC hC
  refine va_callv hr hS (fun q _ h => hFc q h) hFc (fun u t H1 locs1 ht hvm hw hB hz hk hS1 => ?_)
  obtain ⟨hP1, hD1⟩ := hB
  rw [ht] at hP1
  obtain ⟨hP2, hD2⟩ := va_join (wr := wr) (w1 := w u) hP hD isC isR hC hR hn hdis hk hFc hP1 hD1
  exact kk u H1 locs1 hw hP2 hD2 hS1
theorem x_calli {S : Type} {post : Int32 → S → Prop} {w : S → va_W} (wc wr : va_W) (hr : va_Run p l e R s m args below meth c H locs cells slots mc ms (F0 m pc ls st0) rest (va_Qi post (xB D (va_A wc H.size) w) (va_A wc H.size) a) (va_A wc H.size)) (hP : va_P D vwCl ws H) (hD : va_D A ws) (hS : va_S A H0 H locs) (hA : ∀ q, H0.size ≤ q → A q) (isC isR : List Nat) (hC : isC.map (fun i => ws[i]?) = wc.map some) (hR : isR.map (fun i => ws[i]?) = wr.map some) (hn : va_nd isR = true) (hdis : ∀ i ∈ isR, i ∉ isC)
    (kk : ∀ (r : Int32) (u : S) (H1 : Heap) (locs1 : List Loc), post r u → va_P D vwCl (wr ++ w u) H1 → va_D A (wr ++ w u) → va_S A H0 H1 locs1 → W p l e R s m args below meth c H1 locs1 (cells + mc) (slots + ms) Q (F0 m (pc + 3) ls (.int r :: rest))) : W p l e R s m args below meth c H locs cells slots Q (F0 m pc ls st0) := by
  have hFc := va_free (wc := wc) hD hS hA isC hC
  refine va_calli hr hS (fun q _ h => hFc q h) hFc (fun r u t H1 locs1 ht hvm hw hB hz hk hS1 => ?_)
  obtain ⟨hP1, hD1⟩ := hB
  rw [ht] at hP1
  obtain ⟨hP2, hD2⟩ := va_join (wr := wr) (w1 := w u) hP hD isC isR hC hR hn hdis hk hFc hP1 hD1
  exact kk r u H1 locs1 hw hP2 hD2 hS1
theorem x_calll {S : Type} {post : Int64 → S → Prop} {w : S → va_W} (wc wr : va_W) (hr : va_Run p l e R s m args below meth c H locs cells slots mc ms (F0 m pc ls st0) rest (va_Ql post (xB D (va_A wc H.size) w) (va_A wc H.size) a) (va_A wc H.size)) (hP : va_P D vwCl ws H) (hD : va_D A ws) (hS : va_S A H0 H locs) (hA : ∀ q, H0.size ≤ q → A q) (isC isR : List Nat) (hC : isC.map (fun i => ws[i]?) = wc.map some) (hR : isR.map (fun i => ws[i]?) = wr.map some) (hn : va_nd isR = true) (hdis : ∀ i ∈ isR, i ∉ isC)
    (kk : ∀ (r : Int64) (u : S) (H1 : Heap) (locs1 : List Loc), post r u → va_P D vwCl (wr ++ w u) H1 → va_D A (wr ++ w u) → va_S A H0 H1 locs1 → W p l e R s m args below meth c H1 locs1 (cells + mc) (slots + ms) Q (F0 m (pc + 3) ls (.long r :: rest))) : W p l e R s m args below meth c H locs cells slots Q (F0 m pc ls st0) := by
  have hFc := va_free (wc := wc) hD hS hA isC hC
  refine va_calll hr hS (fun q _ h => hFc q h) hFc (fun r u t H1 locs1 ht hvm hw hB hz hk hS1 => ?_)
  obtain ⟨hP1, hD1⟩ := hB
  rw [ht] at hP1
  obtain ⟨hP2, hD2⟩ := va_join (wr := wr) (w1 := w u) hP hD isC isR hC hR hn hdis hk hFc hP1 hD1
  exact kk r u H1 locs1 hw hP2 hD2 hS1
theorem x_callq {S : Type} {post : Option Nat → S → Prop} {w : S → va_W} (wc wr : va_W) (hr : va_Run p l e R s m args below meth c H locs cells slots mc ms (F0 m pc ls st0) rest (va_Qq post (xB D (va_A wc H.size) w) (va_A wc H.size) a) (va_A wc H.size)) (hP : va_P D vwCl ws H) (hD : va_D A ws) (hS : va_S A H0 H locs) (hA : ∀ q, H0.size ≤ q → A q) (isC isR : List Nat) (hC : isC.map (fun i => ws[i]?) = wc.map some) (hR : isR.map (fun i => ws[i]?) = wr.map some) (hn : va_nd isR = true) (hdis : ∀ i ∈ isR, i ∉ isC)
    (kk : ∀ (r : Option Nat) (u : S) (H1 : Heap) (locs1 : List Loc), post r u → va_P D vwCl (wr ++ w u) H1 → va_D A (wr ++ w u) → va_S A H0 H1 locs1 → W p l e R s m args below meth c H1 locs1 (cells + mc) (slots + ms) Q (F0 m (pc + 3) ls (va_rf r :: rest))) : W p l e R s m args below meth c H locs cells slots Q (F0 m pc ls st0) := by
  have hFc := va_free (wc := wc) hD hS hA isC hC
  refine va_callq hr hS (fun q _ h => hFc q h) hFc (fun r u t H1 locs1 ht hvm hw hB hz hk hS1 => ?_)
  obtain ⟨hP1, hD1⟩ := hB
  rw [ht] at hP1
  obtain ⟨hP2, hD2⟩ := va_join (wr := wr) (w1 := w u) hP hD isC isR hC hR hn hdis hk hFc hP1 hD1
  exact kk r u H1 locs1 hw hP2 hD2 hS1
/-- a new array, its class by the world's table -/
theorem x_newa (hexec : p.tables.exec = Jvm.exec) (hb : c.code = cc) {atype : ArrayType} (harr : (Cond.arrayClass (newarray.typeOf atype)).before args s = true) {tys : List (ClassId × FieldType)} (hK : va_K D vwCl tys s) (hP : va_P D vwCl ws H) (hD : va_D A ws) (hS : va_S A H0 H locs) (hA : ∀ q, H0.size ≤ q → A q) (t0 : Nat) {cA : ClassId} (ht : tys[t0]? = some (cA, newarray.typeOf atype))
    {n : Int32} {N' : Nat} {a0 : vp_A} (ha : ∀ cA : ClassId, vp_cell cA a0 = arrV cA N' (fun _ => defaultValue (newarray.typeOf atype))) (hn : ¬ n < 0) (hN : n.toNatClampNeg = N') (hbytes : N' * componentBytes (newarray.typeOf atype) ≤ 536870912) (hcells : cells + 1 ≤ R.cells) (hslots : slots + N' ≤ R.slots) (hdg : decode cc pc = .ok (.newarray atype, 2))
    (kk : ∀ (q : Nat) (H1 : Heap), va_P D vwCl (ws ++ [(q, .inl (cA, a0))]) H1 → va_D A (ws ++ [(q, .inl (cA, a0))]) → va_S A H0 H1 locs →
      W p l e R s m args below meth c H1 locs (cells + 1) (slots + N') Q (F0 m (pc + 2) ls (.ref q :: rest))) : W p l e R s m args below meth c H locs cells slots Q (F0 m pc ls (.int n :: rest)) := by
  refine va_newaK hexec hb harr rfl hdg rfl hn hN hbytes hcells hslots rfl fun H1 cA' e1 z1 o1 hAr hNm => ?_
  have h3 : s.vm.findClass ("[" ++ (newarray.typeOf atype).toString) = some cA := by
    have h2 := (hK.2 t0 _ ht).2
    cases atype <;> exact h2
  have hc : cA' = cA := by rw [hNm] at h3; exact Option.some.inj h3
  subst hc
  have hk : ∀ (k : Nat) (x : Nat × va_E), ws[k]? = some x → H1[x.1]? = H[x.1]? := fun k x hx => o1 x.1 ((hP k x hx).lt)
  refine kk H.size H1 ((hP.kept hk).app (fun k x hx => ?_)) (hD.push hP rfl (hA _ hS.1)) ⟨Nat.le_trans hS.1 (by omega), fun x h1 h2 => (o1 x (Nat.lt_of_lt_of_le h1 hS.1)).trans (hS.2.1 x h1 h2), hS.2.2⟩
  have hz : k < 1 := (List.getElem?_eq_some_iff.mp hx).1
  rw [show k = 0 by omega] at hx
  cases hx
  show H1[H.size]? = some (vp_cell _ _)
  rw [ha]
  exact e1
theorem x_newq (hexec : p.tables.exec = Jvm.exec) (hb : c.code = cc) {own C : String} {index : Nat} (hown : s.vm.findClass own = some m.cls) (hclink : (Cond.classLink own index C).before args s = true) (hover : va_AO C s) {tys : List (ClassId × FieldType)} (hK : va_K D vwCl tys s) (hP : va_P D vwCl ws H) (hD : va_D A ws) (hS : va_S A H0 H locs) (hA : ∀ q, H0.size ≤ q → A q) (t0 : Nat) {cA : ClassId} (ht : tys[t0]? = some (cA, .object C))
    {n : Int32} {N' : Nat} (hn : ¬ n < 0) (hN : n.toNatClampNeg = N') (hbytes : N' * 4 ≤ 536870912) (hcells : cells + 1 ≤ R.cells) (hslots : slots + N' ≤ R.slots) (hdg : decode cc pc = .ok (.anewarray index, 3))
    (kk : ∀ (q : Nat) (H1 : Heap), va_P D vwCl (ws ++ [(q, .inl (cA, N', .inr (.inr (.inr (.inr (fun _ => none))))))]) H1 → va_D A (ws ++ [(q, .inl (cA, N', .inr (.inr (.inr (.inr (fun _ => none))))))]) → va_S A H0 H1 locs →
      W p l e R s m args below meth c H1 locs (cells + 1) (slots + N') Q (F0 m (pc + 3) ls (.ref q :: rest))) : W p l e R s m args below meth c H locs cells slots Q (F0 m pc ls (.int n :: rest)) := by
  refine va_newq hexec hb hown hclink hover hK hP hD hS hA hn hN hbytes hcells hslots hdg (fun q cA' H1 hK' hP1 hD1 hS1 => ?_)
  have h4 : va_RA s cA' (.object C) := (hK'.2 tys.length (cA', .object C) (by simp)).2
  obtain ⟨_, _, _, _, _, h5⟩ := h4
  obtain ⟨_, _, _, _, _, h6⟩ := (hK.2 t0 _ ht).2
  have hc : cA' = cA := by rw [h5] at h6; exact Option.some.inj h6
  subst hc
  exact kk q H1 hP1 hD1 hS1
end XC
/-- rows of references as a list -/
def xa (l : List (Option Nat)) : Nat → Option Nat := fun k => l.getD k none
theorem xa_up {l : List (Option Nat)} {i : Nat} {v : Option Nat} (h : i < l.length) : va_up (xa l) i v = xa (l.set i v) := by
  funext j
  unfold va_up xa
  by_cases hj : j = i
  · subst hj; simp [h]
  · simp [hj, List.getElem?_set, Ne.symm hj]
theorem xa_none (n : Nat) : (fun _ => none) = xa (List.replicate n none) := by
  funext j
  unfold xa
  by_cases h : j < n <;> simp [h]
end
section
theorem xin1 {w : Cond} (i : Nat) (h : tables_1_1[i]? = some w) (g : goodWord w = true) : w ∈ xG := List.mem_filter.mpr ⟨List.mem_append_right _ (List.mem_append_left _ (List.mem_of_getElem? h)), g⟩
theorem xin2 {w : Cond} (i : Nat) (h : tables_1_2[i]? = some w) (g : goodWord w = true) : w ∈ xG := List.mem_filter.mpr ⟨List.mem_append_right _ (List.mem_append_right _ (List.mem_append_left _ (List.mem_of_getElem? h))), g⟩
theorem xin3 {w : Cond} (i : Nat) (h : tables_1_3[i]? = some w) (g : goodWord w = true) : w ∈ xG := List.mem_filter.mpr ⟨List.mem_append_right _ (List.mem_append_right _ (List.mem_append_right _ (List.mem_append_left _ (List.mem_of_getElem? h)))), g⟩
theorem xin4 {w : Cond} (i : Nat) (h : tables_1_4[i]? = some w) (g : goodWord w = true) : w ∈ xG := List.mem_filter.mpr ⟨List.mem_append_right _ (List.mem_append_right _ (List.mem_append_right _ (List.mem_append_right _ (List.mem_append_left _ (List.mem_of_getElem? h))))), g⟩
theorem xin5 {w : Cond} (i : Nat) (h : tables_1_5[i]? = some w) (g : goodWord w = true) : w ∈ xG := List.mem_filter.mpr ⟨List.mem_append_right _ (List.mem_append_right _ (List.mem_append_right _ (List.mem_append_right _ (List.mem_append_right _ (List.mem_append_left _ (List.mem_of_getElem? h)))))), g⟩
theorem xin6 {w : Cond} (i : Nat) (h : tables_1_6[i]? = some w) (g : goodWord w = true) : w ∈ xG := List.mem_filter.mpr ⟨List.mem_append_right _ (List.mem_append_right _ (List.mem_append_right _ (List.mem_append_right _ (List.mem_append_right _ (List.mem_append_right _ (List.mem_append_left _ (List.mem_of_getElem? h))))))), g⟩
theorem xin7 {w : Cond} (i : Nat) (h : tables_1_7[i]? = some w) (g : goodWord w = true) : w ∈ xG := List.mem_filter.mpr ⟨List.mem_append_right _ (List.mem_append_right _ (List.mem_append_right _ (List.mem_append_right _ (List.mem_append_right _ (List.mem_append_right _ (List.mem_append_right _ (List.mem_of_getElem? h))))))), g⟩
theorem iG0 : ∀ w ∈ wsX00, w ∈ xG := xall _ [198, 200, 202, 204, 206] (by decide +kernel) (by decide +kernel)
def df0 : List Value := [.int 0, .int 0, .int 0, .long 0, .long 0]
theorem nf0 : ∀ j, j < 5 → defaultValue (tyX0 j) = vp_V df0 j := by decide +kernel
theorem iG1 : ∀ w ∈ wsX10, w ∈ xG := xall _ [311, 313] (by decide +kernel) (by decide +kernel)
def df1 : List Value := [.null, .int 0]
theorem nf1 : ∀ j, j < 2 → defaultValue (tyX1 j) = vp_V df1 j := by decide +kernel
theorem iG2 : ∀ w ∈ wsX20, w ∈ xG := xall _ [284, 286, 288, 290, 292, 294, 296, 298, 300, 302] (by decide +kernel) (by decide +kernel)
def df2 : List Value := [.null, .null, .int 0, .int 0, .int 0, .int 0, .long 0, .long 0, .long 0, .int 0]
theorem nf2 : ∀ j, j < 10 → defaultValue (tyX2 j) = vp_V df2 j := by decide +kernel
theorem iG3 : ∀ w ∈ wsX30, w ∈ xG := xall _ [420, 422, 424, 426, 428, 430, 432, 434, 436, 438, 440, 442, 444, 446, 448, 450] (by decide +kernel) (by decide +kernel)
def df3 : List Value := [.int 0, .null, .null, .null, .null, .null, .null, .int 0, .int 0, .int 0, .int 0, .int 0, .int 0, .int 0, .int 0, .int 0]
theorem nf3 : ∀ j, j < 16 → defaultValue (tyX3 j) = vp_V df3 j := by decide +kernel
theorem iG4 : ∀ w ∈ wsX40, w ∈ xG := xall _ [232, 234, 236, 238, 240, 242] (by decide +kernel) (by decide +kernel)
def df4 : List Value := [.null, .null, .int 0, .int 0, .int 0, .long 0]
theorem nf4 : ∀ j, j < 6 → defaultValue (tyX4 j) = vp_V df4 j := by decide +kernel
theorem iG5 : ∀ w ∈ wsX50, w ∈ xG := xall _ [49, 51, 53, 55, 57, 59] (by decide +kernel) (by decide +kernel)
def df5 : List Value := [.null, .null, .int 0, .int 0, .int 0, .int 0]
theorem nf5 : ∀ j, j < 6 → defaultValue (tyX5 j) = vp_V df5 j := by decide +kernel
theorem iG6 : ∀ w ∈ wsX60, w ∈ xG := xall _ [357, 359, 361, 363, 365] (by decide +kernel) (by decide +kernel)
def df6 : List Value := [.null, .int 0, .int 0, .int 0, .long 0]
theorem nf6 : ∀ j, j < 5 → defaultValue (tyX6 j) = vp_V df6 j := by decide +kernel
theorem iG7 : ∀ w ∈ wsX70, w ∈ xG := xall _ [151, 153, 155, 157, 159, 161, 163, 165, 167] (by decide +kernel) (by decide +kernel)
def df7 : List Value := [.null, .null, .int 0, .int 0, .int 0, .int 0, .int 0, .int 0, .int 0]
theorem nf7 : ∀ j, j < 9 → defaultValue (tyX7 j) = vp_V df7 j := by decide +kernel
theorem iG8 : ∀ w ∈ wsX80, w ∈ xG := xall _ [381, 383] (by decide +kernel) (by decide +kernel)
def df8 : List Value := [.null, .long 0]
theorem nf8 : ∀ j, j < 2 → defaultValue (tyX8 j) = vp_V df8 j := by decide +kernel
theorem iG9 : ∀ w ∈ wsX90, w ∈ xG := xall _ [330, 332] (by decide +kernel) (by decide +kernel)
def df9 : List Value := [.null, .int 0]
theorem nf9 : ∀ j, j < 2 → defaultValue (tyX9 j) = vp_V df9 j := by decide +kernel
theorem iG10 : ∀ w ∈ wsX100, w ∈ xG := xall _ [122, 124, 126, 128, 130, 132] (by decide +kernel) (by decide +kernel)
def df10 : List Value := [.null, .null, .int 0, .int 0, .int 0, .int 0]
theorem nf10 : ∀ j, j < 6 → defaultValue (tyX10 j) = vp_V df10 j := by decide +kernel
theorem iG11 : ∀ w ∈ wsX110, w ∈ xG := xall _ [86, 88] (by decide +kernel) (by decide +kernel)
def df11 : List Value := [.null, .int 0]
theorem nf11 : ∀ j, j < 2 → defaultValue (tyX11 j) = vp_V df11 j := by decide +kernel
theorem iG12 : ∀ w ∈ wsX120, w ∈ xG := xall _ [463, 465, 467, 469, 471, 473, 475, 477, 479, 481] (by decide +kernel) (by decide +kernel)
def df12 : List Value := [.null, .null, .null, .null, .null, .int 0, .int 0, .null, .long 0, .long 0]
theorem nf12 : ∀ j, j < 10 → defaultValue (tyX12 j) = vp_V df12 j := by decide +kernel
theorem iG13 : ∀ w ∈ wsX130, w ∈ xG := xall _ [1190, 1192, 1194, 1196, 1198, 1200, 1202, 1204, 1206, 1208, 1210, 1212, 1214, 1216, 1218, 1220, 1222, 1224, 1226, 1228, 1230, 1232, 1234, 1236, 1238, 1240, 1242, 1244, 1246, 1248, 1250, 1252, 1254, 1256, 1258, 1260, 1262, 1264, 1266, 1268, 1270, 1272, 1274, 1276, 1278, 1280, 1282, 1284, 1286, 1288, 1290, 1292, 1294, 1296, 1298, 1300, 1302, 1304, 1306, 1308, 1310, 1312, 1314, 1316, 1318, 1320, 1322, 1324] (by decide +kernel) (by decide +kernel)
def df13 : List Value := [.long 0, .null, .int 0, .int 0, .null, .null, .null, .null, .null, .null, .null, .null, .null, .null, .null, .null, .null, .null, .null, .null, .null, .null, .null, .null, .null, .null, .null, .null, .null, .null, .null, .null, .null, .null, .null, .null, .null, .null, .null, .null, .null, .null, .null, .null, .null, .null, .int 0, .int 0, .null, .null, .int 0, .null, .null, .int 0, .null, .int 0, .null, .null, .int 0, .int 0, .int 0, .null, .null, .null, .null, .null, .null, .null]
theorem nf13 : ∀ j, j < 68 → defaultValue (tyX13 j) = vp_V df13 j := by decide +kernel
theorem nx0 {D : va_G} {cy : Nat → ClassId} {U : State} (h : xK D cy U) : va_Nw (.methodLinkNest RX12 17 yX5_init RX12) U := h.2.2 _ (List.mem_of_getElem? (i := 0) rfl)
theorem nx1 {D : va_G} {cy : Nat → ClassId} {U : State} (h : xK D cy U) : va_Nw (.methodLinkNest RX7 19 yX11_init RX12) U := h.2.2 _ (List.mem_of_getElem? (i := 1) rfl)
theorem nx2 {D : va_G} {cy : Nat → ClassId} {U : State} (h : xK D cy U) : va_Nw (.methodLinkNest RX7 47 yX10_init RX12) U := h.2.2 _ (List.mem_of_getElem? (i := 2) rfl)
theorem nx3 {D : va_G} {cy : Nat → ClassId} {U : State} (h : xK D cy U) : va_Nw (.methodLinkNest RX10 9 yX11_init RX12) U := h.2.2 _ (List.mem_of_getElem? (i := 3) rfl)
theorem nx4 {D : va_G} {cy : Nat → ClassId} {U : State} (h : xK D cy U) : va_Nw (.methodLinkNest RX3 11 yX0_init RX12) U := h.2.2 _ (List.mem_of_getElem? (i := 4) rfl)
theorem nx5 {D : va_G} {cy : Nat → ClassId} {U : State} (h : xK D cy U) : va_Nw (.methodLinkNest RX3 20 yX4_init RX12) U := h.2.2 _ (List.mem_of_getElem? (i := 5) rfl)
theorem nx6 {D : va_G} {cy : Nat → ClassId} {U : State} (h : xK D cy U) : va_Nw (.methodLinkNest RX4 11 yX11_init RX12) U := h.2.2 _ (List.mem_of_getElem? (i := 6) rfl)
theorem nx7 {D : va_G} {cy : Nat → ClassId} {U : State} (h : xK D cy U) : va_Nw (.methodLinkNest RX1 21 yX2_init RX12) U := h.2.2 _ (List.mem_of_getElem? (i := 7) rfl)
theorem nx8 {D : va_G} {cy : Nat → ClassId} {U : State} (h : xK D cy U) : va_Nw (.methodLinkNest RX2 11 yX11_init RX12) U := h.2.2 _ (List.mem_of_getElem? (i := 8) rfl)
theorem nx9 {D : va_G} {cy : Nat → ClassId} {U : State} (h : xK D cy U) : va_Nw (.methodLinkNest RX3 82 yX9_init RX12) U := h.2.2 _ (List.mem_of_getElem? (i := 9) rfl)
theorem nx10 {D : va_G} {cy : Nat → ClassId} {U : State} (h : xK D cy U) : va_Nw (.methodLinkNest RX9 9 yX11_init RX12) U := h.2.2 _ (List.mem_of_getElem? (i := 10) rfl)
theorem nx11 {D : va_G} {cy : Nat → ClassId} {U : State} (h : xK D cy U) : va_Nw (.methodLinkNest RX3 83 yX6_init RX12) U := h.2.2 _ (List.mem_of_getElem? (i := 11) rfl)
theorem nx12 {D : va_G} {cy : Nat → ClassId} {U : State} (h : xK D cy U) : va_Nw (.methodLinkNest RX6 9 yX11_init RX12) U := h.2.2 _ (List.mem_of_getElem? (i := 12) rfl)
theorem nx13 {D : va_G} {cy : Nat → ClassId} {U : State} (h : xK D cy U) : va_Nw (.methodLinkNest RX3 84 yX8_init RX12) U := h.2.2 _ (List.mem_of_getElem? (i := 13) rfl)
theorem nx14 {D : va_G} {cy : Nat → ClassId} {U : State} (h : xK D cy U) : va_Nw (.methodLinkNest RX8 9 yX11_init RX12) U := h.2.2 _ (List.mem_of_getElem? (i := 14) rfl)
theorem ao2 {D : va_G} {cy : Nat → ClassId} {U : State} (h : xK D cy U) : va_AO RX2 U := h.2.1 _ (List.mem_of_getElem? (i := 0) rfl)
theorem ao3 {D : va_G} {cy : Nat → ClassId} {U : State} (h : xK D cy U) : va_AO RX3 U := h.2.1 _ (List.mem_of_getElem? (i := 1) rfl)
theorem ao5 {D : va_G} {cy : Nat → ClassId} {U : State} (h : xK D cy U) : va_AO RX5 U := h.2.1 _ (List.mem_of_getElem? (i := 2) rfl)
theorem ao6 {D : va_G} {cy : Nat → ClassId} {U : State} (h : xK D cy U) : va_AO RX6 U := h.2.1 _ (List.mem_of_getElem? (i := 3) rfl)
theorem ao8 {D : va_G} {cy : Nat → ClassId} {U : State} (h : xK D cy U) : va_AO RX8 U := h.2.1 _ (List.mem_of_getElem? (i := 4) rfl)
theorem ao9 {D : va_G} {cy : Nat → ClassId} {U : State} (h : xK D cy U) : va_AO RX9 U := h.2.1 _ (List.mem_of_getElem? (i := 5) rfl)
theorem ao10 {D : va_G} {cy : Nat → ClassId} {U : State} (h : xK D cy U) : va_AO RX10 U := h.2.1 _ (List.mem_of_getElem? (i := 6) rfl)
end
section
theorem gw77 : (Cond.methodLink RX11 3 objectInit) ∈ xG := xin1 77 (by decide +kernel) (by decide +kernel)
theorem gw27 : (Cond.instanceMethod objectInit) ∈ xG := xin1 27 (by decide +kernel) (by decide +kernel)
theorem gw28 : (Cond.code objectInit ⟨#[0xb1]⟩ 1 none) ∈ xG := xin1 28 (by decide +kernel) (by decide +kernel)
theorem gw62 : (Cond.arrayClass .byte) ∈ xG := xin1 62 (by decide +kernel) (by decide +kernel)
theorem gw78 : (Cond.fieldLink RX11 11 "CableNames$Word" "signs" "[B") ∈ xG := xin1 78 (by decide +kernel) (by decide +kernel)
theorem gw81 : (Cond.fieldLink RX11 15 "CableNames$Word" "size" "I") ∈ xG := xin1 81 (by decide +kernel) (by decide +kernel)
theorem gw95 : (Cond.methodLink RX10 1 objectInit) ∈ xG := xin1 95 (by decide +kernel) (by decide +kernel)
theorem gw96 : (Cond.classLink RX10 7 RX11) ∈ xG := xin1 96 (by decide +kernel) (by decide +kernel)
theorem gw73 : (Cond.instantiable RX11 2) ∈ xG := xin1 73 (by decide +kernel) (by decide +kernel)
theorem gw4 : (Cond.initialized RX11) ∈ xG := xin1 4 (by decide +kernel) (by decide +kernel)
theorem gw76 : (Cond.code yX11_init cX11_init 1 none) ∈ xG := xin1 76 (by decide +kernel) (by decide +kernel)
theorem gw75 : (Cond.instanceMethod yX11_init) ∈ xG := xin1 75 (by decide +kernel) (by decide +kernel)
theorem gw98 : (Cond.fieldLink RX10 10 "CableNames$Told" "word" "LCableNames$Word;") ∈ xG := xin1 98 (by decide +kernel) (by decide +kernel)
theorem gw103 : (Cond.fieldLink RX10 16 "CableNames$Told" "name" "LCableNames$Word;") ∈ xG := xin1 103 (by decide +kernel) (by decide +kernel)
theorem gw106 : (Cond.fieldLink RX10 19 "CableNames$Told" "sort" "I") ∈ xG := xin1 106 (by decide +kernel) (by decide +kernel)
theorem gw111 : (Cond.fieldLink RX10 23 "CableNames$Told" "life" "I") ∈ xG := xin1 111 (by decide +kernel) (by decide +kernel)
theorem gw115 : (Cond.fieldLink RX10 26 "CableNames$Told" "value" "I") ∈ xG := xin1 115 (by decide +kernel) (by decide +kernel)
theorem gw119 : (Cond.fieldLink RX10 29 "CableNames$Told" "unique" "Z") ∈ xG := xin1 119 (by decide +kernel) (by decide +kernel)
theorem gw263 : (Cond.methodLink RX2 3 objectInit) ∈ xG := xin2 23 (by decide +kernel) (by decide +kernel)
theorem gw264 : (Cond.classLink RX2 9 RX11) ∈ xG := xin2 24 (by decide +kernel) (by decide +kernel)
theorem gw266 : (Cond.fieldLink RX2 12 "CableNames$Entry" "word" "LCableNames$Word;") ∈ xG := xin2 26 (by decide +kernel) (by decide +kernel)
theorem gw268 : (Cond.fieldLink RX2 18 "CableNames$Entry" "name" "LCableNames$Word;") ∈ xG := xin2 28 (by decide +kernel) (by decide +kernel)
theorem gw270 : (Cond.fieldLink RX2 21 "CableNames$Entry" "sort" "I") ∈ xG := xin2 30 (by decide +kernel) (by decide +kernel)
theorem gw272 : (Cond.fieldLink RX2 25 "CableNames$Entry" "value" "I") ∈ xG := xin2 32 (by decide +kernel) (by decide +kernel)
theorem gw274 : (Cond.fieldLink RX2 28 "CableNames$Entry" "life" "I") ∈ xG := xin2 34 (by decide +kernel) (by decide +kernel)
theorem gw275 : (Cond.fieldLink RX2 31 "CableNames$Entry" "refreshes" "I") ∈ xG := xin2 35 (by decide +kernel) (by decide +kernel)
theorem gw276 : (Cond.fieldLink RX2 34 "CableNames$Entry" "begins" "J") ∈ xG := xin2 36 (by decide +kernel) (by decide +kernel)
theorem gw278 : (Cond.fieldLink RX2 38 "CableNames$Entry" "ends" "J") ∈ xG := xin2 38 (by decide +kernel) (by decide +kernel)
theorem gw280 : (Cond.fieldLink RX2 41 "CableNames$Entry" "due" "J") ∈ xG := xin2 40 (by decide +kernel) (by decide +kernel)
theorem gw283 : (Cond.fieldLink RX2 44 "CableNames$Entry" "isDying" "Z") ∈ xG := xin2 43 (by decide +kernel) (by decide +kernel)
theorem gw320 : (Cond.methodLink RX9 1 objectInit) ∈ xG := xin2 80 (by decide +kernel) (by decide +kernel)
theorem gw321 : (Cond.classLink RX9 7 RX11) ∈ xG := xin2 81 (by decide +kernel) (by decide +kernel)
theorem gw323 : (Cond.fieldLink RX9 10 "CableNames$Service" "type" "LCableNames$Word;") ∈ xG := xin2 83 (by decide +kernel) (by decide +kernel)
theorem gw327 : (Cond.fieldLink RX9 16 "CableNames$Service" "port" "I") ∈ xG := xin2 87 (by decide +kernel) (by decide +kernel)
theorem gw372 : (Cond.methodLink RX8 1 objectInit) ∈ xG := xin2 132 (by decide +kernel) (by decide +kernel)
theorem gw373 : (Cond.classLink RX8 7 RX11) ∈ xG := xin2 133 (by decide +kernel) (by decide +kernel)
theorem gw375 : (Cond.fieldLink RX8 10 "CableNames$Reply" "type" "LCableNames$Word;") ∈ xG := xin2 135 (by decide +kernel) (by decide +kernel)
theorem gw378 : (Cond.fieldLink RX8 16 "CableNames$Reply" "due" "J") ∈ xG := xin2 138 (by decide +kernel) (by decide +kernel)
theorem gw339 : (Cond.methodLink RX6 1 objectInit) ∈ xG := xin2 99 (by decide +kernel) (by decide +kernel)
theorem gw340 : (Cond.classLink RX6 7 RX11) ∈ xG := xin2 100 (by decide +kernel) (by decide +kernel)
theorem gw342 : (Cond.fieldLink RX6 10 "CableNames$Question" "word" "LCableNames$Word;") ∈ xG := xin2 102 (by decide +kernel) (by decide +kernel)
theorem gw346 : (Cond.fieldLink RX6 16 "CableNames$Question" "isOpen" "Z") ∈ xG := xin2 106 (by decide +kernel) (by decide +kernel)
theorem gw349 : (Cond.fieldLink RX6 20 "CableNames$Question" "sort" "I") ∈ xG := xin2 109 (by decide +kernel) (by decide +kernel)
theorem gw353 : (Cond.fieldLink RX6 24 "CableNames$Question" "wait" "I") ∈ xG := xin2 113 (by decide +kernel) (by decide +kernel)
theorem gw354 : (Cond.fieldLink RX6 27 "CableNames$Question" "due" "J") ∈ xG := xin2 114 (by decide +kernel) (by decide +kernel)
theorem gw182 : (Cond.methodLink RX0 3 objectInit) ∈ xG := xin1 182 (by decide +kernel) (by decide +kernel)
theorem gw185 : (Cond.fieldLink RX0 9 "CableNames$AddressClaim" "tries" "I") ∈ xG := xin1 185 (by decide +kernel) (by decide +kernel)
theorem gw187 : (Cond.fieldLink RX0 15 "CableNames$AddressClaim" "address" "I") ∈ xG := xin1 187 (by decide +kernel) (by decide +kernel)
theorem gw191 : (Cond.fieldLink RX0 18 "CableNames$AddressClaim" "step" "I") ∈ xG := xin1 191 (by decide +kernel) (by decide +kernel)
theorem gw183 : (Cond.constantLong RX0 21 (4611686018427387904)) ∈ xG := xin1 183 (by decide +kernel) (by decide +kernel)
theorem gw193 : (Cond.fieldLink RX0 23 "CableNames$AddressClaim" "due" "J") ∈ xG := xin1 193 (by decide +kernel) (by decide +kernel)
theorem gw184 : (Cond.constantLong RX0 27 (-1)) ∈ xG := xin1 184 (by decide +kernel) (by decide +kernel)
theorem gw196 : (Cond.fieldLink RX0 29 "CableNames$AddressClaim" "defended" "J") ∈ xG := xin1 196 (by decide +kernel) (by decide +kernel)
theorem gw214 : (Cond.methodLink RX4 3 objectInit) ∈ xG := xin1 214 (by decide +kernel) (by decide +kernel)
theorem gw215 : (Cond.classLink RX4 9 RX11) ∈ xG := xin1 215 (by decide +kernel) (by decide +kernel)
theorem gw218 : (Cond.fieldLink RX4 12 "CableNames$NameClaim" "wish" "LCableNames$Word;") ∈ xG := xin1 218 (by decide +kernel) (by decide +kernel)
theorem gw220 : (Cond.fieldLink RX4 18 "CableNames$NameClaim" "name" "LCableNames$Word;") ∈ xG := xin1 220 (by decide +kernel) (by decide +kernel)
theorem gw223 : (Cond.fieldLink RX4 21 "CableNames$NameClaim" "state" "I") ∈ xG := xin1 223 (by decide +kernel) (by decide +kernel)
theorem gw226 : (Cond.fieldLink RX4 25 "CableNames$NameClaim" "number" "I") ∈ xG := xin1 226 (by decide +kernel) (by decide +kernel)
theorem gw227 : (Cond.fieldLink RX4 28 "CableNames$NameClaim" "step" "I") ∈ xG := xin1 227 (by decide +kernel) (by decide +kernel)
theorem gw217 : (Cond.constantLong RX4 31 (4611686018427387904)) ∈ xG := xin1 217 (by decide +kernel) (by decide +kernel)
theorem gw229 : (Cond.fieldLink RX4 33 "CableNames$NameClaim" "due" "J") ∈ xG := xin1 229 (by decide +kernel) (by decide +kernel)
theorem gw36 : (Cond.methodLink RX5 3 objectInit) ∈ xG := xin1 36 (by decide +kernel) (by decide +kernel)
theorem gw37 : (Cond.fieldLink RX5 11 "CableNames$Packet" "bytes" "[B") ∈ xG := xin1 37 (by decide +kernel) (by decide +kernel)
theorem gw63 : (Cond.arrayClass .int) ∈ xG := xin1 63 (by decide +kernel) (by decide +kernel)
theorem gw39 : (Cond.fieldLink RX5 15 "CableNames$Packet" "wordPlaces" "[I") ∈ xG := xin1 39 (by decide +kernel) (by decide +kernel)
theorem gw40 : (Cond.fieldLink RX5 19 "CableNames$Packet" "size" "I") ∈ xG := xin1 40 (by decide +kernel) (by decide +kernel)
theorem gw43 : (Cond.fieldLink RX5 23 "CableNames$Packet" "wordCount" "I") ∈ xG := xin1 43 (by decide +kernel) (by decide +kernel)
theorem gw45 : (Cond.fieldLink RX5 26 "CableNames$Packet" "sender" "I") ∈ xG := xin1 45 (by decide +kernel) (by decide +kernel)
theorem gw47 : (Cond.fieldLink RX5 29 "CableNames$Packet" "part" "I") ∈ xG := xin1 47 (by decide +kernel) (by decide +kernel)
theorem xV {own : String} {idx : Nat} {C : String} {y : MethodName} {c : ByteArray} {n : Nat} {r : Option FieldType} (h1 : Cond.methodLink own idx y ∈ xG) (h2 : Cond.instanceMethod y ∈ xG) (h3 : Cond.selects C y y ∈ xG) (h4 : Cond.initialized C ∈ xG) (h5 : Cond.code y c n r ∈ xG) : GoodIn xG (wsV own idx C y (xw y c n r)) := by
  have h : ∀ w ∈ wsV own idx C y (xw y c n r), w ∈ xG := by
    intro w hw
    unfold wsV at hw
    rcases List.mem_append.mp hw with q | q
    · rcases List.mem_cons.mp q with e | q
      · exact e ▸ h1
      · rcases List.mem_cons.mp q with e | q
        · exact e ▸ h2
        · rcases List.mem_cons.mp q with e | q
          · exact e ▸ h3
          · rcases List.mem_cons.mp q with e | q
            · exact e ▸ h4
            · exact absurd q List.not_mem_nil
    · exact xw_in h5 w q
  exact fun w hw => ⟨h w hw, xgood (h w hw)⟩
set_option maxHeartbeats 4000000 in
set_option maxRecDepth 100000 in
theorem c_Word_init (l : Launch) (D : va_G) (cy : Nat → ClassId) (w : Nat) : xMv l D cy yX11_init cX11_init 1 ({ frames := 1, cells := 1, slots := 15, locals := 12 }) [.ref w] [(w, .inr (11, [.null, .int 0]))] (S := Unit) (fun _ => True) (fun _ => []) := by
  intro sz
  refine Met.ofW (cc := cX11_init) (maxL := 1) (ret := none) (by decide) rfl ?_
  intro p e s m args below meth c s₁ B hml hv
  obtain ⟨rfl, hsz, hP, hK, hD0⟩ := hv
  have hx := B.exec
  have hb := B.bytes
  have hr := B.returns
  have hts0 := atoms_spec (ws := xw yX11_init cX11_init 1 none) B.pre
  have hts : ∀ w ∈ xG, w.before _ s = true := fun w h => hts0 w (List.mem_cons_of_mem _ h)
  have hown : s.vm.findClass RX11 = some m.cls := findClass_of_methodNamed B.named
  have hlocks := B.notSynchronized
  have hin : meth.name = "<init>" := (name_of_methodNamed B.named B.method).1
  subst hsz
  have hD := hD0.self (sz := s.heap.size)
  generalize hAe : va_A [(w, .inr (11, [.null, .int 0]))] s.heap.size = A at hD ⊢
  have hA : ∀ q : Nat, s.heap.size ≤ q → A q := fun q h => by rw [← hAe]; exact Or.inr h
  have hS : va_S A s.heap s.heap [] := va_S.rf
  have hl := lv_entry ([.ref w]) (n := 1) (Nat.le_of_ble_eq_true rfl)
  rw [lg_entry_eq]
  generalize (lg_sl ([.ref w]) ++ List.replicate (1 - (lg_sl ([.ref w])).length) Slot.unset).toArray = ls at hl ⊢
  have hl : lv_has ls 1 [(0, .ref w)] := hl
  refine lv_aload_n hx hb dX11_init_0 rfl (lv_at hl 0 rfl) ?_
  refine W.objInit hx hb hown (hts _ gw77) (hts _ gw27) (hts _ gw28) rfl (by rw [hml]; exact hl.1) rfl dX11_init_1 (Nat.le_of_ble_eq_true rfl) (Nat.le_of_ble_eq_true rfl) ?_
  refine W.eq (g2 := F0 m 4 ls []) rfl ?_
  refine lv_aload_n hx hb dX11_init_4 rfl (lv_at hl 0 rfl) ?_
  refine lv_bipush (v := 15) hx hb dX11_init_5 (by decide) ?_
  refine x_newa (atype := .byte) (a0 := (15, .inl (fun _ => 0))) hx hb (hts _ gw62) hK.1 hP hD hS hA 0 rfl (fun _ => rfl) (by decide) (by decide +kernel) (by decide) (Nat.le_of_ble_eq_true rfl) (Nat.le_of_ble_eq_true rfl) dX11_init_7 (fun q_1 H hP hD hS => ?_)
  have hP : va_P D vwCl [(w, .inr (11, [.null, .int 0])), (q_1, .inl (cy 0, 15, .inl (fun _ => 0)))] H := hP
  have hD : va_D A [(w, .inr (11, [.null, .int 0])), (q_1, .inl (cy 0, 15, .inl (fun _ => 0)))] := hD
  refine W.widen (k := 1) (n := 15) (Nat.le_of_ble_eq_true rfl) (Nat.le_of_ble_eq_true rfl) ?_
  refine va_putF (D := D) (ci := 11) (v := .ref q_1) (ty := tyX11 0) (C := RX11) (T := TX11) (N := 2) hx hb hts iG11 tyX11 tyX11_ok nmX11 hown hK.1 hP hD hS 0 rfl rfl 0 (by decide) (hts _ gw78) (fun _ h9 => h9) rfl hin rfl (by decide +kernel) rfl rfl (Nat.le_of_ble_eq_true rfl) dX11_init_9 (fun H locs hP hD hS => ?_)
  have hP : va_P D vwCl [(w, .inr (11, [.ref q_1, .int 0])), (q_1, .inl (cy 0, 15, .inl (fun _ => 0)))] H := hP
  have hD : va_D A [(w, .inr (11, [.ref q_1, .int 0])), (q_1, .inl (cy 0, 15, .inl (fun _ => 0)))] := hD
  refine lv_aload_n hx hb dX11_init_12 rfl (lv_at hl 0 rfl) ?_
  refine lv_iconst (v := 0) hx hb dX11_init_13 (by decide) ?_
  refine va_put (D := D) (ci := 11) (v := .int 0) (ty := .int) (C := RX11) (T := TX11) (N := 2) hx hb hts iG11 tyX11 tyX11_ok nmX11 hown hK.1 hP hD hS 0 rfl rfl 1 (by decide) (hts _ gw81) (fun _ h9 => h9) rfl (by decide +kernel) rfl rfl (Nat.le_of_ble_eq_true rfl) dX11_init_14 (fun H locs hP hD hS => ?_)
  have hP : va_P D vwCl [(w, .inr (11, [.ref q_1, .int 0])), (q_1, .inl (cy 0, 15, .inl (fun _ => 0)))] H := hP
  have hD : va_D A [(w, .inr (11, [.ref q_1, .int 0])), (q_1, .inl (cy 0, 15, .inl (fun _ => 0)))] := hD
  have hP9 := hP.sub (ws' := []) [] rfl
  have hD9 := hD.sub (ws' := []) [] (by decide) rfl
  refine W.widen (k := 1) (n := 15) (Nat.le_of_ble_eq_true rfl) (Nat.le_of_ble_eq_true rfl) ?_
  exact W.vret hx hb hr (fun t ht hW => ⟨⟨(), rfl, trivial, by rw [ht]; exact hP9, hD9⟩, hS.F ht⟩) hS.2.2 dX11_init_17
set_option maxHeartbeats 4000000 in
set_option maxRecDepth 100000 in
theorem c_Told_init (l : Launch) (D : va_G) (cy : Nat → ClassId) (h : Nat) : xMv l D cy yX10_init cX10_init 1 ({ frames := 2, cells := 4, slots := 34, locals := 32 }) [.ref h] [(h, .inr (10, [.null, .null, .int 0, .int 0, .int 0, .int 0]))] (S := Unit) (fun _ => True) (fun _ => []) := by
  intro sz
  refine Met.ofW (cc := cX10_init) (maxL := 1) (ret := none) (by decide) rfl ?_
  intro p e s m args below meth c s₁ B hml hv
  obtain ⟨rfl, hsz, hP, hK, hD0⟩ := hv
  have hx := B.exec
  have hb := B.bytes
  have hr := B.returns
  have hts0 := atoms_spec (ws := xw yX10_init cX10_init 1 none) B.pre
  have hts : ∀ w ∈ xG, w.before _ s = true := fun w h => hts0 w (List.mem_cons_of_mem _ h)
  have hown : s.vm.findClass RX10 = some m.cls := findClass_of_methodNamed B.named
  have hlocks := B.notSynchronized
  have hin : meth.name = "<init>" := (name_of_methodNamed B.named B.method).1
  subst hsz
  have hD := hD0.self (sz := s.heap.size)
  generalize hAe : va_A [(h, .inr (10, [.null, .null, .int 0, .int 0, .int 0, .int 0]))] s.heap.size = A at hD ⊢
  have hA : ∀ q : Nat, s.heap.size ≤ q → A q := fun q h => by rw [← hAe]; exact Or.inr h
  have hS : va_S A s.heap s.heap [] := va_S.rf
  have hl := lv_entry ([.ref h]) (n := 1) (Nat.le_of_ble_eq_true rfl)
  rw [lg_entry_eq]
  generalize (lg_sl ([.ref h]) ++ List.replicate (1 - (lg_sl ([.ref h])).length) Slot.unset).toArray = ls at hl ⊢
  have hl : lv_has ls 1 [(0, .ref h)] := hl
  refine lv_aload_n hx hb dX10_init_0 rfl (lv_at hl 0 rfl) ?_
  refine W.objInit hx hb hown (hts _ gw95) (hts _ gw27) (hts _ gw28) rfl (by rw [hml]; exact hl.1) rfl dX10_init_1 (Nat.le_of_ble_eq_true rfl) (Nat.le_of_ble_eq_true rfl) ?_
  refine W.eq (g2 := F0 m 4 ls []) rfl ?_
  refine lv_aload_n hx hb dX10_init_4 rfl (lv_at hl 0 rfl) ?_
  refine va_new (ci := 11) (fs := df11) (C := RX11) (T := TX11) (N := 2) hx hb hts iG11 tyX11 tyX11_ok hown (hts _ gw96) (hts _ gw73) (hts _ gw4) hK.1 hP hD hS hA rfl nf11 (Nat.le_of_ble_eq_true rfl) (Nat.le_of_ble_eq_true rfl) dX10_init_5 (fun q_1 H hP hD hS => ?_)
  have hP : va_P D vwCl [(h, .inr (10, [.null, .null, .int 0, .int 0, .int 0, .int 0])), (q_1, .inr (11, [.null, .int 0]))] H := hP
  have hD : va_D A [(h, .inr (10, [.null, .null, .int 0, .int 0, .int 0, .int 0])), (q_1, .inr (11, [.null, .int 0]))] := hD
  refine W.widen (k := 1) (n := 2) (Nat.le_of_ble_eq_true rfl) (Nat.le_of_ble_eq_true rfl) ?_
  refine lv_dup hx hb dX10_init_8 rfl ?_
  refine x_callv [(q_1, .inr (11, [.null, .int 0]))] [(h, .inr (10, [.null, .null, .int 0, .int 0, .int 0, .int 0]))] (va_runIN (As := []) (rest := [.ref q_1, .ref h]) ⟨hx, hb, hml, hown, hts⟩ (c_Word_init l D cy q_1 H.size) ⟨va_cnB 0 hts (xw_good gw76) rfl rfl rfl (nx3 hK) (hts _ gw4) (by decide +kernel) ⟨(Nat.le_of_ble_eq_true rfl), (Nat.le_of_ble_eq_true rfl)⟩, rfl, hts _ gw75⟩ (xpreS hK (hP.sub (ws' := [(q_1, .inr (11, [.null, .int 0]))]) [1] rfl) (hD.sub (ws' := [(q_1, .inr (11, [.null, .int 0]))]) [1] (by decide) rfl)) rfl rfl hl.1 rfl (lv_room (Nat.le_of_ble_eq_true rfl)) dX10_init_9 ⟨(Nat.le_of_ble_eq_true rfl), (Nat.le_of_ble_eq_true rfl)⟩) hP hD hS hA [1] [0] rfl rfl (by decide) (by decide) (fun u_2 H locs hw_u_2 hP hD hS => ?_)
  have hP : va_P D vwCl [(h, .inr (10, [.null, .null, .int 0, .int 0, .int 0, .int 0]))] H := hP
  have hD : va_D A [(h, .inr (10, [.null, .null, .int 0, .int 0, .int 0, .int 0]))] := hD
  refine W.widen (k := 2) (n := 17) (Nat.le_of_ble_eq_true rfl) (Nat.le_of_ble_eq_true rfl) ?_
  refine va_putF (D := D) (ci := 10) (v := .ref q_1) (ty := tyX10 0) (C := RX10) (T := TX10) (N := 6) hx hb hts iG10 tyX10 tyX10_ok nmX10 hown hK.1 hP hD hS 0 rfl rfl 0 (by decide) (hts _ gw98) (fun _ h9 => h9) rfl hin rfl (by decide +kernel) rfl rfl (Nat.le_of_ble_eq_true rfl) dX10_init_12 (fun H locs hP hD hS => ?_)
  have hP : va_P D vwCl [(h, .inr (10, [.ref q_1, .null, .int 0, .int 0, .int 0, .int 0]))] H := hP
  have hD : va_D A [(h, .inr (10, [.ref q_1, .null, .int 0, .int 0, .int 0, .int 0]))] := hD
  refine lv_aload_n hx hb dX10_init_15 rfl (lv_at hl 0 rfl) ?_
  refine va_new (ci := 11) (fs := df11) (C := RX11) (T := TX11) (N := 2) hx hb hts iG11 tyX11 tyX11_ok hown (hts _ gw96) (hts _ gw73) (hts _ gw4) hK.1 hP hD hS hA rfl nf11 (Nat.le_of_ble_eq_true rfl) (Nat.le_of_ble_eq_true rfl) dX10_init_16 (fun q_3 H hP hD hS => ?_)
  have hP : va_P D vwCl [(h, .inr (10, [.ref q_1, .null, .int 0, .int 0, .int 0, .int 0])), (q_3, .inr (11, [.null, .int 0]))] H := hP
  have hD : va_D A [(h, .inr (10, [.ref q_1, .null, .int 0, .int 0, .int 0, .int 0])), (q_3, .inr (11, [.null, .int 0]))] := hD
  refine W.widen (k := 3) (n := 19) (Nat.le_of_ble_eq_true rfl) (Nat.le_of_ble_eq_true rfl) ?_
  refine lv_dup hx hb dX10_init_19 rfl ?_
  refine x_callv [(q_3, .inr (11, [.null, .int 0]))] [(h, .inr (10, [.ref q_1, .null, .int 0, .int 0, .int 0, .int 0]))] (va_runIN (As := []) (rest := [.ref q_3, .ref h]) ⟨hx, hb, hml, hown, hts⟩ (c_Word_init l D cy q_3 H.size) ⟨va_cnB 0 hts (xw_good gw76) rfl rfl rfl (nx3 hK) (hts _ gw4) (by decide +kernel) ⟨(Nat.le_of_ble_eq_true rfl), (Nat.le_of_ble_eq_true rfl)⟩, rfl, hts _ gw75⟩ (xpreS hK (hP.sub (ws' := [(q_3, .inr (11, [.null, .int 0]))]) [1] rfl) (hD.sub (ws' := [(q_3, .inr (11, [.null, .int 0]))]) [1] (by decide) rfl)) rfl rfl hl.1 rfl (lv_room (Nat.le_of_ble_eq_true rfl)) dX10_init_20 ⟨(Nat.le_of_ble_eq_true rfl), (Nat.le_of_ble_eq_true rfl)⟩) hP hD hS hA [1] [0] rfl rfl (by decide) (by decide) (fun u_4 H locs hw_u_4 hP hD hS => ?_)
  have hP : va_P D vwCl [(h, .inr (10, [.ref q_1, .null, .int 0, .int 0, .int 0, .int 0]))] H := hP
  have hD : va_D A [(h, .inr (10, [.ref q_1, .null, .int 0, .int 0, .int 0, .int 0]))] := hD
  refine W.widen (k := 4) (n := 34) (Nat.le_of_ble_eq_true rfl) (Nat.le_of_ble_eq_true rfl) ?_
  refine va_putF (D := D) (ci := 10) (v := .ref q_3) (ty := tyX10 1) (C := RX10) (T := TX10) (N := 6) hx hb hts iG10 tyX10 tyX10_ok nmX10 hown hK.1 hP hD hS 0 rfl rfl 1 (by decide) (hts _ gw103) (fun _ h9 => h9) rfl hin rfl (by decide +kernel) rfl rfl (Nat.le_of_ble_eq_true rfl) dX10_init_23 (fun H locs hP hD hS => ?_)
  have hP : va_P D vwCl [(h, .inr (10, [.ref q_1, .ref q_3, .int 0, .int 0, .int 0, .int 0]))] H := hP
  have hD : va_D A [(h, .inr (10, [.ref q_1, .ref q_3, .int 0, .int 0, .int 0, .int 0]))] := hD
  refine lv_aload_n hx hb dX10_init_26 rfl (lv_at hl 0 rfl) ?_
  refine lv_iconst (v := 0) hx hb dX10_init_27 (by decide) ?_
  refine va_put (D := D) (ci := 10) (v := .int 0) (ty := .int) (C := RX10) (T := TX10) (N := 6) hx hb hts iG10 tyX10 tyX10_ok nmX10 hown hK.1 hP hD hS 0 rfl rfl 2 (by decide) (hts _ gw106) (fun _ h9 => h9) rfl (by decide +kernel) rfl rfl (Nat.le_of_ble_eq_true rfl) dX10_init_28 (fun H locs hP hD hS => ?_)
  have hP : va_P D vwCl [(h, .inr (10, [.ref q_1, .ref q_3, .int 0, .int 0, .int 0, .int 0]))] H := hP
  have hD : va_D A [(h, .inr (10, [.ref q_1, .ref q_3, .int 0, .int 0, .int 0, .int 0]))] := hD
  refine lv_aload_n hx hb dX10_init_31 rfl (lv_at hl 0 rfl) ?_
  refine lv_iconst (v := 0) hx hb dX10_init_32 (by decide) ?_
  refine va_put (D := D) (ci := 10) (v := .int 0) (ty := .int) (C := RX10) (T := TX10) (N := 6) hx hb hts iG10 tyX10 tyX10_ok nmX10 hown hK.1 hP hD hS 0 rfl rfl 3 (by decide) (hts _ gw111) (fun _ h9 => h9) rfl (by decide +kernel) rfl rfl (Nat.le_of_ble_eq_true rfl) dX10_init_33 (fun H locs hP hD hS => ?_)
  have hP : va_P D vwCl [(h, .inr (10, [.ref q_1, .ref q_3, .int 0, .int 0, .int 0, .int 0]))] H := hP
  have hD : va_D A [(h, .inr (10, [.ref q_1, .ref q_3, .int 0, .int 0, .int 0, .int 0]))] := hD
  refine lv_aload_n hx hb dX10_init_36 rfl (lv_at hl 0 rfl) ?_
  refine lv_iconst (v := 0) hx hb dX10_init_37 (by decide) ?_
  refine va_put (D := D) (ci := 10) (v := .int 0) (ty := .int) (C := RX10) (T := TX10) (N := 6) hx hb hts iG10 tyX10 tyX10_ok nmX10 hown hK.1 hP hD hS 0 rfl rfl 4 (by decide) (hts _ gw115) (fun _ h9 => h9) rfl (by decide +kernel) rfl rfl (Nat.le_of_ble_eq_true rfl) dX10_init_38 (fun H locs hP hD hS => ?_)
  have hP : va_P D vwCl [(h, .inr (10, [.ref q_1, .ref q_3, .int 0, .int 0, .int 0, .int 0]))] H := hP
  have hD : va_D A [(h, .inr (10, [.ref q_1, .ref q_3, .int 0, .int 0, .int 0, .int 0]))] := hD
  refine lv_aload_n hx hb dX10_init_41 rfl (lv_at hl 0 rfl) ?_
  refine lv_iconst (v := 0) hx hb dX10_init_42 (by decide) ?_
  refine va_put (D := D) (ci := 10) (v := .int 0) (ty := .boolean) (C := RX10) (T := TX10) (N := 6) hx hb hts iG10 tyX10 tyX10_ok nmX10 hown hK.1 hP hD hS 0 rfl rfl 5 (by decide) (hts _ gw119) (fun _ h9 => h9) rfl (by decide +kernel) rfl rfl (Nat.le_of_ble_eq_true rfl) dX10_init_43 (fun H locs hP hD hS => ?_)
  have hP : va_P D vwCl [(h, .inr (10, [.ref q_1, .ref q_3, .int 0, .int 0, .int 0, .int 0]))] H := hP
  have hD : va_D A [(h, .inr (10, [.ref q_1, .ref q_3, .int 0, .int 0, .int 0, .int 0]))] := hD
  have hP9 := hP.sub (ws' := []) [] rfl
  have hD9 := hD.sub (ws' := []) [] (by decide) rfl
  refine W.widen (k := 4) (n := 34) (Nat.le_of_ble_eq_true rfl) (Nat.le_of_ble_eq_true rfl) ?_
  exact W.vret hx hb hr (fun t ht hW => ⟨⟨(), rfl, trivial, by rw [ht]; exact hP9, hD9⟩, hS.F ht⟩) hS.2.2 dX10_init_46
set_option maxHeartbeats 4000000 in
set_option maxRecDepth 100000 in
theorem c_Entry_init (l : Launch) (D : va_G) (cy : Nat → ClassId) (h : Nat) : xMv l D cy yX2_init cX2_init 1 ({ frames := 2, cells := 4, slots := 34, locals := 32 }) [.ref h] [(h, .inr (2, [.null, .null, .int 0, .int 0, .int 0, .int 0, .long 0, .long 0, .long 0, .int 0]))] (S := Unit) (fun _ => True) (fun _ => []) := by
  intro sz
  refine Met.ofW (cc := cX2_init) (maxL := 1) (ret := none) (by decide) rfl ?_
  intro p e s m args below meth c s₁ B hml hv
  obtain ⟨rfl, hsz, hP, hK, hD0⟩ := hv
  have hx := B.exec
  have hb := B.bytes
  have hr := B.returns
  have hts0 := atoms_spec (ws := xw yX2_init cX2_init 1 none) B.pre
  have hts : ∀ w ∈ xG, w.before _ s = true := fun w h => hts0 w (List.mem_cons_of_mem _ h)
  have hown : s.vm.findClass RX2 = some m.cls := findClass_of_methodNamed B.named
  have hlocks := B.notSynchronized
  have hin : meth.name = "<init>" := (name_of_methodNamed B.named B.method).1
  subst hsz
  have hD := hD0.self (sz := s.heap.size)
  generalize hAe : va_A [(h, .inr (2, [.null, .null, .int 0, .int 0, .int 0, .int 0, .long 0, .long 0, .long 0, .int 0]))] s.heap.size = A at hD ⊢
  have hA : ∀ q : Nat, s.heap.size ≤ q → A q := fun q h => by rw [← hAe]; exact Or.inr h
  have hS : va_S A s.heap s.heap [] := va_S.rf
  have hl := lv_entry ([.ref h]) (n := 1) (Nat.le_of_ble_eq_true rfl)
  rw [lg_entry_eq]
  generalize (lg_sl ([.ref h]) ++ List.replicate (1 - (lg_sl ([.ref h])).length) Slot.unset).toArray = ls at hl ⊢
  have hl : lv_has ls 1 [(0, .ref h)] := hl
  refine lv_aload_n hx hb dX2_init_0 rfl (lv_at hl 0 rfl) ?_
  refine W.objInit hx hb hown (hts _ gw263) (hts _ gw27) (hts _ gw28) rfl (by rw [hml]; exact hl.1) rfl dX2_init_1 (Nat.le_of_ble_eq_true rfl) (Nat.le_of_ble_eq_true rfl) ?_
  refine W.eq (g2 := F0 m 4 ls []) rfl ?_
  refine lv_aload_n hx hb dX2_init_4 rfl (lv_at hl 0 rfl) ?_
  refine va_new (ci := 11) (fs := df11) (C := RX11) (T := TX11) (N := 2) hx hb hts iG11 tyX11 tyX11_ok hown (hts _ gw264) (hts _ gw73) (hts _ gw4) hK.1 hP hD hS hA rfl nf11 (Nat.le_of_ble_eq_true rfl) (Nat.le_of_ble_eq_true rfl) dX2_init_5 (fun q_1 H hP hD hS => ?_)
  have hP : va_P D vwCl [(h, .inr (2, [.null, .null, .int 0, .int 0, .int 0, .int 0, .long 0, .long 0, .long 0, .int 0])), (q_1, .inr (11, [.null, .int 0]))] H := hP
  have hD : va_D A [(h, .inr (2, [.null, .null, .int 0, .int 0, .int 0, .int 0, .long 0, .long 0, .long 0, .int 0])), (q_1, .inr (11, [.null, .int 0]))] := hD
  refine W.widen (k := 1) (n := 2) (Nat.le_of_ble_eq_true rfl) (Nat.le_of_ble_eq_true rfl) ?_
  refine lv_dup hx hb dX2_init_8 rfl ?_
  refine x_callv [(q_1, .inr (11, [.null, .int 0]))] [(h, .inr (2, [.null, .null, .int 0, .int 0, .int 0, .int 0, .long 0, .long 0, .long 0, .int 0]))] (va_runIN (As := []) (rest := [.ref q_1, .ref h]) ⟨hx, hb, hml, hown, hts⟩ (c_Word_init l D cy q_1 H.size) ⟨va_cnB 0 hts (xw_good gw76) rfl rfl rfl (nx8 hK) (hts _ gw4) (by decide +kernel) ⟨(Nat.le_of_ble_eq_true rfl), (Nat.le_of_ble_eq_true rfl)⟩, rfl, hts _ gw75⟩ (xpreS hK (hP.sub (ws' := [(q_1, .inr (11, [.null, .int 0]))]) [1] rfl) (hD.sub (ws' := [(q_1, .inr (11, [.null, .int 0]))]) [1] (by decide) rfl)) rfl rfl hl.1 rfl (lv_room (Nat.le_of_ble_eq_true rfl)) dX2_init_9 ⟨(Nat.le_of_ble_eq_true rfl), (Nat.le_of_ble_eq_true rfl)⟩) hP hD hS hA [1] [0] rfl rfl (by decide) (by decide) (fun u_2 H locs hw_u_2 hP hD hS => ?_)
  have hP : va_P D vwCl [(h, .inr (2, [.null, .null, .int 0, .int 0, .int 0, .int 0, .long 0, .long 0, .long 0, .int 0]))] H := hP
  have hD : va_D A [(h, .inr (2, [.null, .null, .int 0, .int 0, .int 0, .int 0, .long 0, .long 0, .long 0, .int 0]))] := hD
  refine W.widen (k := 2) (n := 17) (Nat.le_of_ble_eq_true rfl) (Nat.le_of_ble_eq_true rfl) ?_
  refine va_putF (D := D) (ci := 2) (v := .ref q_1) (ty := tyX2 0) (C := RX2) (T := TX2) (N := 10) hx hb hts iG2 tyX2 tyX2_ok nmX2 hown hK.1 hP hD hS 0 rfl rfl 0 (by decide) (hts _ gw266) (fun _ h9 => h9) rfl hin rfl (by decide +kernel) rfl rfl (Nat.le_of_ble_eq_true rfl) dX2_init_12 (fun H locs hP hD hS => ?_)
  have hP : va_P D vwCl [(h, .inr (2, [.ref q_1, .null, .int 0, .int 0, .int 0, .int 0, .long 0, .long 0, .long 0, .int 0]))] H := hP
  have hD : va_D A [(h, .inr (2, [.ref q_1, .null, .int 0, .int 0, .int 0, .int 0, .long 0, .long 0, .long 0, .int 0]))] := hD
  refine lv_aload_n hx hb dX2_init_15 rfl (lv_at hl 0 rfl) ?_
  refine va_new (ci := 11) (fs := df11) (C := RX11) (T := TX11) (N := 2) hx hb hts iG11 tyX11 tyX11_ok hown (hts _ gw264) (hts _ gw73) (hts _ gw4) hK.1 hP hD hS hA rfl nf11 (Nat.le_of_ble_eq_true rfl) (Nat.le_of_ble_eq_true rfl) dX2_init_16 (fun q_3 H hP hD hS => ?_)
  have hP : va_P D vwCl [(h, .inr (2, [.ref q_1, .null, .int 0, .int 0, .int 0, .int 0, .long 0, .long 0, .long 0, .int 0])), (q_3, .inr (11, [.null, .int 0]))] H := hP
  have hD : va_D A [(h, .inr (2, [.ref q_1, .null, .int 0, .int 0, .int 0, .int 0, .long 0, .long 0, .long 0, .int 0])), (q_3, .inr (11, [.null, .int 0]))] := hD
  refine W.widen (k := 3) (n := 19) (Nat.le_of_ble_eq_true rfl) (Nat.le_of_ble_eq_true rfl) ?_
  refine lv_dup hx hb dX2_init_19 rfl ?_
  refine x_callv [(q_3, .inr (11, [.null, .int 0]))] [(h, .inr (2, [.ref q_1, .null, .int 0, .int 0, .int 0, .int 0, .long 0, .long 0, .long 0, .int 0]))] (va_runIN (As := []) (rest := [.ref q_3, .ref h]) ⟨hx, hb, hml, hown, hts⟩ (c_Word_init l D cy q_3 H.size) ⟨va_cnB 0 hts (xw_good gw76) rfl rfl rfl (nx8 hK) (hts _ gw4) (by decide +kernel) ⟨(Nat.le_of_ble_eq_true rfl), (Nat.le_of_ble_eq_true rfl)⟩, rfl, hts _ gw75⟩ (xpreS hK (hP.sub (ws' := [(q_3, .inr (11, [.null, .int 0]))]) [1] rfl) (hD.sub (ws' := [(q_3, .inr (11, [.null, .int 0]))]) [1] (by decide) rfl)) rfl rfl hl.1 rfl (lv_room (Nat.le_of_ble_eq_true rfl)) dX2_init_20 ⟨(Nat.le_of_ble_eq_true rfl), (Nat.le_of_ble_eq_true rfl)⟩) hP hD hS hA [1] [0] rfl rfl (by decide) (by decide) (fun u_4 H locs hw_u_4 hP hD hS => ?_)
  have hP : va_P D vwCl [(h, .inr (2, [.ref q_1, .null, .int 0, .int 0, .int 0, .int 0, .long 0, .long 0, .long 0, .int 0]))] H := hP
  have hD : va_D A [(h, .inr (2, [.ref q_1, .null, .int 0, .int 0, .int 0, .int 0, .long 0, .long 0, .long 0, .int 0]))] := hD
  refine W.widen (k := 4) (n := 34) (Nat.le_of_ble_eq_true rfl) (Nat.le_of_ble_eq_true rfl) ?_
  refine va_putF (D := D) (ci := 2) (v := .ref q_3) (ty := tyX2 1) (C := RX2) (T := TX2) (N := 10) hx hb hts iG2 tyX2 tyX2_ok nmX2 hown hK.1 hP hD hS 0 rfl rfl 1 (by decide) (hts _ gw268) (fun _ h9 => h9) rfl hin rfl (by decide +kernel) rfl rfl (Nat.le_of_ble_eq_true rfl) dX2_init_23 (fun H locs hP hD hS => ?_)
  have hP : va_P D vwCl [(h, .inr (2, [.ref q_1, .ref q_3, .int 0, .int 0, .int 0, .int 0, .long 0, .long 0, .long 0, .int 0]))] H := hP
  have hD : va_D A [(h, .inr (2, [.ref q_1, .ref q_3, .int 0, .int 0, .int 0, .int 0, .long 0, .long 0, .long 0, .int 0]))] := hD
  refine lv_aload_n hx hb dX2_init_26 rfl (lv_at hl 0 rfl) ?_
  refine lv_iconst (v := 0) hx hb dX2_init_27 (by decide) ?_
  refine va_put (D := D) (ci := 2) (v := .int 0) (ty := .int) (C := RX2) (T := TX2) (N := 10) hx hb hts iG2 tyX2 tyX2_ok nmX2 hown hK.1 hP hD hS 0 rfl rfl 2 (by decide) (hts _ gw270) (fun _ h9 => h9) rfl (by decide +kernel) rfl rfl (Nat.le_of_ble_eq_true rfl) dX2_init_28 (fun H locs hP hD hS => ?_)
  have hP : va_P D vwCl [(h, .inr (2, [.ref q_1, .ref q_3, .int 0, .int 0, .int 0, .int 0, .long 0, .long 0, .long 0, .int 0]))] H := hP
  have hD : va_D A [(h, .inr (2, [.ref q_1, .ref q_3, .int 0, .int 0, .int 0, .int 0, .long 0, .long 0, .long 0, .int 0]))] := hD
  refine lv_aload_n hx hb dX2_init_31 rfl (lv_at hl 0 rfl) ?_
  refine lv_iconst (v := 0) hx hb dX2_init_32 (by decide) ?_
  refine va_put (D := D) (ci := 2) (v := .int 0) (ty := .int) (C := RX2) (T := TX2) (N := 10) hx hb hts iG2 tyX2 tyX2_ok nmX2 hown hK.1 hP hD hS 0 rfl rfl 3 (by decide) (hts _ gw272) (fun _ h9 => h9) rfl (by decide +kernel) rfl rfl (Nat.le_of_ble_eq_true rfl) dX2_init_33 (fun H locs hP hD hS => ?_)
  have hP : va_P D vwCl [(h, .inr (2, [.ref q_1, .ref q_3, .int 0, .int 0, .int 0, .int 0, .long 0, .long 0, .long 0, .int 0]))] H := hP
  have hD : va_D A [(h, .inr (2, [.ref q_1, .ref q_3, .int 0, .int 0, .int 0, .int 0, .long 0, .long 0, .long 0, .int 0]))] := hD
  refine lv_aload_n hx hb dX2_init_36 rfl (lv_at hl 0 rfl) ?_
  refine lv_iconst (v := 0) hx hb dX2_init_37 (by decide) ?_
  refine va_put (D := D) (ci := 2) (v := .int 0) (ty := .int) (C := RX2) (T := TX2) (N := 10) hx hb hts iG2 tyX2 tyX2_ok nmX2 hown hK.1 hP hD hS 0 rfl rfl 4 (by decide) (hts _ gw274) (fun _ h9 => h9) rfl (by decide +kernel) rfl rfl (Nat.le_of_ble_eq_true rfl) dX2_init_38 (fun H locs hP hD hS => ?_)
  have hP : va_P D vwCl [(h, .inr (2, [.ref q_1, .ref q_3, .int 0, .int 0, .int 0, .int 0, .long 0, .long 0, .long 0, .int 0]))] H := hP
  have hD : va_D A [(h, .inr (2, [.ref q_1, .ref q_3, .int 0, .int 0, .int 0, .int 0, .long 0, .long 0, .long 0, .int 0]))] := hD
  refine lv_aload_n hx hb dX2_init_41 rfl (lv_at hl 0 rfl) ?_
  refine lv_iconst (v := 0) hx hb dX2_init_42 (by decide) ?_
  refine va_put (D := D) (ci := 2) (v := .int 0) (ty := .int) (C := RX2) (T := TX2) (N := 10) hx hb hts iG2 tyX2 tyX2_ok nmX2 hown hK.1 hP hD hS 0 rfl rfl 5 (by decide) (hts _ gw275) (fun _ h9 => h9) rfl (by decide +kernel) rfl rfl (Nat.le_of_ble_eq_true rfl) dX2_init_43 (fun H locs hP hD hS => ?_)
  have hP : va_P D vwCl [(h, .inr (2, [.ref q_1, .ref q_3, .int 0, .int 0, .int 0, .int 0, .long 0, .long 0, .long 0, .int 0]))] H := hP
  have hD : va_D A [(h, .inr (2, [.ref q_1, .ref q_3, .int 0, .int 0, .int 0, .int 0, .long 0, .long 0, .long 0, .int 0]))] := hD
  refine lv_aload_n hx hb dX2_init_46 rfl (lv_at hl 0 rfl) ?_
  refine lv_lconst (v := 0) hx hb dX2_init_47 (by decide) ?_
  refine va_put (D := D) (ci := 2) (v := .long 0) (ty := .long) (C := RX2) (T := TX2) (N := 10) hx hb hts iG2 tyX2 tyX2_ok nmX2 hown hK.1 hP hD hS 0 rfl rfl 6 (by decide) (hts _ gw276) (fun _ h9 => h9) rfl (by decide +kernel) rfl rfl (Nat.le_of_ble_eq_true rfl) dX2_init_48 (fun H locs hP hD hS => ?_)
  have hP : va_P D vwCl [(h, .inr (2, [.ref q_1, .ref q_3, .int 0, .int 0, .int 0, .int 0, .long 0, .long 0, .long 0, .int 0]))] H := hP
  have hD : va_D A [(h, .inr (2, [.ref q_1, .ref q_3, .int 0, .int 0, .int 0, .int 0, .long 0, .long 0, .long 0, .int 0]))] := hD
  refine lv_aload_n hx hb dX2_init_51 rfl (lv_at hl 0 rfl) ?_
  refine lv_lconst (v := 0) hx hb dX2_init_52 (by decide) ?_
  refine va_put (D := D) (ci := 2) (v := .long 0) (ty := .long) (C := RX2) (T := TX2) (N := 10) hx hb hts iG2 tyX2 tyX2_ok nmX2 hown hK.1 hP hD hS 0 rfl rfl 7 (by decide) (hts _ gw278) (fun _ h9 => h9) rfl (by decide +kernel) rfl rfl (Nat.le_of_ble_eq_true rfl) dX2_init_53 (fun H locs hP hD hS => ?_)
  have hP : va_P D vwCl [(h, .inr (2, [.ref q_1, .ref q_3, .int 0, .int 0, .int 0, .int 0, .long 0, .long 0, .long 0, .int 0]))] H := hP
  have hD : va_D A [(h, .inr (2, [.ref q_1, .ref q_3, .int 0, .int 0, .int 0, .int 0, .long 0, .long 0, .long 0, .int 0]))] := hD
  refine lv_aload_n hx hb dX2_init_56 rfl (lv_at hl 0 rfl) ?_
  refine lv_lconst (v := 0) hx hb dX2_init_57 (by decide) ?_
  refine va_put (D := D) (ci := 2) (v := .long 0) (ty := .long) (C := RX2) (T := TX2) (N := 10) hx hb hts iG2 tyX2 tyX2_ok nmX2 hown hK.1 hP hD hS 0 rfl rfl 8 (by decide) (hts _ gw280) (fun _ h9 => h9) rfl (by decide +kernel) rfl rfl (Nat.le_of_ble_eq_true rfl) dX2_init_58 (fun H locs hP hD hS => ?_)
  have hP : va_P D vwCl [(h, .inr (2, [.ref q_1, .ref q_3, .int 0, .int 0, .int 0, .int 0, .long 0, .long 0, .long 0, .int 0]))] H := hP
  have hD : va_D A [(h, .inr (2, [.ref q_1, .ref q_3, .int 0, .int 0, .int 0, .int 0, .long 0, .long 0, .long 0, .int 0]))] := hD
  refine lv_aload_n hx hb dX2_init_61 rfl (lv_at hl 0 rfl) ?_
  refine lv_iconst (v := 0) hx hb dX2_init_62 (by decide) ?_
  refine va_put (D := D) (ci := 2) (v := .int 0) (ty := .boolean) (C := RX2) (T := TX2) (N := 10) hx hb hts iG2 tyX2 tyX2_ok nmX2 hown hK.1 hP hD hS 0 rfl rfl 9 (by decide) (hts _ gw283) (fun _ h9 => h9) rfl (by decide +kernel) rfl rfl (Nat.le_of_ble_eq_true rfl) dX2_init_63 (fun H locs hP hD hS => ?_)
  have hP : va_P D vwCl [(h, .inr (2, [.ref q_1, .ref q_3, .int 0, .int 0, .int 0, .int 0, .long 0, .long 0, .long 0, .int 0]))] H := hP
  have hD : va_D A [(h, .inr (2, [.ref q_1, .ref q_3, .int 0, .int 0, .int 0, .int 0, .long 0, .long 0, .long 0, .int 0]))] := hD
  have hP9 := hP.sub (ws' := []) [] rfl
  have hD9 := hD.sub (ws' := []) [] (by decide) rfl
  refine W.widen (k := 4) (n := 34) (Nat.le_of_ble_eq_true rfl) (Nat.le_of_ble_eq_true rfl) ?_
  exact W.vret hx hb hr (fun t ht hW => ⟨⟨(), rfl, trivial, by rw [ht]; exact hP9, hD9⟩, hS.F ht⟩) hS.2.2 dX2_init_66
set_option maxHeartbeats 4000000 in
set_option maxRecDepth 100000 in
theorem c_Service_init (l : Launch) (D : va_G) (cy : Nat → ClassId) (h : Nat) : xMv l D cy yX9_init cX9_init 1 ({ frames := 2, cells := 2, slots := 17, locals := 32 }) [.ref h] [(h, .inr (9, [.null, .int 0]))] (S := Unit) (fun _ => True) (fun _ => []) := by
  intro sz
  refine Met.ofW (cc := cX9_init) (maxL := 1) (ret := none) (by decide) rfl ?_
  intro p e s m args below meth c s₁ B hml hv
  obtain ⟨rfl, hsz, hP, hK, hD0⟩ := hv
  have hx := B.exec
  have hb := B.bytes
  have hr := B.returns
  have hts0 := atoms_spec (ws := xw yX9_init cX9_init 1 none) B.pre
  have hts : ∀ w ∈ xG, w.before _ s = true := fun w h => hts0 w (List.mem_cons_of_mem _ h)
  have hown : s.vm.findClass RX9 = some m.cls := findClass_of_methodNamed B.named
  have hlocks := B.notSynchronized
  have hin : meth.name = "<init>" := (name_of_methodNamed B.named B.method).1
  subst hsz
  have hD := hD0.self (sz := s.heap.size)
  generalize hAe : va_A [(h, .inr (9, [.null, .int 0]))] s.heap.size = A at hD ⊢
  have hA : ∀ q : Nat, s.heap.size ≤ q → A q := fun q h => by rw [← hAe]; exact Or.inr h
  have hS : va_S A s.heap s.heap [] := va_S.rf
  have hl := lv_entry ([.ref h]) (n := 1) (Nat.le_of_ble_eq_true rfl)
  rw [lg_entry_eq]
  generalize (lg_sl ([.ref h]) ++ List.replicate (1 - (lg_sl ([.ref h])).length) Slot.unset).toArray = ls at hl ⊢
  have hl : lv_has ls 1 [(0, .ref h)] := hl
  refine lv_aload_n hx hb dX9_init_0 rfl (lv_at hl 0 rfl) ?_
  refine W.objInit hx hb hown (hts _ gw320) (hts _ gw27) (hts _ gw28) rfl (by rw [hml]; exact hl.1) rfl dX9_init_1 (Nat.le_of_ble_eq_true rfl) (Nat.le_of_ble_eq_true rfl) ?_
  refine W.eq (g2 := F0 m 4 ls []) rfl ?_
  refine lv_aload_n hx hb dX9_init_4 rfl (lv_at hl 0 rfl) ?_
  refine va_new (ci := 11) (fs := df11) (C := RX11) (T := TX11) (N := 2) hx hb hts iG11 tyX11 tyX11_ok hown (hts _ gw321) (hts _ gw73) (hts _ gw4) hK.1 hP hD hS hA rfl nf11 (Nat.le_of_ble_eq_true rfl) (Nat.le_of_ble_eq_true rfl) dX9_init_5 (fun q_1 H hP hD hS => ?_)
  have hP : va_P D vwCl [(h, .inr (9, [.null, .int 0])), (q_1, .inr (11, [.null, .int 0]))] H := hP
  have hD : va_D A [(h, .inr (9, [.null, .int 0])), (q_1, .inr (11, [.null, .int 0]))] := hD
  refine W.widen (k := 1) (n := 2) (Nat.le_of_ble_eq_true rfl) (Nat.le_of_ble_eq_true rfl) ?_
  refine lv_dup hx hb dX9_init_8 rfl ?_
  refine x_callv [(q_1, .inr (11, [.null, .int 0]))] [(h, .inr (9, [.null, .int 0]))] (va_runIN (As := []) (rest := [.ref q_1, .ref h]) ⟨hx, hb, hml, hown, hts⟩ (c_Word_init l D cy q_1 H.size) ⟨va_cnB 0 hts (xw_good gw76) rfl rfl rfl (nx10 hK) (hts _ gw4) (by decide +kernel) ⟨(Nat.le_of_ble_eq_true rfl), (Nat.le_of_ble_eq_true rfl)⟩, rfl, hts _ gw75⟩ (xpreS hK (hP.sub (ws' := [(q_1, .inr (11, [.null, .int 0]))]) [1] rfl) (hD.sub (ws' := [(q_1, .inr (11, [.null, .int 0]))]) [1] (by decide) rfl)) rfl rfl hl.1 rfl (lv_room (Nat.le_of_ble_eq_true rfl)) dX9_init_9 ⟨(Nat.le_of_ble_eq_true rfl), (Nat.le_of_ble_eq_true rfl)⟩) hP hD hS hA [1] [0] rfl rfl (by decide) (by decide) (fun u_2 H locs hw_u_2 hP hD hS => ?_)
  have hP : va_P D vwCl [(h, .inr (9, [.null, .int 0]))] H := hP
  have hD : va_D A [(h, .inr (9, [.null, .int 0]))] := hD
  refine W.widen (k := 2) (n := 17) (Nat.le_of_ble_eq_true rfl) (Nat.le_of_ble_eq_true rfl) ?_
  refine va_putF (D := D) (ci := 9) (v := .ref q_1) (ty := tyX9 0) (C := RX9) (T := TX9) (N := 2) hx hb hts iG9 tyX9 tyX9_ok nmX9 hown hK.1 hP hD hS 0 rfl rfl 0 (by decide) (hts _ gw323) (fun _ h9 => h9) rfl hin rfl (by decide +kernel) rfl rfl (Nat.le_of_ble_eq_true rfl) dX9_init_12 (fun H locs hP hD hS => ?_)
  have hP : va_P D vwCl [(h, .inr (9, [.ref q_1, .int 0]))] H := hP
  have hD : va_D A [(h, .inr (9, [.ref q_1, .int 0]))] := hD
  refine lv_aload_n hx hb dX9_init_15 rfl (lv_at hl 0 rfl) ?_
  refine lv_iconst (v := 0) hx hb dX9_init_16 (by decide) ?_
  refine va_put (D := D) (ci := 9) (v := .int 0) (ty := .int) (C := RX9) (T := TX9) (N := 2) hx hb hts iG9 tyX9 tyX9_ok nmX9 hown hK.1 hP hD hS 0 rfl rfl 1 (by decide) (hts _ gw327) (fun _ h9 => h9) rfl (by decide +kernel) rfl rfl (Nat.le_of_ble_eq_true rfl) dX9_init_17 (fun H locs hP hD hS => ?_)
  have hP : va_P D vwCl [(h, .inr (9, [.ref q_1, .int 0]))] H := hP
  have hD : va_D A [(h, .inr (9, [.ref q_1, .int 0]))] := hD
  have hP9 := hP.sub (ws' := []) [] rfl
  have hD9 := hD.sub (ws' := []) [] (by decide) rfl
  refine W.widen (k := 2) (n := 17) (Nat.le_of_ble_eq_true rfl) (Nat.le_of_ble_eq_true rfl) ?_
  exact W.vret hx hb hr (fun t ht hW => ⟨⟨(), rfl, trivial, by rw [ht]; exact hP9, hD9⟩, hS.F ht⟩) hS.2.2 dX9_init_20
set_option maxHeartbeats 4000000 in
set_option maxRecDepth 100000 in
theorem c_Reply_init (l : Launch) (D : va_G) (cy : Nat → ClassId) (h : Nat) : xMv l D cy yX8_init cX8_init 1 ({ frames := 2, cells := 2, slots := 17, locals := 32 }) [.ref h] [(h, .inr (8, [.null, .long 0]))] (S := Unit) (fun _ => True) (fun _ => []) := by
  intro sz
  refine Met.ofW (cc := cX8_init) (maxL := 1) (ret := none) (by decide) rfl ?_
  intro p e s m args below meth c s₁ B hml hv
  obtain ⟨rfl, hsz, hP, hK, hD0⟩ := hv
  have hx := B.exec
  have hb := B.bytes
  have hr := B.returns
  have hts0 := atoms_spec (ws := xw yX8_init cX8_init 1 none) B.pre
  have hts : ∀ w ∈ xG, w.before _ s = true := fun w h => hts0 w (List.mem_cons_of_mem _ h)
  have hown : s.vm.findClass RX8 = some m.cls := findClass_of_methodNamed B.named
  have hlocks := B.notSynchronized
  have hin : meth.name = "<init>" := (name_of_methodNamed B.named B.method).1
  subst hsz
  have hD := hD0.self (sz := s.heap.size)
  generalize hAe : va_A [(h, .inr (8, [.null, .long 0]))] s.heap.size = A at hD ⊢
  have hA : ∀ q : Nat, s.heap.size ≤ q → A q := fun q h => by rw [← hAe]; exact Or.inr h
  have hS : va_S A s.heap s.heap [] := va_S.rf
  have hl := lv_entry ([.ref h]) (n := 1) (Nat.le_of_ble_eq_true rfl)
  rw [lg_entry_eq]
  generalize (lg_sl ([.ref h]) ++ List.replicate (1 - (lg_sl ([.ref h])).length) Slot.unset).toArray = ls at hl ⊢
  have hl : lv_has ls 1 [(0, .ref h)] := hl
  refine lv_aload_n hx hb dX8_init_0 rfl (lv_at hl 0 rfl) ?_
  refine W.objInit hx hb hown (hts _ gw372) (hts _ gw27) (hts _ gw28) rfl (by rw [hml]; exact hl.1) rfl dX8_init_1 (Nat.le_of_ble_eq_true rfl) (Nat.le_of_ble_eq_true rfl) ?_
  refine W.eq (g2 := F0 m 4 ls []) rfl ?_
  refine lv_aload_n hx hb dX8_init_4 rfl (lv_at hl 0 rfl) ?_
  refine va_new (ci := 11) (fs := df11) (C := RX11) (T := TX11) (N := 2) hx hb hts iG11 tyX11 tyX11_ok hown (hts _ gw373) (hts _ gw73) (hts _ gw4) hK.1 hP hD hS hA rfl nf11 (Nat.le_of_ble_eq_true rfl) (Nat.le_of_ble_eq_true rfl) dX8_init_5 (fun q_1 H hP hD hS => ?_)
  have hP : va_P D vwCl [(h, .inr (8, [.null, .long 0])), (q_1, .inr (11, [.null, .int 0]))] H := hP
  have hD : va_D A [(h, .inr (8, [.null, .long 0])), (q_1, .inr (11, [.null, .int 0]))] := hD
  refine W.widen (k := 1) (n := 2) (Nat.le_of_ble_eq_true rfl) (Nat.le_of_ble_eq_true rfl) ?_
  refine lv_dup hx hb dX8_init_8 rfl ?_
  refine x_callv [(q_1, .inr (11, [.null, .int 0]))] [(h, .inr (8, [.null, .long 0]))] (va_runIN (As := []) (rest := [.ref q_1, .ref h]) ⟨hx, hb, hml, hown, hts⟩ (c_Word_init l D cy q_1 H.size) ⟨va_cnB 0 hts (xw_good gw76) rfl rfl rfl (nx14 hK) (hts _ gw4) (by decide +kernel) ⟨(Nat.le_of_ble_eq_true rfl), (Nat.le_of_ble_eq_true rfl)⟩, rfl, hts _ gw75⟩ (xpreS hK (hP.sub (ws' := [(q_1, .inr (11, [.null, .int 0]))]) [1] rfl) (hD.sub (ws' := [(q_1, .inr (11, [.null, .int 0]))]) [1] (by decide) rfl)) rfl rfl hl.1 rfl (lv_room (Nat.le_of_ble_eq_true rfl)) dX8_init_9 ⟨(Nat.le_of_ble_eq_true rfl), (Nat.le_of_ble_eq_true rfl)⟩) hP hD hS hA [1] [0] rfl rfl (by decide) (by decide) (fun u_2 H locs hw_u_2 hP hD hS => ?_)
  have hP : va_P D vwCl [(h, .inr (8, [.null, .long 0]))] H := hP
  have hD : va_D A [(h, .inr (8, [.null, .long 0]))] := hD
  refine W.widen (k := 2) (n := 17) (Nat.le_of_ble_eq_true rfl) (Nat.le_of_ble_eq_true rfl) ?_
  refine va_putF (D := D) (ci := 8) (v := .ref q_1) (ty := tyX8 0) (C := RX8) (T := TX8) (N := 2) hx hb hts iG8 tyX8 tyX8_ok nmX8 hown hK.1 hP hD hS 0 rfl rfl 0 (by decide) (hts _ gw375) (fun _ h9 => h9) rfl hin rfl (by decide +kernel) rfl rfl (Nat.le_of_ble_eq_true rfl) dX8_init_12 (fun H locs hP hD hS => ?_)
  have hP : va_P D vwCl [(h, .inr (8, [.ref q_1, .long 0]))] H := hP
  have hD : va_D A [(h, .inr (8, [.ref q_1, .long 0]))] := hD
  refine lv_aload_n hx hb dX8_init_15 rfl (lv_at hl 0 rfl) ?_
  refine lv_lconst (v := 0) hx hb dX8_init_16 (by decide) ?_
  refine va_put (D := D) (ci := 8) (v := .long 0) (ty := .long) (C := RX8) (T := TX8) (N := 2) hx hb hts iG8 tyX8 tyX8_ok nmX8 hown hK.1 hP hD hS 0 rfl rfl 1 (by decide) (hts _ gw378) (fun _ h9 => h9) rfl (by decide +kernel) rfl rfl (Nat.le_of_ble_eq_true rfl) dX8_init_17 (fun H locs hP hD hS => ?_)
  have hP : va_P D vwCl [(h, .inr (8, [.ref q_1, .long 0]))] H := hP
  have hD : va_D A [(h, .inr (8, [.ref q_1, .long 0]))] := hD
  have hP9 := hP.sub (ws' := []) [] rfl
  have hD9 := hD.sub (ws' := []) [] (by decide) rfl
  refine W.widen (k := 2) (n := 17) (Nat.le_of_ble_eq_true rfl) (Nat.le_of_ble_eq_true rfl) ?_
  exact W.vret hx hb hr (fun t ht hW => ⟨⟨(), rfl, trivial, by rw [ht]; exact hP9, hD9⟩, hS.F ht⟩) hS.2.2 dX8_init_20
set_option maxHeartbeats 4000000 in
set_option maxRecDepth 100000 in
theorem c_Question_init (l : Launch) (D : va_G) (cy : Nat → ClassId) (h : Nat) : xMv l D cy yX6_init cX6_init 1 ({ frames := 2, cells := 2, slots := 17, locals := 32 }) [.ref h] [(h, .inr (6, [.null, .int 0, .int 0, .int 0, .long 0]))] (S := Nat) (fun _ => True) (fun u => [(h, .inr (6, [.ref u, .int 0, .int 0, .int 0, .long 0]))]) := by
  intro sz
  refine Met.ofW (cc := cX6_init) (maxL := 1) (ret := none) (by decide) rfl ?_
  intro p e s m args below meth c s₁ B hml hv
  obtain ⟨rfl, hsz, hP, hK, hD0⟩ := hv
  have hx := B.exec
  have hb := B.bytes
  have hr := B.returns
  have hts0 := atoms_spec (ws := xw yX6_init cX6_init 1 none) B.pre
  have hts : ∀ w ∈ xG, w.before _ s = true := fun w h => hts0 w (List.mem_cons_of_mem _ h)
  have hown : s.vm.findClass RX6 = some m.cls := findClass_of_methodNamed B.named
  have hlocks := B.notSynchronized
  have hin : meth.name = "<init>" := (name_of_methodNamed B.named B.method).1
  subst hsz
  have hD := hD0.self (sz := s.heap.size)
  generalize hAe : va_A [(h, .inr (6, [.null, .int 0, .int 0, .int 0, .long 0]))] s.heap.size = A at hD ⊢
  have hA : ∀ q : Nat, s.heap.size ≤ q → A q := fun q h => by rw [← hAe]; exact Or.inr h
  have hS : va_S A s.heap s.heap [] := va_S.rf
  have hl := lv_entry ([.ref h]) (n := 1) (Nat.le_of_ble_eq_true rfl)
  rw [lg_entry_eq]
  generalize (lg_sl ([.ref h]) ++ List.replicate (1 - (lg_sl ([.ref h])).length) Slot.unset).toArray = ls at hl ⊢
  have hl : lv_has ls 1 [(0, .ref h)] := hl
  refine lv_aload_n hx hb dX6_init_0 rfl (lv_at hl 0 rfl) ?_
  refine W.objInit hx hb hown (hts _ gw339) (hts _ gw27) (hts _ gw28) rfl (by rw [hml]; exact hl.1) rfl dX6_init_1 (Nat.le_of_ble_eq_true rfl) (Nat.le_of_ble_eq_true rfl) ?_
  refine W.eq (g2 := F0 m 4 ls []) rfl ?_
  refine lv_aload_n hx hb dX6_init_4 rfl (lv_at hl 0 rfl) ?_
  refine va_new (ci := 11) (fs := df11) (C := RX11) (T := TX11) (N := 2) hx hb hts iG11 tyX11 tyX11_ok hown (hts _ gw340) (hts _ gw73) (hts _ gw4) hK.1 hP hD hS hA rfl nf11 (Nat.le_of_ble_eq_true rfl) (Nat.le_of_ble_eq_true rfl) dX6_init_5 (fun q_1 H hP hD hS => ?_)
  have hP : va_P D vwCl [(h, .inr (6, [.null, .int 0, .int 0, .int 0, .long 0])), (q_1, .inr (11, [.null, .int 0]))] H := hP
  have hD : va_D A [(h, .inr (6, [.null, .int 0, .int 0, .int 0, .long 0])), (q_1, .inr (11, [.null, .int 0]))] := hD
  refine W.widen (k := 1) (n := 2) (Nat.le_of_ble_eq_true rfl) (Nat.le_of_ble_eq_true rfl) ?_
  refine lv_dup hx hb dX6_init_8 rfl ?_
  refine x_callv [(q_1, .inr (11, [.null, .int 0]))] [(h, .inr (6, [.null, .int 0, .int 0, .int 0, .long 0]))] (va_runIN (As := []) (rest := [.ref q_1, .ref h]) ⟨hx, hb, hml, hown, hts⟩ (c_Word_init l D cy q_1 H.size) ⟨va_cnB 0 hts (xw_good gw76) rfl rfl rfl (nx12 hK) (hts _ gw4) (by decide +kernel) ⟨(Nat.le_of_ble_eq_true rfl), (Nat.le_of_ble_eq_true rfl)⟩, rfl, hts _ gw75⟩ (xpreS hK (hP.sub (ws' := [(q_1, .inr (11, [.null, .int 0]))]) [1] rfl) (hD.sub (ws' := [(q_1, .inr (11, [.null, .int 0]))]) [1] (by decide) rfl)) rfl rfl hl.1 rfl (lv_room (Nat.le_of_ble_eq_true rfl)) dX6_init_9 ⟨(Nat.le_of_ble_eq_true rfl), (Nat.le_of_ble_eq_true rfl)⟩) hP hD hS hA [1] [0] rfl rfl (by decide) (by decide) (fun u_2 H locs hw_u_2 hP hD hS => ?_)
  have hP : va_P D vwCl [(h, .inr (6, [.null, .int 0, .int 0, .int 0, .long 0]))] H := hP
  have hD : va_D A [(h, .inr (6, [.null, .int 0, .int 0, .int 0, .long 0]))] := hD
  refine W.widen (k := 2) (n := 17) (Nat.le_of_ble_eq_true rfl) (Nat.le_of_ble_eq_true rfl) ?_
  refine va_putF (D := D) (ci := 6) (v := .ref q_1) (ty := tyX6 0) (C := RX6) (T := TX6) (N := 5) hx hb hts iG6 tyX6 tyX6_ok nmX6 hown hK.1 hP hD hS 0 rfl rfl 0 (by decide) (hts _ gw342) (fun _ h9 => h9) rfl hin rfl (by decide +kernel) rfl rfl (Nat.le_of_ble_eq_true rfl) dX6_init_12 (fun H locs hP hD hS => ?_)
  have hP : va_P D vwCl [(h, .inr (6, [.ref q_1, .int 0, .int 0, .int 0, .long 0]))] H := hP
  have hD : va_D A [(h, .inr (6, [.ref q_1, .int 0, .int 0, .int 0, .long 0]))] := hD
  refine lv_aload_n hx hb dX6_init_15 rfl (lv_at hl 0 rfl) ?_
  refine lv_iconst (v := 0) hx hb dX6_init_16 (by decide) ?_
  refine va_put (D := D) (ci := 6) (v := .int 0) (ty := .boolean) (C := RX6) (T := TX6) (N := 5) hx hb hts iG6 tyX6 tyX6_ok nmX6 hown hK.1 hP hD hS 0 rfl rfl 1 (by decide) (hts _ gw346) (fun _ h9 => h9) rfl (by decide +kernel) rfl rfl (Nat.le_of_ble_eq_true rfl) dX6_init_17 (fun H locs hP hD hS => ?_)
  have hP : va_P D vwCl [(h, .inr (6, [.ref q_1, .int 0, .int 0, .int 0, .long 0]))] H := hP
  have hD : va_D A [(h, .inr (6, [.ref q_1, .int 0, .int 0, .int 0, .long 0]))] := hD
  refine lv_aload_n hx hb dX6_init_20 rfl (lv_at hl 0 rfl) ?_
  refine lv_iconst (v := 0) hx hb dX6_init_21 (by decide) ?_
  refine va_put (D := D) (ci := 6) (v := .int 0) (ty := .int) (C := RX6) (T := TX6) (N := 5) hx hb hts iG6 tyX6 tyX6_ok nmX6 hown hK.1 hP hD hS 0 rfl rfl 2 (by decide) (hts _ gw349) (fun _ h9 => h9) rfl (by decide +kernel) rfl rfl (Nat.le_of_ble_eq_true rfl) dX6_init_22 (fun H locs hP hD hS => ?_)
  have hP : va_P D vwCl [(h, .inr (6, [.ref q_1, .int 0, .int 0, .int 0, .long 0]))] H := hP
  have hD : va_D A [(h, .inr (6, [.ref q_1, .int 0, .int 0, .int 0, .long 0]))] := hD
  refine lv_aload_n hx hb dX6_init_25 rfl (lv_at hl 0 rfl) ?_
  refine lv_iconst (v := 0) hx hb dX6_init_26 (by decide) ?_
  refine va_put (D := D) (ci := 6) (v := .int 0) (ty := .int) (C := RX6) (T := TX6) (N := 5) hx hb hts iG6 tyX6 tyX6_ok nmX6 hown hK.1 hP hD hS 0 rfl rfl 3 (by decide) (hts _ gw353) (fun _ h9 => h9) rfl (by decide +kernel) rfl rfl (Nat.le_of_ble_eq_true rfl) dX6_init_27 (fun H locs hP hD hS => ?_)
  have hP : va_P D vwCl [(h, .inr (6, [.ref q_1, .int 0, .int 0, .int 0, .long 0]))] H := hP
  have hD : va_D A [(h, .inr (6, [.ref q_1, .int 0, .int 0, .int 0, .long 0]))] := hD
  refine lv_aload_n hx hb dX6_init_30 rfl (lv_at hl 0 rfl) ?_
  refine lv_lconst (v := 0) hx hb dX6_init_31 (by decide) ?_
  refine va_put (D := D) (ci := 6) (v := .long 0) (ty := .long) (C := RX6) (T := TX6) (N := 5) hx hb hts iG6 tyX6 tyX6_ok nmX6 hown hK.1 hP hD hS 0 rfl rfl 4 (by decide) (hts _ gw354) (fun _ h9 => h9) rfl (by decide +kernel) rfl rfl (Nat.le_of_ble_eq_true rfl) dX6_init_32 (fun H locs hP hD hS => ?_)
  have hP : va_P D vwCl [(h, .inr (6, [.ref q_1, .int 0, .int 0, .int 0, .long 0]))] H := hP
  have hD : va_D A [(h, .inr (6, [.ref q_1, .int 0, .int 0, .int 0, .long 0]))] := hD
  have hP9 := hP.sub (ws' := [(h, .inr (6, [.ref q_1, .int 0, .int 0, .int 0, .long 0]))]) [0] rfl
  have hD9 := hD.sub (ws' := [(h, .inr (6, [.ref q_1, .int 0, .int 0, .int 0, .long 0]))]) [0] (by decide) rfl
  refine W.widen (k := 2) (n := 17) (Nat.le_of_ble_eq_true rfl) (Nat.le_of_ble_eq_true rfl) ?_
  exact W.vret hx hb hr (fun t ht hW => ⟨⟨q_1, rfl, trivial, by rw [ht]; exact hP9, hD9⟩, hS.F ht⟩) hS.2.2 dX6_init_35
set_option maxHeartbeats 4000000 in
set_option maxRecDepth 100000 in
theorem c_AddressClaim_init (l : Launch) (D : va_G) (cy : Nat → ClassId) (h : Nat) : xMv l D cy yX0_init cX0_init 1 ({ frames := 1, cells := 0, slots := 0, locals := 12 }) [.ref h] [(h, .inr (0, [.int 0, .int 0, .int 0, .long 0, .long 0]))] (S := Unit) (fun _ => True) (fun _ => [(h, .inr (0, [.int 0, .int 0, .int 0, .long 4611686018427387904, .long (-1)]))]) := by
  intro sz
  refine Met.ofW (cc := cX0_init) (maxL := 1) (ret := none) (by decide) rfl ?_
  intro p e s m args below meth c s₁ B hml hv
  obtain ⟨rfl, hsz, hP, hK, hD0⟩ := hv
  have hx := B.exec
  have hb := B.bytes
  have hr := B.returns
  have hts0 := atoms_spec (ws := xw yX0_init cX0_init 1 none) B.pre
  have hts : ∀ w ∈ xG, w.before _ s = true := fun w h => hts0 w (List.mem_cons_of_mem _ h)
  have hown : s.vm.findClass RX0 = some m.cls := findClass_of_methodNamed B.named
  have hlocks := B.notSynchronized
  have hin : meth.name = "<init>" := (name_of_methodNamed B.named B.method).1
  subst hsz
  have hD := hD0.self (sz := s.heap.size)
  generalize hAe : va_A [(h, .inr (0, [.int 0, .int 0, .int 0, .long 0, .long 0]))] s.heap.size = A at hD ⊢
  have hA : ∀ q : Nat, s.heap.size ≤ q → A q := fun q h => by rw [← hAe]; exact Or.inr h
  have hS : va_S A s.heap s.heap [] := va_S.rf
  have hl := lv_entry ([.ref h]) (n := 1) (Nat.le_of_ble_eq_true rfl)
  rw [lg_entry_eq]
  generalize (lg_sl ([.ref h]) ++ List.replicate (1 - (lg_sl ([.ref h])).length) Slot.unset).toArray = ls at hl ⊢
  have hl : lv_has ls 1 [(0, .ref h)] := hl
  refine lv_aload_n hx hb dX0_init_0 rfl (lv_at hl 0 rfl) ?_
  refine W.objInit hx hb hown (hts _ gw182) (hts _ gw27) (hts _ gw28) rfl (by rw [hml]; exact hl.1) rfl dX0_init_1 (Nat.le_of_ble_eq_true rfl) (Nat.le_of_ble_eq_true rfl) ?_
  refine W.eq (g2 := F0 m 4 ls []) rfl ?_
  refine lv_aload_n hx hb dX0_init_4 rfl (lv_at hl 0 rfl) ?_
  refine lv_iconst (v := 0) hx hb dX0_init_5 (by decide) ?_
  refine va_put (D := D) (ci := 0) (v := .int 0) (ty := .int) (C := RX0) (T := TX0) (N := 5) hx hb hts iG0 tyX0 tyX0_ok nmX0 hown hK.1 hP hD hS 0 rfl rfl 0 (by decide) (hts _ gw185) (fun _ h9 => h9) rfl (by decide +kernel) rfl rfl (Nat.le_of_ble_eq_true rfl) dX0_init_6 (fun H locs hP hD hS => ?_)
  have hP : va_P D vwCl [(h, .inr (0, [.int 0, .int 0, .int 0, .long 0, .long 0]))] H := hP
  have hD : va_D A [(h, .inr (0, [.int 0, .int 0, .int 0, .long 0, .long 0]))] := hD
  refine lv_aload_n hx hb dX0_init_9 rfl (lv_at hl 0 rfl) ?_
  refine lv_iconst (v := 0) hx hb dX0_init_10 (by decide) ?_
  refine va_put (D := D) (ci := 0) (v := .int 0) (ty := .int) (C := RX0) (T := TX0) (N := 5) hx hb hts iG0 tyX0 tyX0_ok nmX0 hown hK.1 hP hD hS 0 rfl rfl 1 (by decide) (hts _ gw187) (fun _ h9 => h9) rfl (by decide +kernel) rfl rfl (Nat.le_of_ble_eq_true rfl) dX0_init_11 (fun H locs hP hD hS => ?_)
  have hP : va_P D vwCl [(h, .inr (0, [.int 0, .int 0, .int 0, .long 0, .long 0]))] H := hP
  have hD : va_D A [(h, .inr (0, [.int 0, .int 0, .int 0, .long 0, .long 0]))] := hD
  refine lv_aload_n hx hb dX0_init_14 rfl (lv_at hl 0 rfl) ?_
  refine lv_iconst (v := 0) hx hb dX0_init_15 (by decide) ?_
  refine va_put (D := D) (ci := 0) (v := .int 0) (ty := .int) (C := RX0) (T := TX0) (N := 5) hx hb hts iG0 tyX0 tyX0_ok nmX0 hown hK.1 hP hD hS 0 rfl rfl 2 (by decide) (hts _ gw191) (fun _ h9 => h9) rfl (by decide +kernel) rfl rfl (Nat.le_of_ble_eq_true rfl) dX0_init_16 (fun H locs hP hD hS => ?_)
  have hP : va_P D vwCl [(h, .inr (0, [.int 0, .int 0, .int 0, .long 0, .long 0]))] H := hP
  have hD : va_D A [(h, .inr (0, [.int 0, .int 0, .int 0, .long 0, .long 0]))] := hD
  refine lv_aload_n hx hb dX0_init_19 rfl (lv_at hl 0 rfl) ?_
  refine lv_ldc2 (v := 4611686018427387904) hx hb hown (hts _ gw183) dX0_init_20 ?_
  refine va_put (D := D) (ci := 0) (v := .long 4611686018427387904) (ty := .long) (C := RX0) (T := TX0) (N := 5) hx hb hts iG0 tyX0 tyX0_ok nmX0 hown hK.1 hP hD hS 0 rfl rfl 3 (by decide) (hts _ gw193) (fun _ h9 => h9) rfl (by decide +kernel) rfl rfl (Nat.le_of_ble_eq_true rfl) dX0_init_23 (fun H locs hP hD hS => ?_)
  have hP : va_P D vwCl [(h, .inr (0, [.int 0, .int 0, .int 0, .long 4611686018427387904, .long 0]))] H := hP
  have hD : va_D A [(h, .inr (0, [.int 0, .int 0, .int 0, .long 4611686018427387904, .long 0]))] := hD
  refine lv_aload_n hx hb dX0_init_26 rfl (lv_at hl 0 rfl) ?_
  refine lv_ldc2 (v := (-1)) hx hb hown (hts _ gw184) dX0_init_27 ?_
  refine va_put (D := D) (ci := 0) (v := .long (-1)) (ty := .long) (C := RX0) (T := TX0) (N := 5) hx hb hts iG0 tyX0 tyX0_ok nmX0 hown hK.1 hP hD hS 0 rfl rfl 4 (by decide) (hts _ gw196) (fun _ h9 => h9) rfl (by decide +kernel) rfl rfl (Nat.le_of_ble_eq_true rfl) dX0_init_30 (fun H locs hP hD hS => ?_)
  have hP : va_P D vwCl [(h, .inr (0, [.int 0, .int 0, .int 0, .long 4611686018427387904, .long (-1)]))] H := hP
  have hD : va_D A [(h, .inr (0, [.int 0, .int 0, .int 0, .long 4611686018427387904, .long (-1)]))] := hD
  have hP9 := hP.sub (ws' := [(h, .inr (0, [.int 0, .int 0, .int 0, .long 4611686018427387904, .long (-1)]))]) [0] rfl
  have hD9 := hD.sub (ws' := [(h, .inr (0, [.int 0, .int 0, .int 0, .long 4611686018427387904, .long (-1)]))]) [0] (by decide) rfl
  refine W.widen (k := 0) (n := 0) (Nat.le_of_ble_eq_true rfl) (Nat.le_of_ble_eq_true rfl) ?_
  exact W.vret hx hb hr (fun t ht hW => ⟨⟨(), rfl, trivial, by rw [ht]; exact hP9, hD9⟩, hS.F ht⟩) hS.2.2 dX0_init_33
set_option maxHeartbeats 4000000 in
set_option maxRecDepth 100000 in
theorem c_NameClaim_init (l : Launch) (D : va_G) (cy : Nat → ClassId) (h : Nat) : xMv l D cy yX4_init cX4_init 1 ({ frames := 2, cells := 4, slots := 34, locals := 32 }) [.ref h] [(h, .inr (4, [.null, .null, .int 0, .int 0, .int 0, .long 0]))] (S := Nat × Nat) (fun _ => True) (fun u => [(h, .inr (4, [.ref u.1, .ref u.2, .int 0, .int 1, .int 0, .long 4611686018427387904]))]) := by
  intro sz
  refine Met.ofW (cc := cX4_init) (maxL := 1) (ret := none) (by decide) rfl ?_
  intro p e s m args below meth c s₁ B hml hv
  obtain ⟨rfl, hsz, hP, hK, hD0⟩ := hv
  have hx := B.exec
  have hb := B.bytes
  have hr := B.returns
  have hts0 := atoms_spec (ws := xw yX4_init cX4_init 1 none) B.pre
  have hts : ∀ w ∈ xG, w.before _ s = true := fun w h => hts0 w (List.mem_cons_of_mem _ h)
  have hown : s.vm.findClass RX4 = some m.cls := findClass_of_methodNamed B.named
  have hlocks := B.notSynchronized
  have hin : meth.name = "<init>" := (name_of_methodNamed B.named B.method).1
  subst hsz
  have hD := hD0.self (sz := s.heap.size)
  generalize hAe : va_A [(h, .inr (4, [.null, .null, .int 0, .int 0, .int 0, .long 0]))] s.heap.size = A at hD ⊢
  have hA : ∀ q : Nat, s.heap.size ≤ q → A q := fun q h => by rw [← hAe]; exact Or.inr h
  have hS : va_S A s.heap s.heap [] := va_S.rf
  have hl := lv_entry ([.ref h]) (n := 1) (Nat.le_of_ble_eq_true rfl)
  rw [lg_entry_eq]
  generalize (lg_sl ([.ref h]) ++ List.replicate (1 - (lg_sl ([.ref h])).length) Slot.unset).toArray = ls at hl ⊢
  have hl : lv_has ls 1 [(0, .ref h)] := hl
  refine lv_aload_n hx hb dX4_init_0 rfl (lv_at hl 0 rfl) ?_
  refine W.objInit hx hb hown (hts _ gw214) (hts _ gw27) (hts _ gw28) rfl (by rw [hml]; exact hl.1) rfl dX4_init_1 (Nat.le_of_ble_eq_true rfl) (Nat.le_of_ble_eq_true rfl) ?_
  refine W.eq (g2 := F0 m 4 ls []) rfl ?_
  refine lv_aload_n hx hb dX4_init_4 rfl (lv_at hl 0 rfl) ?_
  refine va_new (ci := 11) (fs := df11) (C := RX11) (T := TX11) (N := 2) hx hb hts iG11 tyX11 tyX11_ok hown (hts _ gw215) (hts _ gw73) (hts _ gw4) hK.1 hP hD hS hA rfl nf11 (Nat.le_of_ble_eq_true rfl) (Nat.le_of_ble_eq_true rfl) dX4_init_5 (fun q_1 H hP hD hS => ?_)
  have hP : va_P D vwCl [(h, .inr (4, [.null, .null, .int 0, .int 0, .int 0, .long 0])), (q_1, .inr (11, [.null, .int 0]))] H := hP
  have hD : va_D A [(h, .inr (4, [.null, .null, .int 0, .int 0, .int 0, .long 0])), (q_1, .inr (11, [.null, .int 0]))] := hD
  refine W.widen (k := 1) (n := 2) (Nat.le_of_ble_eq_true rfl) (Nat.le_of_ble_eq_true rfl) ?_
  refine lv_dup hx hb dX4_init_8 rfl ?_
  refine x_callv [(q_1, .inr (11, [.null, .int 0]))] [(h, .inr (4, [.null, .null, .int 0, .int 0, .int 0, .long 0]))] (va_runIN (As := []) (rest := [.ref q_1, .ref h]) ⟨hx, hb, hml, hown, hts⟩ (c_Word_init l D cy q_1 H.size) ⟨va_cnB 0 hts (xw_good gw76) rfl rfl rfl (nx6 hK) (hts _ gw4) (by decide +kernel) ⟨(Nat.le_of_ble_eq_true rfl), (Nat.le_of_ble_eq_true rfl)⟩, rfl, hts _ gw75⟩ (xpreS hK (hP.sub (ws' := [(q_1, .inr (11, [.null, .int 0]))]) [1] rfl) (hD.sub (ws' := [(q_1, .inr (11, [.null, .int 0]))]) [1] (by decide) rfl)) rfl rfl hl.1 rfl (lv_room (Nat.le_of_ble_eq_true rfl)) dX4_init_9 ⟨(Nat.le_of_ble_eq_true rfl), (Nat.le_of_ble_eq_true rfl)⟩) hP hD hS hA [1] [0] rfl rfl (by decide) (by decide) (fun u_2 H locs hw_u_2 hP hD hS => ?_)
  have hP : va_P D vwCl [(h, .inr (4, [.null, .null, .int 0, .int 0, .int 0, .long 0]))] H := hP
  have hD : va_D A [(h, .inr (4, [.null, .null, .int 0, .int 0, .int 0, .long 0]))] := hD
  refine W.widen (k := 2) (n := 17) (Nat.le_of_ble_eq_true rfl) (Nat.le_of_ble_eq_true rfl) ?_
  refine va_putF (D := D) (ci := 4) (v := .ref q_1) (ty := tyX4 0) (C := RX4) (T := TX4) (N := 6) hx hb hts iG4 tyX4 tyX4_ok nmX4 hown hK.1 hP hD hS 0 rfl rfl 0 (by decide) (hts _ gw218) (fun _ h9 => h9) rfl hin rfl (by decide +kernel) rfl rfl (Nat.le_of_ble_eq_true rfl) dX4_init_12 (fun H locs hP hD hS => ?_)
  have hP : va_P D vwCl [(h, .inr (4, [.ref q_1, .null, .int 0, .int 0, .int 0, .long 0]))] H := hP
  have hD : va_D A [(h, .inr (4, [.ref q_1, .null, .int 0, .int 0, .int 0, .long 0]))] := hD
  refine lv_aload_n hx hb dX4_init_15 rfl (lv_at hl 0 rfl) ?_
  refine va_new (ci := 11) (fs := df11) (C := RX11) (T := TX11) (N := 2) hx hb hts iG11 tyX11 tyX11_ok hown (hts _ gw215) (hts _ gw73) (hts _ gw4) hK.1 hP hD hS hA rfl nf11 (Nat.le_of_ble_eq_true rfl) (Nat.le_of_ble_eq_true rfl) dX4_init_16 (fun q_3 H hP hD hS => ?_)
  have hP : va_P D vwCl [(h, .inr (4, [.ref q_1, .null, .int 0, .int 0, .int 0, .long 0])), (q_3, .inr (11, [.null, .int 0]))] H := hP
  have hD : va_D A [(h, .inr (4, [.ref q_1, .null, .int 0, .int 0, .int 0, .long 0])), (q_3, .inr (11, [.null, .int 0]))] := hD
  refine W.widen (k := 3) (n := 19) (Nat.le_of_ble_eq_true rfl) (Nat.le_of_ble_eq_true rfl) ?_
  refine lv_dup hx hb dX4_init_19 rfl ?_
  refine x_callv [(q_3, .inr (11, [.null, .int 0]))] [(h, .inr (4, [.ref q_1, .null, .int 0, .int 0, .int 0, .long 0]))] (va_runIN (As := []) (rest := [.ref q_3, .ref h]) ⟨hx, hb, hml, hown, hts⟩ (c_Word_init l D cy q_3 H.size) ⟨va_cnB 0 hts (xw_good gw76) rfl rfl rfl (nx6 hK) (hts _ gw4) (by decide +kernel) ⟨(Nat.le_of_ble_eq_true rfl), (Nat.le_of_ble_eq_true rfl)⟩, rfl, hts _ gw75⟩ (xpreS hK (hP.sub (ws' := [(q_3, .inr (11, [.null, .int 0]))]) [1] rfl) (hD.sub (ws' := [(q_3, .inr (11, [.null, .int 0]))]) [1] (by decide) rfl)) rfl rfl hl.1 rfl (lv_room (Nat.le_of_ble_eq_true rfl)) dX4_init_20 ⟨(Nat.le_of_ble_eq_true rfl), (Nat.le_of_ble_eq_true rfl)⟩) hP hD hS hA [1] [0] rfl rfl (by decide) (by decide) (fun u_4 H locs hw_u_4 hP hD hS => ?_)
  have hP : va_P D vwCl [(h, .inr (4, [.ref q_1, .null, .int 0, .int 0, .int 0, .long 0]))] H := hP
  have hD : va_D A [(h, .inr (4, [.ref q_1, .null, .int 0, .int 0, .int 0, .long 0]))] := hD
  refine W.widen (k := 4) (n := 34) (Nat.le_of_ble_eq_true rfl) (Nat.le_of_ble_eq_true rfl) ?_
  refine va_putF (D := D) (ci := 4) (v := .ref q_3) (ty := tyX4 1) (C := RX4) (T := TX4) (N := 6) hx hb hts iG4 tyX4 tyX4_ok nmX4 hown hK.1 hP hD hS 0 rfl rfl 1 (by decide) (hts _ gw220) (fun _ h9 => h9) rfl hin rfl (by decide +kernel) rfl rfl (Nat.le_of_ble_eq_true rfl) dX4_init_23 (fun H locs hP hD hS => ?_)
  have hP : va_P D vwCl [(h, .inr (4, [.ref q_1, .ref q_3, .int 0, .int 0, .int 0, .long 0]))] H := hP
  have hD : va_D A [(h, .inr (4, [.ref q_1, .ref q_3, .int 0, .int 0, .int 0, .long 0]))] := hD
  refine lv_aload_n hx hb dX4_init_26 rfl (lv_at hl 0 rfl) ?_
  refine lv_iconst (v := 0) hx hb dX4_init_27 (by decide) ?_
  refine va_put (D := D) (ci := 4) (v := .int 0) (ty := .int) (C := RX4) (T := TX4) (N := 6) hx hb hts iG4 tyX4 tyX4_ok nmX4 hown hK.1 hP hD hS 0 rfl rfl 2 (by decide) (hts _ gw223) (fun _ h9 => h9) rfl (by decide +kernel) rfl rfl (Nat.le_of_ble_eq_true rfl) dX4_init_28 (fun H locs hP hD hS => ?_)
  have hP : va_P D vwCl [(h, .inr (4, [.ref q_1, .ref q_3, .int 0, .int 0, .int 0, .long 0]))] H := hP
  have hD : va_D A [(h, .inr (4, [.ref q_1, .ref q_3, .int 0, .int 0, .int 0, .long 0]))] := hD
  refine lv_aload_n hx hb dX4_init_31 rfl (lv_at hl 0 rfl) ?_
  refine lv_iconst (v := 1) hx hb dX4_init_32 (by decide) ?_
  refine va_put (D := D) (ci := 4) (v := .int 1) (ty := .int) (C := RX4) (T := TX4) (N := 6) hx hb hts iG4 tyX4 tyX4_ok nmX4 hown hK.1 hP hD hS 0 rfl rfl 3 (by decide) (hts _ gw226) (fun _ h9 => h9) rfl (by decide +kernel) rfl rfl (Nat.le_of_ble_eq_true rfl) dX4_init_33 (fun H locs hP hD hS => ?_)
  have hP : va_P D vwCl [(h, .inr (4, [.ref q_1, .ref q_3, .int 0, .int 1, .int 0, .long 0]))] H := hP
  have hD : va_D A [(h, .inr (4, [.ref q_1, .ref q_3, .int 0, .int 1, .int 0, .long 0]))] := hD
  refine lv_aload_n hx hb dX4_init_36 rfl (lv_at hl 0 rfl) ?_
  refine lv_iconst (v := 0) hx hb dX4_init_37 (by decide) ?_
  refine va_put (D := D) (ci := 4) (v := .int 0) (ty := .int) (C := RX4) (T := TX4) (N := 6) hx hb hts iG4 tyX4 tyX4_ok nmX4 hown hK.1 hP hD hS 0 rfl rfl 4 (by decide) (hts _ gw227) (fun _ h9 => h9) rfl (by decide +kernel) rfl rfl (Nat.le_of_ble_eq_true rfl) dX4_init_38 (fun H locs hP hD hS => ?_)
  have hP : va_P D vwCl [(h, .inr (4, [.ref q_1, .ref q_3, .int 0, .int 1, .int 0, .long 0]))] H := hP
  have hD : va_D A [(h, .inr (4, [.ref q_1, .ref q_3, .int 0, .int 1, .int 0, .long 0]))] := hD
  refine lv_aload_n hx hb dX4_init_41 rfl (lv_at hl 0 rfl) ?_
  refine lv_ldc2 (v := 4611686018427387904) hx hb hown (hts _ gw217) dX4_init_42 ?_
  refine va_put (D := D) (ci := 4) (v := .long 4611686018427387904) (ty := .long) (C := RX4) (T := TX4) (N := 6) hx hb hts iG4 tyX4 tyX4_ok nmX4 hown hK.1 hP hD hS 0 rfl rfl 5 (by decide) (hts _ gw229) (fun _ h9 => h9) rfl (by decide +kernel) rfl rfl (Nat.le_of_ble_eq_true rfl) dX4_init_45 (fun H locs hP hD hS => ?_)
  have hP : va_P D vwCl [(h, .inr (4, [.ref q_1, .ref q_3, .int 0, .int 1, .int 0, .long 4611686018427387904]))] H := hP
  have hD : va_D A [(h, .inr (4, [.ref q_1, .ref q_3, .int 0, .int 1, .int 0, .long 4611686018427387904]))] := hD
  have hP9 := hP.sub (ws' := [(h, .inr (4, [.ref q_1, .ref q_3, .int 0, .int 1, .int 0, .long 4611686018427387904]))]) [0] rfl
  have hD9 := hD.sub (ws' := [(h, .inr (4, [.ref q_1, .ref q_3, .int 0, .int 1, .int 0, .long 4611686018427387904]))]) [0] (by decide) rfl
  refine W.widen (k := 4) (n := 34) (Nat.le_of_ble_eq_true rfl) (Nat.le_of_ble_eq_true rfl) ?_
  exact W.vret hx hb hr (fun t ht hW => ⟨⟨(q_1, q_3), rfl, trivial, by rw [ht]; exact hP9, hD9⟩, hS.F ht⟩) hS.2.2 dX4_init_48
set_option maxHeartbeats 4000000 in
set_option maxRecDepth 100000 in
theorem c_Packet_init (l : Launch) (D : va_G) (cy : Nat → ClassId) (h : Nat) : xMv l D cy yX5_init cX5_init 1 ({ frames := 1, cells := 2, slots := 217, locals := 12 }) [.ref h] [(h, .inr (5, [.null, .null, .int 0, .int 0, .int 0, .int 0]))] (S := Nat × Nat) (fun _ => True) (fun u => [(h, .inr (5, [.ref u.1, .ref u.2, .int 0, .int 0, .int (-1), .int 0])), (u.1, .inl (cy 0, 200, .inl (fun _ => 0)))]) := by
  intro sz
  refine Met.ofW (cc := cX5_init) (maxL := 1) (ret := none) (by decide) rfl ?_
  intro p e s m args below meth c s₁ B hml hv
  obtain ⟨rfl, hsz, hP, hK, hD0⟩ := hv
  have hx := B.exec
  have hb := B.bytes
  have hr := B.returns
  have hts0 := atoms_spec (ws := xw yX5_init cX5_init 1 none) B.pre
  have hts : ∀ w ∈ xG, w.before _ s = true := fun w h => hts0 w (List.mem_cons_of_mem _ h)
  have hown : s.vm.findClass RX5 = some m.cls := findClass_of_methodNamed B.named
  have hlocks := B.notSynchronized
  have hin : meth.name = "<init>" := (name_of_methodNamed B.named B.method).1
  subst hsz
  have hD := hD0.self (sz := s.heap.size)
  generalize hAe : va_A [(h, .inr (5, [.null, .null, .int 0, .int 0, .int 0, .int 0]))] s.heap.size = A at hD ⊢
  have hA : ∀ q : Nat, s.heap.size ≤ q → A q := fun q h => by rw [← hAe]; exact Or.inr h
  have hS : va_S A s.heap s.heap [] := va_S.rf
  have hl := lv_entry ([.ref h]) (n := 1) (Nat.le_of_ble_eq_true rfl)
  rw [lg_entry_eq]
  generalize (lg_sl ([.ref h]) ++ List.replicate (1 - (lg_sl ([.ref h])).length) Slot.unset).toArray = ls at hl ⊢
  have hl : lv_has ls 1 [(0, .ref h)] := hl
  refine lv_aload_n hx hb dX5_init_0 rfl (lv_at hl 0 rfl) ?_
  refine W.objInit hx hb hown (hts _ gw36) (hts _ gw27) (hts _ gw28) rfl (by rw [hml]; exact hl.1) rfl dX5_init_1 (Nat.le_of_ble_eq_true rfl) (Nat.le_of_ble_eq_true rfl) ?_
  refine W.eq (g2 := F0 m 4 ls []) rfl ?_
  refine lv_aload_n hx hb dX5_init_4 rfl (lv_at hl 0 rfl) ?_
  refine lv_sipush (v := 200) hx hb dX5_init_5 (by decide) ?_
  refine x_newa (atype := .byte) (a0 := (200, .inl (fun _ => 0))) hx hb (hts _ gw62) hK.1 hP hD hS hA 0 rfl (fun _ => rfl) (by decide) (by decide +kernel) (by decide) (Nat.le_of_ble_eq_true rfl) (Nat.le_of_ble_eq_true rfl) dX5_init_8 (fun q_1 H hP hD hS => ?_)
  have hP : va_P D vwCl [(h, .inr (5, [.null, .null, .int 0, .int 0, .int 0, .int 0])), (q_1, .inl (cy 0, 200, .inl (fun _ => 0)))] H := hP
  have hD : va_D A [(h, .inr (5, [.null, .null, .int 0, .int 0, .int 0, .int 0])), (q_1, .inl (cy 0, 200, .inl (fun _ => 0)))] := hD
  refine W.widen (k := 1) (n := 200) (Nat.le_of_ble_eq_true rfl) (Nat.le_of_ble_eq_true rfl) ?_
  refine va_putF (D := D) (ci := 5) (v := .ref q_1) (ty := tyX5 0) (C := RX5) (T := TX5) (N := 6) hx hb hts iG5 tyX5 tyX5_ok nmX5 hown hK.1 hP hD hS 0 rfl rfl 0 (by decide) (hts _ gw37) (fun _ h9 => h9) rfl hin rfl (by decide +kernel) rfl rfl (Nat.le_of_ble_eq_true rfl) dX5_init_10 (fun H locs hP hD hS => ?_)
  have hP : va_P D vwCl [(h, .inr (5, [.ref q_1, .null, .int 0, .int 0, .int 0, .int 0])), (q_1, .inl (cy 0, 200, .inl (fun _ => 0)))] H := hP
  have hD : va_D A [(h, .inr (5, [.ref q_1, .null, .int 0, .int 0, .int 0, .int 0])), (q_1, .inl (cy 0, 200, .inl (fun _ => 0)))] := hD
  refine lv_aload_n hx hb dX5_init_13 rfl (lv_at hl 0 rfl) ?_
  refine lv_bipush (v := 17) hx hb dX5_init_14 (by decide) ?_
  refine x_newa (atype := .int) (a0 := (17, .inl (fun _ => 0))) hx hb (hts _ gw63) hK.1 hP hD hS hA 1 rfl (fun _ => rfl) (by decide) (by decide +kernel) (by decide) (Nat.le_of_ble_eq_true rfl) (Nat.le_of_ble_eq_true rfl) dX5_init_16 (fun q_2 H hP hD hS => ?_)
  have hP : va_P D vwCl [(h, .inr (5, [.ref q_1, .null, .int 0, .int 0, .int 0, .int 0])), (q_1, .inl (cy 0, 200, .inl (fun _ => 0))), (q_2, .inl (cy 1, 17, .inl (fun _ => 0)))] H := hP
  have hD : va_D A [(h, .inr (5, [.ref q_1, .null, .int 0, .int 0, .int 0, .int 0])), (q_1, .inl (cy 0, 200, .inl (fun _ => 0))), (q_2, .inl (cy 1, 17, .inl (fun _ => 0)))] := hD
  refine W.widen (k := 2) (n := 217) (Nat.le_of_ble_eq_true rfl) (Nat.le_of_ble_eq_true rfl) ?_
  refine va_putF (D := D) (ci := 5) (v := .ref q_2) (ty := tyX5 1) (C := RX5) (T := TX5) (N := 6) hx hb hts iG5 tyX5 tyX5_ok nmX5 hown hK.1 hP hD hS 0 rfl rfl 1 (by decide) (hts _ gw39) (fun _ h9 => h9) rfl hin rfl (by decide +kernel) rfl rfl (Nat.le_of_ble_eq_true rfl) dX5_init_18 (fun H locs hP hD hS => ?_)
  have hP : va_P D vwCl [(h, .inr (5, [.ref q_1, .ref q_2, .int 0, .int 0, .int 0, .int 0])), (q_1, .inl (cy 0, 200, .inl (fun _ => 0))), (q_2, .inl (cy 1, 17, .inl (fun _ => 0)))] H := hP
  have hD : va_D A [(h, .inr (5, [.ref q_1, .ref q_2, .int 0, .int 0, .int 0, .int 0])), (q_1, .inl (cy 0, 200, .inl (fun _ => 0))), (q_2, .inl (cy 1, 17, .inl (fun _ => 0)))] := hD
  refine lv_aload_n hx hb dX5_init_21 rfl (lv_at hl 0 rfl) ?_
  refine lv_iconst (v := 0) hx hb dX5_init_22 (by decide) ?_
  refine va_put (D := D) (ci := 5) (v := .int 0) (ty := .int) (C := RX5) (T := TX5) (N := 6) hx hb hts iG5 tyX5 tyX5_ok nmX5 hown hK.1 hP hD hS 0 rfl rfl 2 (by decide) (hts _ gw40) (fun _ h9 => h9) rfl (by decide +kernel) rfl rfl (Nat.le_of_ble_eq_true rfl) dX5_init_23 (fun H locs hP hD hS => ?_)
  have hP : va_P D vwCl [(h, .inr (5, [.ref q_1, .ref q_2, .int 0, .int 0, .int 0, .int 0])), (q_1, .inl (cy 0, 200, .inl (fun _ => 0))), (q_2, .inl (cy 1, 17, .inl (fun _ => 0)))] H := hP
  have hD : va_D A [(h, .inr (5, [.ref q_1, .ref q_2, .int 0, .int 0, .int 0, .int 0])), (q_1, .inl (cy 0, 200, .inl (fun _ => 0))), (q_2, .inl (cy 1, 17, .inl (fun _ => 0)))] := hD
  refine lv_aload_n hx hb dX5_init_26 rfl (lv_at hl 0 rfl) ?_
  refine lv_iconst (v := 0) hx hb dX5_init_27 (by decide) ?_
  refine va_put (D := D) (ci := 5) (v := .int 0) (ty := .int) (C := RX5) (T := TX5) (N := 6) hx hb hts iG5 tyX5 tyX5_ok nmX5 hown hK.1 hP hD hS 0 rfl rfl 3 (by decide) (hts _ gw43) (fun _ h9 => h9) rfl (by decide +kernel) rfl rfl (Nat.le_of_ble_eq_true rfl) dX5_init_28 (fun H locs hP hD hS => ?_)
  have hP : va_P D vwCl [(h, .inr (5, [.ref q_1, .ref q_2, .int 0, .int 0, .int 0, .int 0])), (q_1, .inl (cy 0, 200, .inl (fun _ => 0))), (q_2, .inl (cy 1, 17, .inl (fun _ => 0)))] H := hP
  have hD : va_D A [(h, .inr (5, [.ref q_1, .ref q_2, .int 0, .int 0, .int 0, .int 0])), (q_1, .inl (cy 0, 200, .inl (fun _ => 0))), (q_2, .inl (cy 1, 17, .inl (fun _ => 0)))] := hD
  refine lv_aload_n hx hb dX5_init_31 rfl (lv_at hl 0 rfl) ?_
  refine lv_iconst (v := (-1)) hx hb dX5_init_32 (by decide) ?_
  refine va_put (D := D) (ci := 5) (v := .int (-1)) (ty := .int) (C := RX5) (T := TX5) (N := 6) hx hb hts iG5 tyX5 tyX5_ok nmX5 hown hK.1 hP hD hS 0 rfl rfl 4 (by decide) (hts _ gw45) (fun _ h9 => h9) rfl (by decide +kernel) rfl rfl (Nat.le_of_ble_eq_true rfl) dX5_init_33 (fun H locs hP hD hS => ?_)
  have hP : va_P D vwCl [(h, .inr (5, [.ref q_1, .ref q_2, .int 0, .int 0, .int (-1), .int 0])), (q_1, .inl (cy 0, 200, .inl (fun _ => 0))), (q_2, .inl (cy 1, 17, .inl (fun _ => 0)))] H := hP
  have hD : va_D A [(h, .inr (5, [.ref q_1, .ref q_2, .int 0, .int 0, .int (-1), .int 0])), (q_1, .inl (cy 0, 200, .inl (fun _ => 0))), (q_2, .inl (cy 1, 17, .inl (fun _ => 0)))] := hD
  refine lv_aload_n hx hb dX5_init_36 rfl (lv_at hl 0 rfl) ?_
  refine lv_iconst (v := 0) hx hb dX5_init_37 (by decide) ?_
  refine va_put (D := D) (ci := 5) (v := .int 0) (ty := .int) (C := RX5) (T := TX5) (N := 6) hx hb hts iG5 tyX5 tyX5_ok nmX5 hown hK.1 hP hD hS 0 rfl rfl 5 (by decide) (hts _ gw47) (fun _ h9 => h9) rfl (by decide +kernel) rfl rfl (Nat.le_of_ble_eq_true rfl) dX5_init_38 (fun H locs hP hD hS => ?_)
  have hP : va_P D vwCl [(h, .inr (5, [.ref q_1, .ref q_2, .int 0, .int 0, .int (-1), .int 0])), (q_1, .inl (cy 0, 200, .inl (fun _ => 0))), (q_2, .inl (cy 1, 17, .inl (fun _ => 0)))] H := hP
  have hD : va_D A [(h, .inr (5, [.ref q_1, .ref q_2, .int 0, .int 0, .int (-1), .int 0])), (q_1, .inl (cy 0, 200, .inl (fun _ => 0))), (q_2, .inl (cy 1, 17, .inl (fun _ => 0)))] := hD
  have hP9 := hP.sub (ws' := [(h, .inr (5, [.ref q_1, .ref q_2, .int 0, .int 0, .int (-1), .int 0])), (q_1, .inl (cy 0, 200, .inl (fun _ => 0)))]) [0, 1] rfl
  have hD9 := hD.sub (ws' := [(h, .inr (5, [.ref q_1, .ref q_2, .int 0, .int 0, .int (-1), .int 0])), (q_1, .inl (cy 0, 200, .inl (fun _ => 0)))]) [0, 1] (by decide) rfl
  refine W.widen (k := 2) (n := 217) (Nat.le_of_ble_eq_true rfl) (Nat.le_of_ble_eq_true rfl) ?_
  exact W.vret hx hb hr (fun t ht hW => ⟨⟨(q_1, q_2), rfl, trivial, by rw [ht]; exact hP9, hD9⟩, hS.F ht⟩) hS.2.2 dX5_init_41
end
