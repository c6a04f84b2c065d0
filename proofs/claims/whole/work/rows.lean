section
-- ===== PART A: goes FIRST, ahead of the names: the tables' words, and 'selects' of the private methods out of them =====
/-- a private method of a class that the tables say can be made, by its rows of tables_1 -/
def lw_okq (q : MethodName × Nat) : Prop := (q.1.cls ≠ "java/lang/invoke/MethodHandle" ∧ q.1.cls ≠ "java/lang/invoke/VarHandle") ∧ Cond.instantiable q.1.cls q.2 ∈ tables_1 ∧ Cond.privateMethod q.1 ∈ tables_1 ∧ Cond.instanceMethod q.1 ∈ tables_1
theorem lw_p0 : lw_okq (⟨"MonitorBoard$Files", "setUse", "(IIZ)V"⟩, 15) := ⟨⟨by decide +kernel, by decide +kernel⟩, List.mem_of_getElem? (i := 127) (by decide +kernel), List.mem_of_getElem? (i := 582) (by decide +kernel), List.mem_of_getElem? (i := 583) (by decide +kernel)⟩
theorem lw_p1 : lw_okq (⟨"MonitorBoard", "feedNumber", "(I)V"⟩, 12) := ⟨⟨by decide +kernel, by decide +kernel⟩, List.mem_of_getElem? (i := 23) (by decide +kernel), List.mem_of_getElem? (i := 644) (by decide +kernel), List.mem_of_getElem? (i := 645) (by decide +kernel)⟩
theorem lw_p2 : lw_okq (⟨"MonitorBoard$Console", "endLine", "()I"⟩, 10) := ⟨⟨by decide +kernel, by decide +kernel⟩, List.mem_of_getElem? (i := 32) (by decide +kernel), List.mem_of_getElem? (i := 682) (by decide +kernel), List.mem_of_getElem? (i := 683) (by decide +kernel)⟩
theorem lw_p3 : lw_okq (⟨"MonitorBoard$Console", "takeBack", "()V"⟩, 10) := ⟨⟨by decide +kernel, by decide +kernel⟩, List.mem_of_getElem? (i := 32) (by decide +kernel), List.mem_of_getElem? (i := 686) (by decide +kernel), List.mem_of_getElem? (i := 687) (by decide +kernel)⟩
theorem lw_p4 : lw_okq (⟨"MonitorBoard$Console", "takeSign", "(I)V"⟩, 10) := ⟨⟨by decide +kernel, by decide +kernel⟩, List.mem_of_getElem? (i := 32) (by decide +kernel), List.mem_of_getElem? (i := 690) (by decide +kernel), List.mem_of_getElem? (i := 691) (by decide +kernel)⟩
theorem lw_p5 : lw_okq (⟨"MonitorBoard$Shell", "takeLine", "()V"⟩, 19) := ⟨⟨by decide +kernel, by decide +kernel⟩, List.mem_of_getElem? (i := 252) (by decide +kernel), List.mem_of_getElem? (i := 695) (by decide +kernel), List.mem_of_getElem? (i := 696) (by decide +kernel)⟩
theorem lw_p6 : lw_okq (⟨"MonitorBoard$Shell", "skipSpaces", "(I)I"⟩, 19) := ⟨⟨by decide +kernel, by decide +kernel⟩, List.mem_of_getElem? (i := 252) (by decide +kernel), List.mem_of_getElem? (i := 701) (by decide +kernel), List.mem_of_getElem? (i := 702) (by decide +kernel)⟩
theorem lw_p7 : lw_okq (⟨"MonitorBoard$Shell", "wordEnd", "(I)I"⟩, 19) := ⟨⟨by decide +kernel, by decide +kernel⟩, List.mem_of_getElem? (i := 252) (by decide +kernel), List.mem_of_getElem? (i := 705) (by decide +kernel), List.mem_of_getElem? (i := 706) (by decide +kernel)⟩
theorem lw_p8 : lw_okq (⟨"MonitorBoard$Shell", "command", "()I"⟩, 19) := ⟨⟨by decide +kernel, by decide +kernel⟩, List.mem_of_getElem? (i := 252) (by decide +kernel), List.mem_of_getElem? (i := 709) (by decide +kernel), List.mem_of_getElem? (i := 710) (by decide +kernel)⟩
theorem lw_p9 : lw_okq (⟨"MonitorBoard$Shell", "tellDirectory", "()I"⟩, 19) := ⟨⟨by decide +kernel, by decide +kernel⟩, List.mem_of_getElem? (i := 252) (by decide +kernel), List.mem_of_getElem? (i := 717) (by decide +kernel), List.mem_of_getElem? (i := 718) (by decide +kernel)⟩
theorem lw_p10 : lw_okq (⟨"MonitorBoard$Shell", "hasWords", "(I)Z"⟩, 19) := ⟨⟨by decide +kernel, by decide +kernel⟩, List.mem_of_getElem? (i := 252) (by decide +kernel), List.mem_of_getElem? (i := 721) (by decide +kernel), List.mem_of_getElem? (i := 722) (by decide +kernel)⟩
theorem lw_p11 : lw_okq (⟨"MonitorBoard$Shell", "readWord", "(I[I)Z"⟩, 19) := ⟨⟨by decide +kernel, by decide +kernel⟩, List.mem_of_getElem? (i := 252) (by decide +kernel), List.mem_of_getElem? (i := 732) (by decide +kernel), List.mem_of_getElem? (i := 733) (by decide +kernel)⟩
theorem lw_p12 : lw_okq (⟨"MonitorBoard$Shell", "readFile", "(II[I)Z"⟩, 19) := ⟨⟨by decide +kernel, by decide +kernel⟩, List.mem_of_getElem? (i := 252) (by decide +kernel), List.mem_of_getElem? (i := 736) (by decide +kernel), List.mem_of_getElem? (i := 737) (by decide +kernel)⟩
theorem lw_p13 : lw_okq (⟨"MonitorBoard$Shell", "driveOf", "([I)I"⟩, 19) := ⟨⟨by decide +kernel, by decide +kernel⟩, List.mem_of_getElem? (i := 252) (by decide +kernel), List.mem_of_getElem? (i := 801) (by decide +kernel), List.mem_of_getElem? (i := 802) (by decide +kernel)⟩
theorem lw_p14 : lw_okq (⟨"MonitorBoard$Shell", "beginShown", "(II)V"⟩, 19) := ⟨⟨by decide +kernel, by decide +kernel⟩, List.mem_of_getElem? (i := 252) (by decide +kernel), List.mem_of_getElem? (i := 811) (by decide +kernel), List.mem_of_getElem? (i := 812) (by decide +kernel)⟩
theorem lw_p15 : lw_okq (⟨"MonitorBoard$Shell", "tellName", "(I)V"⟩, 19) := ⟨⟨by decide +kernel, by decide +kernel⟩, List.mem_of_getElem? (i := 252) (by decide +kernel), List.mem_of_getElem? (i := 824) (by decide +kernel), List.mem_of_getElem? (i := 825) (by decide +kernel)⟩
def lw_privs_1 : List (MethodName × Nat) := [(⟨"MonitorBoard$Files", "setUse", "(IIZ)V"⟩, 15), (⟨"MonitorBoard", "feedNumber", "(I)V"⟩, 12), (⟨"MonitorBoard$Console", "endLine", "()I"⟩, 10), (⟨"MonitorBoard$Console", "takeBack", "()V"⟩, 10), (⟨"MonitorBoard$Console", "takeSign", "(I)V"⟩, 10), (⟨"MonitorBoard$Shell", "takeLine", "()V"⟩, 19), (⟨"MonitorBoard$Shell", "skipSpaces", "(I)I"⟩, 19), (⟨"MonitorBoard$Shell", "wordEnd", "(I)I"⟩, 19), (⟨"MonitorBoard$Shell", "command", "()I"⟩, 19), (⟨"MonitorBoard$Shell", "tellDirectory", "()I"⟩, 19), (⟨"MonitorBoard$Shell", "hasWords", "(I)Z"⟩, 19), (⟨"MonitorBoard$Shell", "readWord", "(I[I)Z"⟩, 19), (⟨"MonitorBoard$Shell", "readFile", "(II[I)Z"⟩, 19), (⟨"MonitorBoard$Shell", "driveOf", "([I)I"⟩, 19), (⟨"MonitorBoard$Shell", "beginShown", "(II)V"⟩, 19), (⟨"MonitorBoard$Shell", "tellName", "(I)V"⟩, 19)]
theorem lw_r1 : ∀ q ∈ lw_privs_1, lw_okq q := List.forall_mem_cons.mpr ⟨lw_p0, List.forall_mem_cons.mpr ⟨lw_p1, List.forall_mem_cons.mpr ⟨lw_p2, List.forall_mem_cons.mpr ⟨lw_p3, List.forall_mem_cons.mpr ⟨lw_p4, List.forall_mem_cons.mpr ⟨lw_p5, List.forall_mem_cons.mpr ⟨lw_p6, List.forall_mem_cons.mpr ⟨lw_p7, List.forall_mem_cons.mpr ⟨lw_p8, List.forall_mem_cons.mpr ⟨lw_p9, List.forall_mem_cons.mpr ⟨lw_p10, List.forall_mem_cons.mpr ⟨lw_p11, List.forall_mem_cons.mpr ⟨lw_p12, List.forall_mem_cons.mpr ⟨lw_p13, List.forall_mem_cons.mpr ⟨lw_p14, List.forall_mem_cons.mpr ⟨lw_p15, fun _ h => absurd h List.not_mem_nil⟩⟩⟩⟩⟩⟩⟩⟩⟩⟩⟩⟩⟩⟩⟩⟩
theorem lw_p16 : lw_okq (⟨"MonitorBoard$Shell", "erase", "()I"⟩, 19) := ⟨⟨by decide +kernel, by decide +kernel⟩, List.mem_of_getElem? (i := 252) (by decide +kernel), List.mem_of_getElem? (i := 828) (by decide +kernel), List.mem_of_getElem? (i := 829) (by decide +kernel)⟩
theorem lw_p17 : lw_okq (⟨"MonitorBoard$Files", "setPlace", "(I)I"⟩, 15) := ⟨⟨by decide +kernel, by decide +kernel⟩, List.mem_of_getElem? (i := 127) (by decide +kernel), List.mem_of_getElem? (i := 839) (by decide +kernel), List.mem_of_getElem? (i := 840) (by decide +kernel)⟩
theorem lw_p18 : lw_okq (⟨"MonitorBoard$Files", "search", "()I"⟩, 15) := ⟨⟨by decide +kernel, by decide +kernel⟩, List.mem_of_getElem? (i := 127) (by decide +kernel), List.mem_of_getElem? (i := 843) (by decide +kernel), List.mem_of_getElem? (i := 844) (by decide +kernel)⟩
theorem lw_p19 : lw_okq (⟨"MonitorBoard$Files", "choose", "(Z)I"⟩, 15) := ⟨⟨by decide +kernel, by decide +kernel⟩, List.mem_of_getElem? (i := 127) (by decide +kernel), List.mem_of_getElem? (i := 853) (by decide +kernel), List.mem_of_getElem? (i := 854) (by decide +kernel)⟩
theorem lw_p20 : lw_okq (⟨"MonitorBoard$Files", "guard", "(I)I"⟩, 15) := ⟨⟨by decide +kernel, by decide +kernel⟩, List.mem_of_getElem? (i := 127) (by decide +kernel), List.mem_of_getElem? (i := 857) (by decide +kernel), List.mem_of_getElem? (i := 858) (by decide +kernel)⟩
theorem lw_p21 : lw_okq (⟨"MonitorBoard$Files", "openExtent", "(I)I"⟩, 15) := ⟨⟨by decide +kernel, by decide +kernel⟩, List.mem_of_getElem? (i := 127) (by decide +kernel), List.mem_of_getElem? (i := 861) (by decide +kernel), List.mem_of_getElem? (i := 862) (by decide +kernel)⟩
theorem lw_p22 : lw_okq (⟨"MonitorBoard$Files", "keepSearch", "()V"⟩, 15) := ⟨⟨by decide +kernel, by decide +kernel⟩, List.mem_of_getElem? (i := 127) (by decide +kernel), List.mem_of_getElem? (i := 869) (by decide +kernel), List.mem_of_getElem? (i := 870) (by decide +kernel)⟩
theorem lw_p23 : lw_okq (⟨"MonitorBoard$Files", "erase", "()I"⟩, 15) := ⟨⟨by decide +kernel, by decide +kernel⟩, List.mem_of_getElem? (i := 127) (by decide +kernel), List.mem_of_getElem? (i := 873) (by decide +kernel), List.mem_of_getElem? (i := 874) (by decide +kernel)⟩
theorem lw_p24 : lw_okq (⟨"MonitorBoard$Files", "readNext", "()I"⟩, 15) := ⟨⟨by decide +kernel, by decide +kernel⟩, List.mem_of_getElem? (i := 127) (by decide +kernel), List.mem_of_getElem? (i := 877) (by decide +kernel), List.mem_of_getElem? (i := 878) (by decide +kernel)⟩
theorem lw_p25 : lw_okq (⟨"MonitorBoard$Files", "fetchRecord", "()I"⟩, 15) := ⟨⟨by decide +kernel, by decide +kernel⟩, List.mem_of_getElem? (i := 127) (by decide +kernel), List.mem_of_getElem? (i := 881) (by decide +kernel), List.mem_of_getElem? (i := 882) (by decide +kernel)⟩
theorem lw_p26 : lw_okq (⟨"MonitorBoard$Files", "makeExtent", "(I)I"⟩, 15) := ⟨⟨by decide +kernel, by decide +kernel⟩, List.mem_of_getElem? (i := 127) (by decide +kernel), List.mem_of_getElem? (i := 889) (by decide +kernel), List.mem_of_getElem? (i := 890) (by decide +kernel)⟩
theorem lw_p27 : lw_okq (⟨"MonitorBoard$Files", "putRecord", "(Z)I"⟩, 15) := ⟨⟨by decide +kernel, by decide +kernel⟩, List.mem_of_getElem? (i := 127) (by decide +kernel), List.mem_of_getElem? (i := 897) (by decide +kernel), List.mem_of_getElem? (i := 898) (by decide +kernel)⟩
theorem lw_p28 : lw_okq (⟨"MonitorBoard$Files", "newBlock", "(Z)I"⟩, 15) := ⟨⟨by decide +kernel, by decide +kernel⟩, List.mem_of_getElem? (i := 127) (by decide +kernel), List.mem_of_getElem? (i := 901) (by decide +kernel), List.mem_of_getElem? (i := 902) (by decide +kernel)⟩
theorem lw_p29 : lw_okq (⟨"MonitorBoard$Files", "rename", "(II)I"⟩, 15) := ⟨⟨by decide +kernel, by decide +kernel⟩, List.mem_of_getElem? (i := 127) (by decide +kernel), List.mem_of_getElem? (i := 905) (by decide +kernel), List.mem_of_getElem? (i := 906) (by decide +kernel)⟩
theorem lw_p30 : lw_okq (⟨"MonitorBoard$Files", "goAtPlace", "(I)I"⟩, 15) := ⟨⟨by decide +kernel, by decide +kernel⟩, List.mem_of_getElem? (i := 127) (by decide +kernel), List.mem_of_getElem? (i := 914) (by decide +kernel), List.mem_of_getElem? (i := 915) (by decide +kernel)⟩
theorem lw_p31 : lw_okq (⟨"MonitorBoard$Shell", "rename", "()I"⟩, 19) := ⟨⟨by decide +kernel, by decide +kernel⟩, List.mem_of_getElem? (i := 252) (by decide +kernel), List.mem_of_getElem? (i := 918) (by decide +kernel), List.mem_of_getElem? (i := 919) (by decide +kernel)⟩
def lw_privs_2 : List (MethodName × Nat) := [(⟨"MonitorBoard$Shell", "erase", "()I"⟩, 19), (⟨"MonitorBoard$Files", "setPlace", "(I)I"⟩, 15), (⟨"MonitorBoard$Files", "search", "()I"⟩, 15), (⟨"MonitorBoard$Files", "choose", "(Z)I"⟩, 15), (⟨"MonitorBoard$Files", "guard", "(I)I"⟩, 15), (⟨"MonitorBoard$Files", "openExtent", "(I)I"⟩, 15), (⟨"MonitorBoard$Files", "keepSearch", "()V"⟩, 15), (⟨"MonitorBoard$Files", "erase", "()I"⟩, 15), (⟨"MonitorBoard$Files", "readNext", "()I"⟩, 15), (⟨"MonitorBoard$Files", "fetchRecord", "()I"⟩, 15), (⟨"MonitorBoard$Files", "makeExtent", "(I)I"⟩, 15), (⟨"MonitorBoard$Files", "putRecord", "(Z)I"⟩, 15), (⟨"MonitorBoard$Files", "newBlock", "(Z)I"⟩, 15), (⟨"MonitorBoard$Files", "rename", "(II)I"⟩, 15), (⟨"MonitorBoard$Files", "goAtPlace", "(I)I"⟩, 15), (⟨"MonitorBoard$Shell", "rename", "()I"⟩, 19)]
theorem lw_r2 : ∀ q ∈ lw_privs_2, lw_okq q := List.forall_mem_cons.mpr ⟨lw_p16, List.forall_mem_cons.mpr ⟨lw_p17, List.forall_mem_cons.mpr ⟨lw_p18, List.forall_mem_cons.mpr ⟨lw_p19, List.forall_mem_cons.mpr ⟨lw_p20, List.forall_mem_cons.mpr ⟨lw_p21, List.forall_mem_cons.mpr ⟨lw_p22, List.forall_mem_cons.mpr ⟨lw_p23, List.forall_mem_cons.mpr ⟨lw_p24, List.forall_mem_cons.mpr ⟨lw_p25, List.forall_mem_cons.mpr ⟨lw_p26, List.forall_mem_cons.mpr ⟨lw_p27, List.forall_mem_cons.mpr ⟨lw_p28, List.forall_mem_cons.mpr ⟨lw_p29, List.forall_mem_cons.mpr ⟨lw_p30, List.forall_mem_cons.mpr ⟨lw_p31, fun _ h => absurd h List.not_mem_nil⟩⟩⟩⟩⟩⟩⟩⟩⟩⟩⟩⟩⟩⟩⟩⟩
theorem lw_p32 : lw_okq (⟨"MonitorBoard$Shell", "readTwoFiles", "()Z"⟩, 19) := ⟨⟨by decide +kernel, by decide +kernel⟩, List.mem_of_getElem? (i := 252) (by decide +kernel), List.mem_of_getElem? (i := 922) (by decide +kernel), List.mem_of_getElem? (i := 923) (by decide +kernel)⟩
theorem lw_p33 : lw_okq (⟨"MonitorBoard$Shell", "type", "()I"⟩, 19) := ⟨⟨by decide +kernel, by decide +kernel⟩, List.mem_of_getElem? (i := 252) (by decide +kernel), List.mem_of_getElem? (i := 929) (by decide +kernel), List.mem_of_getElem? (i := 930) (by decide +kernel)⟩
theorem lw_p34 : lw_okq (⟨"MonitorBoard$Shell", "openOnly", "()I"⟩, 19) := ⟨⟨by decide +kernel, by decide +kernel⟩, List.mem_of_getElem? (i := 252) (by decide +kernel), List.mem_of_getElem? (i := 933) (by decide +kernel), List.mem_of_getElem? (i := 934) (by decide +kernel)⟩
theorem lw_p35 : lw_okq (⟨"MonitorBoard$Reader", "goToExtent", "(I)V"⟩, 8) := ⟨⟨by decide +kernel, by decide +kernel⟩, List.mem_of_getElem? (i := 350) (by decide +kernel), List.mem_of_getElem? (i := 943) (by decide +kernel), List.mem_of_getElem? (i := 944) (by decide +kernel)⟩
theorem lw_p36 : lw_okq (⟨"MonitorBoard$Shell", "save", "()I"⟩, 19) := ⟨⟨by decide +kernel, by decide +kernel⟩, List.mem_of_getElem? (i := 252) (by decide +kernel), List.mem_of_getElem? (i := 956) (by decide +kernel), List.mem_of_getElem? (i := 957) (by decide +kernel)⟩
theorem lw_p37 : lw_okq (⟨"MonitorBoard$Shell", "readNumber", "(II)I"⟩, 19) := ⟨⟨by decide +kernel, by decide +kernel⟩, List.mem_of_getElem? (i := 252) (by decide +kernel), List.mem_of_getElem? (i := 960) (by decide +kernel), List.mem_of_getElem? (i := 961) (by decide +kernel)⟩
theorem lw_p38 : lw_okq (⟨"MonitorBoard$Shell", "writeFromMemory", "(I)I"⟩, 19) := ⟨⟨by decide +kernel, by decide +kernel⟩, List.mem_of_getElem? (i := 252) (by decide +kernel), List.mem_of_getElem? (i := 971) (by decide +kernel), List.mem_of_getElem? (i := 972) (by decide +kernel)⟩
theorem lw_p39 : lw_okq (⟨"MonitorBoard$Shell", "chooseUser", "()I"⟩, 19) := ⟨⟨by decide +kernel, by decide +kernel⟩, List.mem_of_getElem? (i := 252) (by decide +kernel), List.mem_of_getElem? (i := 981) (by decide +kernel), List.mem_of_getElem? (i := 982) (by decide +kernel)⟩
theorem lw_p40 : lw_okq (⟨"MonitorBoard$Shell", "dump", "()I"⟩, 19) := ⟨⟨by decide +kernel, by decide +kernel⟩, List.mem_of_getElem? (i := 252) (by decide +kernel), List.mem_of_getElem? (i := 985) (by decide +kernel), List.mem_of_getElem? (i := 986) (by decide +kernel)⟩
theorem lw_p41 : lw_okq (⟨"MonitorBoard$Shell", "tellStatus", "()I"⟩, 19) := ⟨⟨by decide +kernel, by decide +kernel⟩, List.mem_of_getElem? (i := 252) (by decide +kernel), List.mem_of_getElem? (i := 994) (by decide +kernel), List.mem_of_getElem? (i := 995) (by decide +kernel)⟩
theorem lw_p42 : lw_okq (⟨"MonitorBoard$Shell", "tellSize", "(II)V"⟩, 19) := ⟨⟨by decide +kernel, by decide +kernel⟩, List.mem_of_getElem? (i := 252) (by decide +kernel), List.mem_of_getElem? (i := 1003) (by decide +kernel), List.mem_of_getElem? (i := 1004) (by decide +kernel)⟩
theorem lw_p43 : lw_okq (⟨"MonitorBoard$Shell", "blocksOf", "(I)I"⟩, 19) := ⟨⟨by decide +kernel, by decide +kernel⟩, List.mem_of_getElem? (i := 252) (by decide +kernel), List.mem_of_getElem? (i := 1008) (by decide +kernel), List.mem_of_getElem? (i := 1009) (by decide +kernel)⟩
theorem lw_p44 : lw_okq (⟨"MonitorBoard$Shell", "copy", "()I"⟩, 19) := ⟨⟨by decide +kernel, by decide +kernel⟩, List.mem_of_getElem? (i := 252) (by decide +kernel), List.mem_of_getElem? (i := 1012) (by decide +kernel), List.mem_of_getElem? (i := 1013) (by decide +kernel)⟩
theorem lw_p45 : lw_okq (⟨"MonitorBoard$Shell", "loadHex", "()I"⟩, 19) := ⟨⟨by decide +kernel, by decide +kernel⟩, List.mem_of_getElem? (i := 252) (by decide +kernel), List.mem_of_getElem? (i := 1016) (by decide +kernel), List.mem_of_getElem? (i := 1017) (by decide +kernel)⟩
theorem lw_p46 : lw_okq (⟨"MonitorBoard$HexText", "beginLine", "(I)V"⟩, 9) := ⟨⟨by decide +kernel, by decide +kernel⟩, List.mem_of_getElem? (i := 258) (by decide +kernel), List.mem_of_getElem? (i := 1035) (by decide +kernel), List.mem_of_getElem? (i := 1036) (by decide +kernel)⟩
theorem lw_p47 : lw_okq (⟨"MonitorBoard$HexText", "acceptDigit", "(I)V"⟩, 9) := ⟨⟨by decide +kernel, by decide +kernel⟩, List.mem_of_getElem? (i := 258) (by decide +kernel), List.mem_of_getElem? (i := 1039) (by decide +kernel), List.mem_of_getElem? (i := 1040) (by decide +kernel)⟩
def lw_privs_3 : List (MethodName × Nat) := [(⟨"MonitorBoard$Shell", "readTwoFiles", "()Z"⟩, 19), (⟨"MonitorBoard$Shell", "type", "()I"⟩, 19), (⟨"MonitorBoard$Shell", "openOnly", "()I"⟩, 19), (⟨"MonitorBoard$Reader", "goToExtent", "(I)V"⟩, 8), (⟨"MonitorBoard$Shell", "save", "()I"⟩, 19), (⟨"MonitorBoard$Shell", "readNumber", "(II)I"⟩, 19), (⟨"MonitorBoard$Shell", "writeFromMemory", "(I)I"⟩, 19), (⟨"MonitorBoard$Shell", "chooseUser", "()I"⟩, 19), (⟨"MonitorBoard$Shell", "dump", "()I"⟩, 19), (⟨"MonitorBoard$Shell", "tellStatus", "()I"⟩, 19), (⟨"MonitorBoard$Shell", "tellSize", "(II)V"⟩, 19), (⟨"MonitorBoard$Shell", "blocksOf", "(I)I"⟩, 19), (⟨"MonitorBoard$Shell", "copy", "()I"⟩, 19), (⟨"MonitorBoard$Shell", "loadHex", "()I"⟩, 19), (⟨"MonitorBoard$HexText", "beginLine", "(I)V"⟩, 9), (⟨"MonitorBoard$HexText", "acceptDigit", "(I)V"⟩, 9)]
theorem lw_r3 : ∀ q ∈ lw_privs_3, lw_okq q := List.forall_mem_cons.mpr ⟨lw_p32, List.forall_mem_cons.mpr ⟨lw_p33, List.forall_mem_cons.mpr ⟨lw_p34, List.forall_mem_cons.mpr ⟨lw_p35, List.forall_mem_cons.mpr ⟨lw_p36, List.forall_mem_cons.mpr ⟨lw_p37, List.forall_mem_cons.mpr ⟨lw_p38, List.forall_mem_cons.mpr ⟨lw_p39, List.forall_mem_cons.mpr ⟨lw_p40, List.forall_mem_cons.mpr ⟨lw_p41, List.forall_mem_cons.mpr ⟨lw_p42, List.forall_mem_cons.mpr ⟨lw_p43, List.forall_mem_cons.mpr ⟨lw_p44, List.forall_mem_cons.mpr ⟨lw_p45, List.forall_mem_cons.mpr ⟨lw_p46, List.forall_mem_cons.mpr ⟨lw_p47, fun _ h => absurd h List.not_mem_nil⟩⟩⟩⟩⟩⟩⟩⟩⟩⟩⟩⟩⟩⟩⟩⟩
theorem lw_p48 : lw_okq (⟨"MonitorBoard$HexText", "acceptByte", "(I)V"⟩, 9) := ⟨⟨by decide +kernel, by decide +kernel⟩, List.mem_of_getElem? (i := 258) (by decide +kernel), List.mem_of_getElem? (i := 1045) (by decide +kernel), List.mem_of_getElem? (i := 1046) (by decide +kernel)⟩
theorem lw_p49 : lw_okq (⟨"MonitorBoard$HexText", "keep", "(I)V"⟩, 9) := ⟨⟨by decide +kernel, by decide +kernel⟩, List.mem_of_getElem? (i := 258) (by decide +kernel), List.mem_of_getElem? (i := 1049) (by decide +kernel), List.mem_of_getElem? (i := 1050) (by decide +kernel)⟩
theorem lw_p50 : lw_okq (⟨"MonitorBoard$Shell", "chooseDriveOrProgram", "()I"⟩, 19) := ⟨⟨by decide +kernel, by decide +kernel⟩, List.mem_of_getElem? (i := 252) (by decide +kernel), List.mem_of_getElem? (i := 1065) (by decide +kernel), List.mem_of_getElem? (i := 1066) (by decide +kernel)⟩
theorem lw_p51 : lw_okq (⟨"MonitorBoard$Shell", "handOver", "()V"⟩, 19) := ⟨⟨by decide +kernel, by decide +kernel⟩, List.mem_of_getElem? (i := 252) (by decide +kernel), List.mem_of_getElem? (i := 1069) (by decide +kernel), List.mem_of_getElem? (i := 1070) (by decide +kernel)⟩
theorem lw_p52 : lw_okq (⟨"MonitorBoard$Shell", "putWord", "(II)V"⟩, 19) := ⟨⟨by decide +kernel, by decide +kernel⟩, List.mem_of_getElem? (i := 252) (by decide +kernel), List.mem_of_getElem? (i := 1073) (by decide +kernel), List.mem_of_getElem? (i := 1074) (by decide +kernel)⟩
theorem lw_p53 : lw_okq (⟨"MonitorBoard$Shell", "finish", "(I)V"⟩, 19) := ⟨⟨by decide +kernel, by decide +kernel⟩, List.mem_of_getElem? (i := 252) (by decide +kernel), List.mem_of_getElem? (i := 1081) (by decide +kernel), List.mem_of_getElem? (i := 1082) (by decide +kernel)⟩
theorem lw_p54 : lw_okq (⟨"MonitorBoard$Monitor", "serveBios", "(I)I"⟩, 9) := ⟨⟨by decide +kernel, by decide +kernel⟩, List.mem_of_getElem? (i := 211) (by decide +kernel), List.mem_of_getElem? (i := 1109) (by decide +kernel), List.mem_of_getElem? (i := 1110) (by decide +kernel)⟩
theorem lw_p55 : lw_okq (⟨"MonitorBoard$Monitor", "accumulate", "(I)I"⟩, 9) := ⟨⟨by decide +kernel, by decide +kernel⟩, List.mem_of_getElem? (i := 211) (by decide +kernel), List.mem_of_getElem? (i := 1121) (by decide +kernel), List.mem_of_getElem? (i := 1122) (by decide +kernel)⟩
theorem lw_p56 : lw_okq (⟨"MonitorBoard$Monitor", "chooseDrive", "(I)V"⟩, 9) := ⟨⟨by decide +kernel, by decide +kernel⟩, List.mem_of_getElem? (i := 211) (by decide +kernel), List.mem_of_getElem? (i := 1126) (by decide +kernel), List.mem_of_getElem? (i := 1127) (by decide +kernel)⟩
theorem lw_p57 : lw_okq (⟨"MonitorBoard$Monitor", "carrySector", "(Z)I"⟩, 9) := ⟨⟨by decide +kernel, by decide +kernel⟩, List.mem_of_getElem? (i := 211) (by decide +kernel), List.mem_of_getElem? (i := 1135) (by decide +kernel), List.mem_of_getElem? (i := 1136) (by decide +kernel)⟩
theorem lw_p58 : lw_okq (⟨"MonitorBoard$Monitor", "callFiles", "(I)I"⟩, 9) := ⟨⟨by decide +kernel, by decide +kernel⟩, List.mem_of_getElem? (i := 211) (by decide +kernel), List.mem_of_getElem? (i := 1148) (by decide +kernel), List.mem_of_getElem? (i := 1149) (by decide +kernel)⟩
theorem lw_p59 : lw_okq (⟨"MonitorBoard$Monitor", "callBoard", "(II)I"⟩, 9) := ⟨⟨by decide +kernel, by decide +kernel⟩, List.mem_of_getElem? (i := 211) (by decide +kernel), List.mem_of_getElem? (i := 1153) (by decide +kernel), List.mem_of_getElem? (i := 1154) (by decide +kernel)⟩
theorem lw_p60 : lw_okq (⟨"MonitorBoard$Monitor", "echoKey", "()I"⟩, 9) := ⟨⟨by decide +kernel, by decide +kernel⟩, List.mem_of_getElem? (i := 211) (by decide +kernel), List.mem_of_getElem? (i := 1157) (by decide +kernel), List.mem_of_getElem? (i := 1158) (by decide +kernel)⟩
theorem lw_p61 : lw_okq (⟨"MonitorBoard$Monitor", "talkDirectly", "(I)I"⟩, 9) := ⟨⟨by decide +kernel, by decide +kernel⟩, List.mem_of_getElem? (i := 211) (by decide +kernel), List.mem_of_getElem? (i := 1161) (by decide +kernel), List.mem_of_getElem? (i := 1162) (by decide +kernel)⟩
theorem lw_p62 : lw_okq (⟨"MonitorBoard$Monitor", "tellSigns", "(I)I"⟩, 9) := ⟨⟨by decide +kernel, by decide +kernel⟩, List.mem_of_getElem? (i := 211) (by decide +kernel), List.mem_of_getElem? (i := 1165) (by decide +kernel), List.mem_of_getElem? (i := 1166) (by decide +kernel)⟩
theorem lw_p63 : lw_okq (⟨"MonitorBoard$Monitor", "readBuffer", "(I)I"⟩, 9) := ⟨⟨by decide +kernel, by decide +kernel⟩, List.mem_of_getElem? (i := 211) (by decide +kernel), List.mem_of_getElem? (i := 1170) (by decide +kernel), List.mem_of_getElem? (i := 1171) (by decide +kernel)⟩
def lw_privs_4 : List (MethodName × Nat) := [(⟨"MonitorBoard$HexText", "acceptByte", "(I)V"⟩, 9), (⟨"MonitorBoard$HexText", "keep", "(I)V"⟩, 9), (⟨"MonitorBoard$Shell", "chooseDriveOrProgram", "()I"⟩, 19), (⟨"MonitorBoard$Shell", "handOver", "()V"⟩, 19), (⟨"MonitorBoard$Shell", "putWord", "(II)V"⟩, 19), (⟨"MonitorBoard$Shell", "finish", "(I)V"⟩, 19), (⟨"MonitorBoard$Monitor", "serveBios", "(I)I"⟩, 9), (⟨"MonitorBoard$Monitor", "accumulate", "(I)I"⟩, 9), (⟨"MonitorBoard$Monitor", "chooseDrive", "(I)V"⟩, 9), (⟨"MonitorBoard$Monitor", "carrySector", "(Z)I"⟩, 9), (⟨"MonitorBoard$Monitor", "callFiles", "(I)I"⟩, 9), (⟨"MonitorBoard$Monitor", "callBoard", "(II)I"⟩, 9), (⟨"MonitorBoard$Monitor", "echoKey", "()I"⟩, 9), (⟨"MonitorBoard$Monitor", "talkDirectly", "(I)I"⟩, 9), (⟨"MonitorBoard$Monitor", "tellSigns", "(I)I"⟩, 9), (⟨"MonitorBoard$Monitor", "readBuffer", "(I)I"⟩, 9)]
theorem lw_r4 : ∀ q ∈ lw_privs_4, lw_okq q := List.forall_mem_cons.mpr ⟨lw_p48, List.forall_mem_cons.mpr ⟨lw_p49, List.forall_mem_cons.mpr ⟨lw_p50, List.forall_mem_cons.mpr ⟨lw_p51, List.forall_mem_cons.mpr ⟨lw_p52, List.forall_mem_cons.mpr ⟨lw_p53, List.forall_mem_cons.mpr ⟨lw_p54, List.forall_mem_cons.mpr ⟨lw_p55, List.forall_mem_cons.mpr ⟨lw_p56, List.forall_mem_cons.mpr ⟨lw_p57, List.forall_mem_cons.mpr ⟨lw_p58, List.forall_mem_cons.mpr ⟨lw_p59, List.forall_mem_cons.mpr ⟨lw_p60, List.forall_mem_cons.mpr ⟨lw_p61, List.forall_mem_cons.mpr ⟨lw_p62, List.forall_mem_cons.mpr ⟨lw_p63, fun _ h => absurd h List.not_mem_nil⟩⟩⟩⟩⟩⟩⟩⟩⟩⟩⟩⟩⟩⟩⟩⟩
theorem lw_p64 : lw_okq (⟨"MonitorBoard$Monitor", "callDrives", "(II)I"⟩, 9) := ⟨⟨by decide +kernel, by decide +kernel⟩, List.mem_of_getElem? (i := 211) (by decide +kernel), List.mem_of_getElem? (i := 1175) (by decide +kernel), List.mem_of_getElem? (i := 1176) (by decide +kernel)⟩
theorem lw_p65 : lw_okq (⟨"MonitorBoard$Monitor", "resetDrives", "()V"⟩, 9) := ⟨⟨by decide +kernel, by decide +kernel⟩, List.mem_of_getElem? (i := 211) (by decide +kernel), List.mem_of_getElem? (i := 1179) (by decide +kernel), List.mem_of_getElem? (i := 1180) (by decide +kernel)⟩
theorem lw_p66 : lw_okq (⟨"MonitorBoard$Monitor", "choose", "(I)I"⟩, 9) := ⟨⟨by decide +kernel, by decide +kernel⟩, List.mem_of_getElem? (i := 211) (by decide +kernel), List.mem_of_getElem? (i := 1183) (by decide +kernel), List.mem_of_getElem? (i := 1184) (by decide +kernel)⟩
theorem lw_p67 : lw_okq (⟨"MonitorBoard$Monitor", "showUse", "()I"⟩, 9) := ⟨⟨by decide +kernel, by decide +kernel⟩, List.mem_of_getElem? (i := 211) (by decide +kernel), List.mem_of_getElem? (i := 1187) (by decide +kernel), List.mem_of_getElem? (i := 1188) (by decide +kernel)⟩
theorem lw_p68 : lw_okq (⟨"MonitorBoard$Monitor", "showDisk", "()I"⟩, 9) := ⟨⟨by decide +kernel, by decide +kernel⟩, List.mem_of_getElem? (i := 211) (by decide +kernel), List.mem_of_getElem? (i := 1192) (by decide +kernel), List.mem_of_getElem? (i := 1193) (by decide +kernel)⟩
theorem lw_p69 : lw_okq (⟨"MonitorBoard$Monitor", "chooseUser", "(I)I"⟩, 9) := ⟨⟨by decide +kernel, by decide +kernel⟩, List.mem_of_getElem? (i := 211) (by decide +kernel), List.mem_of_getElem? (i := 1199) (by decide +kernel), List.mem_of_getElem? (i := 1200) (by decide +kernel)⟩
theorem lw_p70 : lw_okq (⟨"MonitorBoard$Processor", "nextByte", "()I"⟩, 8) := ⟨⟨by decide +kernel, by decide +kernel⟩, List.mem_of_getElem? (i := 79) (by decide +kernel), List.mem_of_getElem? (i := 1218) (by decide +kernel), List.mem_of_getElem? (i := 1219) (by decide +kernel)⟩
theorem lw_p71 : lw_okq (⟨"MonitorBoard$Processor", "stepLow", "(I)V"⟩, 8) := ⟨⟨by decide +kernel, by decide +kernel⟩, List.mem_of_getElem? (i := 79) (by decide +kernel), List.mem_of_getElem? (i := 1222) (by decide +kernel), List.mem_of_getElem? (i := 1223) (by decide +kernel)⟩
theorem lw_p72 : lw_okq (⟨"MonitorBoard$Processor", "addPair", "(I)V"⟩, 8) := ⟨⟨by decide +kernel, by decide +kernel⟩, List.mem_of_getElem? (i := 79) (by decide +kernel), List.mem_of_getElem? (i := 1226) (by decide +kernel), List.mem_of_getElem? (i := 1227) (by decide +kernel)⟩
theorem lw_p73 : lw_okq (⟨"MonitorBoard$Processor", "setFlag", "(IZ)V"⟩, 8) := ⟨⟨by decide +kernel, by decide +kernel⟩, List.mem_of_getElem? (i := 79) (by decide +kernel), List.mem_of_getElem? (i := 1232) (by decide +kernel), List.mem_of_getElem? (i := 1233) (by decide +kernel)⟩
theorem lw_p74 : lw_okq (⟨"MonitorBoard$Processor", "nextWord", "()I"⟩, 8) := ⟨⟨by decide +kernel, by decide +kernel⟩, List.mem_of_getElem? (i := 79) (by decide +kernel), List.mem_of_getElem? (i := 1236) (by decide +kernel), List.mem_of_getElem? (i := 1237) (by decide +kernel)⟩
theorem lw_p75 : lw_okq (⟨"MonitorBoard$Processor", "carryOver", "(I)V"⟩, 8) := ⟨⟨by decide +kernel, by decide +kernel⟩, List.mem_of_getElem? (i := 79) (by decide +kernel), List.mem_of_getElem? (i := 1241) (by decide +kernel), List.mem_of_getElem? (i := 1242) (by decide +kernel)⟩
theorem lw_p76 : lw_okq (⟨"MonitorBoard$Processor", "increase", "(I)V"⟩, 8) := ⟨⟨by decide +kernel, by decide +kernel⟩, List.mem_of_getElem? (i := 79) (by decide +kernel), List.mem_of_getElem? (i := 1252) (by decide +kernel), List.mem_of_getElem? (i := 1253) (by decide +kernel)⟩
theorem lw_p77 : lw_okq (⟨"MonitorBoard$Processor", "valueOf", "(I)I"⟩, 8) := ⟨⟨by decide +kernel, by decide +kernel⟩, List.mem_of_getElem? (i := 79) (by decide +kernel), List.mem_of_getElem? (i := 1256) (by decide +kernel), List.mem_of_getElem? (i := 1257) (by decide +kernel)⟩
theorem lw_p78 : lw_okq (⟨"MonitorBoard$Processor", "setValue", "(II)V"⟩, 8) := ⟨⟨by decide +kernel, by decide +kernel⟩, List.mem_of_getElem? (i := 79) (by decide +kernel), List.mem_of_getElem? (i := 1260) (by decide +kernel), List.mem_of_getElem? (i := 1261) (by decide +kernel)⟩
theorem lw_p79 : lw_okq (⟨"MonitorBoard$Processor", "flagsOf", "(I)V"⟩, 8) := ⟨⟨by decide +kernel, by decide +kernel⟩, List.mem_of_getElem? (i := 79) (by decide +kernel), List.mem_of_getElem? (i := 1264) (by decide +kernel), List.mem_of_getElem? (i := 1265) (by decide +kernel)⟩
def lw_privs_5 : List (MethodName × Nat) := [(⟨"MonitorBoard$Monitor", "callDrives", "(II)I"⟩, 9), (⟨"MonitorBoard$Monitor", "resetDrives", "()V"⟩, 9), (⟨"MonitorBoard$Monitor", "choose", "(I)I"⟩, 9), (⟨"MonitorBoard$Monitor", "showUse", "()I"⟩, 9), (⟨"MonitorBoard$Monitor", "showDisk", "()I"⟩, 9), (⟨"MonitorBoard$Monitor", "chooseUser", "(I)I"⟩, 9), (⟨"MonitorBoard$Processor", "nextByte", "()I"⟩, 8), (⟨"MonitorBoard$Processor", "stepLow", "(I)V"⟩, 8), (⟨"MonitorBoard$Processor", "addPair", "(I)V"⟩, 8), (⟨"MonitorBoard$Processor", "setFlag", "(IZ)V"⟩, 8), (⟨"MonitorBoard$Processor", "nextWord", "()I"⟩, 8), (⟨"MonitorBoard$Processor", "carryOver", "(I)V"⟩, 8), (⟨"MonitorBoard$Processor", "increase", "(I)V"⟩, 8), (⟨"MonitorBoard$Processor", "valueOf", "(I)I"⟩, 8), (⟨"MonitorBoard$Processor", "setValue", "(II)V"⟩, 8), (⟨"MonitorBoard$Processor", "flagsOf", "(I)V"⟩, 8)]
theorem lw_r5 : ∀ q ∈ lw_privs_5, lw_okq q := List.forall_mem_cons.mpr ⟨lw_p64, List.forall_mem_cons.mpr ⟨lw_p65, List.forall_mem_cons.mpr ⟨lw_p66, List.forall_mem_cons.mpr ⟨lw_p67, List.forall_mem_cons.mpr ⟨lw_p68, List.forall_mem_cons.mpr ⟨lw_p69, List.forall_mem_cons.mpr ⟨lw_p70, List.forall_mem_cons.mpr ⟨lw_p71, List.forall_mem_cons.mpr ⟨lw_p72, List.forall_mem_cons.mpr ⟨lw_p73, List.forall_mem_cons.mpr ⟨lw_p74, List.forall_mem_cons.mpr ⟨lw_p75, List.forall_mem_cons.mpr ⟨lw_p76, List.forall_mem_cons.mpr ⟨lw_p77, List.forall_mem_cons.mpr ⟨lw_p78, List.forall_mem_cons.mpr ⟨lw_p79, fun _ h => absurd h List.not_mem_nil⟩⟩⟩⟩⟩⟩⟩⟩⟩⟩⟩⟩⟩⟩⟩⟩
theorem lw_p80 : lw_okq (⟨"MonitorBoard$Processor", "decrease", "(I)V"⟩, 8) := ⟨⟨by decide +kernel, by decide +kernel⟩, List.mem_of_getElem? (i := 79) (by decide +kernel), List.mem_of_getElem? (i := 1274) (by decide +kernel), List.mem_of_getElem? (i := 1275) (by decide +kernel)⟩
theorem lw_p81 : lw_okq (⟨"MonitorBoard$Processor", "turnAccumulator", "(I)V"⟩, 8) := ⟨⟨by decide +kernel, by decide +kernel⟩, List.mem_of_getElem? (i := 79) (by decide +kernel), List.mem_of_getElem? (i := 1278) (by decide +kernel), List.mem_of_getElem? (i := 1279) (by decide +kernel)⟩
theorem lw_p82 : lw_okq (⟨"MonitorBoard$Processor", "shifted", "(IZ)V"⟩, 8) := ⟨⟨by decide +kernel, by decide +kernel⟩, List.mem_of_getElem? (i := 79) (by decide +kernel), List.mem_of_getElem? (i := 1282) (by decide +kernel), List.mem_of_getElem? (i := 1283) (by decide +kernel)⟩
theorem lw_p83 : lw_okq (⟨"MonitorBoard$Processor", "adjust", "()V"⟩, 8) := ⟨⟨by decide +kernel, by decide +kernel⟩, List.mem_of_getElem? (i := 79) (by decide +kernel), List.mem_of_getElem? (i := 1286) (by decide +kernel), List.mem_of_getElem? (i := 1287) (by decide +kernel)⟩
theorem lw_p84 : lw_okq (⟨"MonitorBoard$Processor", "has", "(I)Z"⟩, 8) := ⟨⟨by decide +kernel, by decide +kernel⟩, List.mem_of_getElem? (i := 79) (by decide +kernel), List.mem_of_getElem? (i := 1290) (by decide +kernel), List.mem_of_getElem? (i := 1291) (by decide +kernel)⟩
theorem lw_p85 : lw_okq (⟨"MonitorBoard$Processor", "stepMove", "(I)V"⟩, 8) := ⟨⟨by decide +kernel, by decide +kernel⟩, List.mem_of_getElem? (i := 79) (by decide +kernel), List.mem_of_getElem? (i := 1295) (by decide +kernel), List.mem_of_getElem? (i := 1296) (by decide +kernel)⟩
theorem lw_p86 : lw_okq (⟨"MonitorBoard$Processor", "reckon", "(II)V"⟩, 8) := ⟨⟨by decide +kernel, by decide +kernel⟩, List.mem_of_getElem? (i := 79) (by decide +kernel), List.mem_of_getElem? (i := 1299) (by decide +kernel), List.mem_of_getElem? (i := 1300) (by decide +kernel)⟩
theorem lw_p87 : lw_okq (⟨"MonitorBoard$Processor", "addUp", "(II)V"⟩, 8) := ⟨⟨by decide +kernel, by decide +kernel⟩, List.mem_of_getElem? (i := 79) (by decide +kernel), List.mem_of_getElem? (i := 1303) (by decide +kernel), List.mem_of_getElem? (i := 1304) (by decide +kernel)⟩
theorem lw_p88 : lw_okq (⟨"MonitorBoard$Processor", "difference", "(II)I"⟩, 8) := ⟨⟨by decide +kernel, by decide +kernel⟩, List.mem_of_getElem? (i := 79) (by decide +kernel), List.mem_of_getElem? (i := 1307) (by decide +kernel), List.mem_of_getElem? (i := 1308) (by decide +kernel)⟩
theorem lw_p89 : lw_okq (⟨"MonitorBoard$Processor", "joined", "(IZ)V"⟩, 8) := ⟨⟨by decide +kernel, by decide +kernel⟩, List.mem_of_getElem? (i := 79) (by decide +kernel), List.mem_of_getElem? (i := 1311) (by decide +kernel), List.mem_of_getElem? (i := 1312) (by decide +kernel)⟩
theorem lw_p90 : lw_okq (⟨"MonitorBoard$Processor", "stepHigh", "(I)V"⟩, 8) := ⟨⟨by decide +kernel, by decide +kernel⟩, List.mem_of_getElem? (i := 79) (by decide +kernel), List.mem_of_getElem? (i := 1315) (by decide +kernel), List.mem_of_getElem? (i := 1316) (by decide +kernel)⟩
theorem lw_p91 : lw_okq (⟨"MonitorBoard$Processor", "holds", "(I)Z"⟩, 8) := ⟨⟨by decide +kernel, by decide +kernel⟩, List.mem_of_getElem? (i := 79) (by decide +kernel), List.mem_of_getElem? (i := 1319) (by decide +kernel), List.mem_of_getElem? (i := 1320) (by decide +kernel)⟩
theorem lw_p92 : lw_okq (⟨"MonitorBoard$Processor", "returnIf", "(Z)V"⟩, 8) := ⟨⟨by decide +kernel, by decide +kernel⟩, List.mem_of_getElem? (i := 79) (by decide +kernel), List.mem_of_getElem? (i := 1323) (by decide +kernel), List.mem_of_getElem? (i := 1324) (by decide +kernel)⟩
theorem lw_p93 : lw_okq (⟨"MonitorBoard$Processor", "popOrReturn", "(I)V"⟩, 8) := ⟨⟨by decide +kernel, by decide +kernel⟩, List.mem_of_getElem? (i := 79) (by decide +kernel), List.mem_of_getElem? (i := 1329) (by decide +kernel), List.mem_of_getElem? (i := 1330) (by decide +kernel)⟩
theorem lw_p94 : lw_okq (⟨"MonitorBoard$Processor", "popPair", "(I)V"⟩, 8) := ⟨⟨by decide +kernel, by decide +kernel⟩, List.mem_of_getElem? (i := 79) (by decide +kernel), List.mem_of_getElem? (i := 1333) (by decide +kernel), List.mem_of_getElem? (i := 1334) (by decide +kernel)⟩
theorem lw_p95 : lw_okq (⟨"MonitorBoard$Processor", "jumpIf", "(Z)V"⟩, 8) := ⟨⟨by decide +kernel, by decide +kernel⟩, List.mem_of_getElem? (i := 79) (by decide +kernel), List.mem_of_getElem? (i := 1337) (by decide +kernel), List.mem_of_getElem? (i := 1338) (by decide +kernel)⟩
def lw_privs_6 : List (MethodName × Nat) := [(⟨"MonitorBoard$Processor", "decrease", "(I)V"⟩, 8), (⟨"MonitorBoard$Processor", "turnAccumulator", "(I)V"⟩, 8), (⟨"MonitorBoard$Processor", "shifted", "(IZ)V"⟩, 8), (⟨"MonitorBoard$Processor", "adjust", "()V"⟩, 8), (⟨"MonitorBoard$Processor", "has", "(I)Z"⟩, 8), (⟨"MonitorBoard$Processor", "stepMove", "(I)V"⟩, 8), (⟨"MonitorBoard$Processor", "reckon", "(II)V"⟩, 8), (⟨"MonitorBoard$Processor", "addUp", "(II)V"⟩, 8), (⟨"MonitorBoard$Processor", "difference", "(II)I"⟩, 8), (⟨"MonitorBoard$Processor", "joined", "(IZ)V"⟩, 8), (⟨"MonitorBoard$Processor", "stepHigh", "(I)V"⟩, 8), (⟨"MonitorBoard$Processor", "holds", "(I)Z"⟩, 8), (⟨"MonitorBoard$Processor", "returnIf", "(Z)V"⟩, 8), (⟨"MonitorBoard$Processor", "popOrReturn", "(I)V"⟩, 8), (⟨"MonitorBoard$Processor", "popPair", "(I)V"⟩, 8), (⟨"MonitorBoard$Processor", "jumpIf", "(Z)V"⟩, 8)]
theorem lw_r6 : ∀ q ∈ lw_privs_6, lw_okq q := List.forall_mem_cons.mpr ⟨lw_p80, List.forall_mem_cons.mpr ⟨lw_p81, List.forall_mem_cons.mpr ⟨lw_p82, List.forall_mem_cons.mpr ⟨lw_p83, List.forall_mem_cons.mpr ⟨lw_p84, List.forall_mem_cons.mpr ⟨lw_p85, List.forall_mem_cons.mpr ⟨lw_p86, List.forall_mem_cons.mpr ⟨lw_p87, List.forall_mem_cons.mpr ⟨lw_p88, List.forall_mem_cons.mpr ⟨lw_p89, List.forall_mem_cons.mpr ⟨lw_p90, List.forall_mem_cons.mpr ⟨lw_p91, List.forall_mem_cons.mpr ⟨lw_p92, List.forall_mem_cons.mpr ⟨lw_p93, List.forall_mem_cons.mpr ⟨lw_p94, List.forall_mem_cons.mpr ⟨lw_p95, fun _ h => absurd h List.not_mem_nil⟩⟩⟩⟩⟩⟩⟩⟩⟩⟩⟩⟩⟩⟩⟩⟩
theorem lw_p96 : lw_okq (⟨"MonitorBoard$Processor", "special", "(I)V"⟩, 8) := ⟨⟨by decide +kernel, by decide +kernel⟩, List.mem_of_getElem? (i := 79) (by decide +kernel), List.mem_of_getElem? (i := 1341) (by decide +kernel), List.mem_of_getElem? (i := 1342) (by decide +kernel)⟩
theorem lw_p97 : lw_okq (⟨"MonitorBoard$Processor", "writePort", "(I)V"⟩, 8) := ⟨⟨by decide +kernel, by decide +kernel⟩, List.mem_of_getElem? (i := 79) (by decide +kernel), List.mem_of_getElem? (i := 1345) (by decide +kernel), List.mem_of_getElem? (i := 1346) (by decide +kernel)⟩
theorem lw_p98 : lw_okq (⟨"MonitorBoard$Processor", "readPort", "(I)I"⟩, 8) := ⟨⟨by decide +kernel, by decide +kernel⟩, List.mem_of_getElem? (i := 79) (by decide +kernel), List.mem_of_getElem? (i := 1350) (by decide +kernel), List.mem_of_getElem? (i := 1351) (by decide +kernel)⟩
theorem lw_p99 : lw_okq (⟨"MonitorBoard$Processor", "callIf", "(Z)V"⟩, 8) := ⟨⟨by decide +kernel, by decide +kernel⟩, List.mem_of_getElem? (i := 79) (by decide +kernel), List.mem_of_getElem? (i := 1357) (by decide +kernel), List.mem_of_getElem? (i := 1358) (by decide +kernel)⟩
theorem lw_p100 : lw_okq (⟨"MonitorBoard$Processor", "pushPair", "(I)V"⟩, 8) := ⟨⟨by decide +kernel, by decide +kernel⟩, List.mem_of_getElem? (i := 79) (by decide +kernel), List.mem_of_getElem? (i := 1366) (by decide +kernel), List.mem_of_getElem? (i := 1367) (by decide +kernel)⟩
theorem lw_p101 : lw_okq (⟨"MonitorBoard$Assembler", "readLabel", "()V"⟩, 21) := ⟨⟨by decide +kernel, by decide +kernel⟩, List.mem_of_getElem? (i := 441) (by decide +kernel), List.mem_of_getElem? (i := 1415) (by decide +kernel), List.mem_of_getElem? (i := 1416) (by decide +kernel)⟩
theorem lw_p102 : lw_okq (⟨"MonitorBoard$Assembler", "isLetter", "()Z"⟩, 21) := ⟨⟨by decide +kernel, by decide +kernel⟩, List.mem_of_getElem? (i := 441) (by decide +kernel), List.mem_of_getElem? (i := 1419) (by decide +kernel), List.mem_of_getElem? (i := 1420) (by decide +kernel)⟩
theorem lw_p103 : lw_okq (⟨"MonitorBoard$Assembler", "readWord", "()V"⟩, 21) := ⟨⟨by decide +kernel, by decide +kernel⟩, List.mem_of_getElem? (i := 441) (by decide +kernel), List.mem_of_getElem? (i := 1423) (by decide +kernel), List.mem_of_getElem? (i := 1424) (by decide +kernel)⟩
theorem lw_p104 : lw_okq (⟨"MonitorBoard$Assembler", "fail", "(I)V"⟩, 21) := ⟨⟨by decide +kernel, by decide +kernel⟩, List.mem_of_getElem? (i := 441) (by decide +kernel), List.mem_of_getElem? (i := 1428) (by decide +kernel), List.mem_of_getElem? (i := 1429) (by decide +kernel)⟩
theorem lw_p105 : lw_okq (⟨"MonitorBoard$Assembler", "here", "()I"⟩, 21) := ⟨⟨by decide +kernel, by decide +kernel⟩, List.mem_of_getElem? (i := 441) (by decide +kernel), List.mem_of_getElem? (i := 1433) (by decide +kernel), List.mem_of_getElem? (i := 1434) (by decide +kernel)⟩
theorem lw_p106 : lw_okq (⟨"MonitorBoard$Assembler", "readOperation", "()V"⟩, 21) := ⟨⟨by decide +kernel, by decide +kernel⟩, List.mem_of_getElem? (i := 441) (by decide +kernel), List.mem_of_getElem? (i := 1437) (by decide +kernel), List.mem_of_getElem? (i := 1438) (by decide +kernel)⟩
theorem lw_p107 : lw_okq (⟨"MonitorBoard$Assembler", "skipBlanks", "()V"⟩, 21) := ⟨⟨by decide +kernel, by decide +kernel⟩, List.mem_of_getElem? (i := 441) (by decide +kernel), List.mem_of_getElem? (i := 1441) (by decide +kernel), List.mem_of_getElem? (i := 1442) (by decide +kernel)⟩
theorem lw_p108 : lw_okq (⟨"MonitorBoard$Assembler", "readOrigin", "()V"⟩, 21) := ⟨⟨by decide +kernel, by decide +kernel⟩, List.mem_of_getElem? (i := 441) (by decide +kernel), List.mem_of_getElem? (i := 1447) (by decide +kernel), List.mem_of_getElem? (i := 1448) (by decide +kernel)⟩
theorem lw_p109 : lw_okq (⟨"MonitorBoard$Assembler", "readNumber", "(I)I"⟩, 21) := ⟨⟨by decide +kernel, by decide +kernel⟩, List.mem_of_getElem? (i := 441) (by decide +kernel), List.mem_of_getElem? (i := 1451) (by decide +kernel), List.mem_of_getElem? (i := 1452) (by decide +kernel)⟩
theorem lw_p110 : lw_okq (⟨"MonitorBoard$Assembler", "readSigns", "()I"⟩, 21) := ⟨⟨by decide +kernel, by decide +kernel⟩, List.mem_of_getElem? (i := 441) (by decide +kernel), List.mem_of_getElem? (i := 1455) (by decide +kernel), List.mem_of_getElem? (i := 1456) (by decide +kernel)⟩
theorem lw_p111 : lw_okq (⟨"MonitorBoard$Assembler", "readPart", "(Z)I"⟩, 21) := ⟨⟨by decide +kernel, by decide +kernel⟩, List.mem_of_getElem? (i := 441) (by decide +kernel), List.mem_of_getElem? (i := 1459) (by decide +kernel), List.mem_of_getElem? (i := 1460) (by decide +kernel)⟩
def lw_privs_7 : List (MethodName × Nat) := [(⟨"MonitorBoard$Processor", "special", "(I)V"⟩, 8), (⟨"MonitorBoard$Processor", "writePort", "(I)V"⟩, 8), (⟨"MonitorBoard$Processor", "readPort", "(I)I"⟩, 8), (⟨"MonitorBoard$Processor", "callIf", "(Z)V"⟩, 8), (⟨"MonitorBoard$Processor", "pushPair", "(I)V"⟩, 8), (⟨"MonitorBoard$Assembler", "readLabel", "()V"⟩, 21), (⟨"MonitorBoard$Assembler", "isLetter", "()Z"⟩, 21), (⟨"MonitorBoard$Assembler", "readWord", "()V"⟩, 21), (⟨"MonitorBoard$Assembler", "fail", "(I)V"⟩, 21), (⟨"MonitorBoard$Assembler", "here", "()I"⟩, 21), (⟨"MonitorBoard$Assembler", "readOperation", "()V"⟩, 21), (⟨"MonitorBoard$Assembler", "skipBlanks", "()V"⟩, 21), (⟨"MonitorBoard$Assembler", "readOrigin", "()V"⟩, 21), (⟨"MonitorBoard$Assembler", "readNumber", "(I)I"⟩, 21), (⟨"MonitorBoard$Assembler", "readSigns", "()I"⟩, 21), (⟨"MonitorBoard$Assembler", "readPart", "(Z)I"⟩, 21)]
theorem lw_r7 : ∀ q ∈ lw_privs_7, lw_okq q := List.forall_mem_cons.mpr ⟨lw_p96, List.forall_mem_cons.mpr ⟨lw_p97, List.forall_mem_cons.mpr ⟨lw_p98, List.forall_mem_cons.mpr ⟨lw_p99, List.forall_mem_cons.mpr ⟨lw_p100, List.forall_mem_cons.mpr ⟨lw_p101, List.forall_mem_cons.mpr ⟨lw_p102, List.forall_mem_cons.mpr ⟨lw_p103, List.forall_mem_cons.mpr ⟨lw_p104, List.forall_mem_cons.mpr ⟨lw_p105, List.forall_mem_cons.mpr ⟨lw_p106, List.forall_mem_cons.mpr ⟨lw_p107, List.forall_mem_cons.mpr ⟨lw_p108, List.forall_mem_cons.mpr ⟨lw_p109, List.forall_mem_cons.mpr ⟨lw_p110, List.forall_mem_cons.mpr ⟨lw_p111, fun _ h => absurd h List.not_mem_nil⟩⟩⟩⟩⟩⟩⟩⟩⟩⟩⟩⟩⟩⟩⟩⟩
theorem lw_p112 : lw_okq (⟨"MonitorBoard$Assembler", "readSign", "()I"⟩, 21) := ⟨⟨by decide +kernel, by decide +kernel⟩, List.mem_of_getElem? (i := 441) (by decide +kernel), List.mem_of_getElem? (i := 1463) (by decide +kernel), List.mem_of_getElem? (i := 1464) (by decide +kernel)⟩
theorem lw_p113 : lw_okq (⟨"MonitorBoard$Assembler", "signAt", "(I)I"⟩, 21) := ⟨⟨by decide +kernel, by decide +kernel⟩, List.mem_of_getElem? (i := 441) (by decide +kernel), List.mem_of_getElem? (i := 1467) (by decide +kernel), List.mem_of_getElem? (i := 1468) (by decide +kernel)⟩
theorem lw_p114 : lw_okq (⟨"MonitorBoard$Assembler", "digitsOfWord", "()I"⟩, 21) := ⟨⟨by decide +kernel, by decide +kernel⟩, List.mem_of_getElem? (i := 441) (by decide +kernel), List.mem_of_getElem? (i := 1471) (by decide +kernel), List.mem_of_getElem? (i := 1472) (by decide +kernel)⟩
theorem lw_p115 : lw_okq (⟨"MonitorBoard$Assembler", "checked", "(III)I"⟩, 21) := ⟨⟨by decide +kernel, by decide +kernel⟩, List.mem_of_getElem? (i := 441) (by decide +kernel), List.mem_of_getElem? (i := 1482) (by decide +kernel), List.mem_of_getElem? (i := 1483) (by decide +kernel)⟩
theorem lw_p116 : lw_okq (⟨"MonitorBoard$Assembler", "readItems", "(II)V"⟩, 21) := ⟨⟨by decide +kernel, by decide +kernel⟩, List.mem_of_getElem? (i := 441) (by decide +kernel), List.mem_of_getElem? (i := 1488) (by decide +kernel), List.mem_of_getElem? (i := 1489) (by decide +kernel)⟩
theorem lw_p117 : lw_okq (⟨"MonitorBoard$Assembler", "fits", "(II)Z"⟩, 21) := ⟨⟨by decide +kernel, by decide +kernel⟩, List.mem_of_getElem? (i := 441) (by decide +kernel), List.mem_of_getElem? (i := 1492) (by decide +kernel), List.mem_of_getElem? (i := 1493) (by decide +kernel)⟩
theorem lw_p118 : lw_okq (⟨"MonitorBoard$Assembler", "put", "(I)V"⟩, 21) := ⟨⟨by decide +kernel, by decide +kernel⟩, List.mem_of_getElem? (i := 441) (by decide +kernel), List.mem_of_getElem? (i := 1496) (by decide +kernel), List.mem_of_getElem? (i := 1497) (by decide +kernel)⟩
theorem lw_p119 : lw_okq (⟨"MonitorBoard$Assembler", "clearUpTo", "(I)V"⟩, 21) := ⟨⟨by decide +kernel, by decide +kernel⟩, List.mem_of_getElem? (i := 441) (by decide +kernel), List.mem_of_getElem? (i := 1500) (by decide +kernel), List.mem_of_getElem? (i := 1501) (by decide +kernel)⟩
theorem lw_p120 : lw_okq (⟨"MonitorBoard$Assembler", "readText", "(I)Z"⟩, 21) := ⟨⟨by decide +kernel, by decide +kernel⟩, List.mem_of_getElem? (i := 441) (by decide +kernel), List.mem_of_getElem? (i := 1505) (by decide +kernel), List.mem_of_getElem? (i := 1506) (by decide +kernel)⟩
theorem lw_p121 : lw_okq (⟨"MonitorBoard$Assembler", "putText", "(I)V"⟩, 21) := ⟨⟨by decide +kernel, by decide +kernel⟩, List.mem_of_getElem? (i := 441) (by decide +kernel), List.mem_of_getElem? (i := 1509) (by decide +kernel), List.mem_of_getElem? (i := 1510) (by decide +kernel)⟩
theorem lw_p122 : lw_okq (⟨"MonitorBoard$Assembler", "readSpace", "()V"⟩, 21) := ⟨⟨by decide +kernel, by decide +kernel⟩, List.mem_of_getElem? (i := 441) (by decide +kernel), List.mem_of_getElem? (i := 1513) (by decide +kernel), List.mem_of_getElem? (i := 1514) (by decide +kernel)⟩
theorem lw_p123 : lw_okq (⟨"MonitorBoard$Assembler", "readInstruction", "(III)V"⟩, 21) := ⟨⟨by decide +kernel, by decide +kernel⟩, List.mem_of_getElem? (i := 441) (by decide +kernel), List.mem_of_getElem? (i := 1519) (by decide +kernel), List.mem_of_getElem? (i := 1520) (by decide +kernel)⟩
theorem lw_p124 : lw_okq (⟨"MonitorBoard$Assembler", "readMove", "()I"⟩, 21) := ⟨⟨by decide +kernel, by decide +kernel⟩, List.mem_of_getElem? (i := 441) (by decide +kernel), List.mem_of_getElem? (i := 1523) (by decide +kernel), List.mem_of_getElem? (i := 1524) (by decide +kernel)⟩
theorem lw_p125 : lw_okq (⟨"MonitorBoard$Assembler", "readRegister", "()I"⟩, 21) := ⟨⟨by decide +kernel, by decide +kernel⟩, List.mem_of_getElem? (i := 441) (by decide +kernel), List.mem_of_getElem? (i := 1527) (by decide +kernel), List.mem_of_getElem? (i := 1528) (by decide +kernel)⟩
theorem lw_p126 : lw_okq (⟨"MonitorBoard$Assembler", "readComma", "()V"⟩, 21) := ⟨⟨by decide +kernel, by decide +kernel⟩, List.mem_of_getElem? (i := 441) (by decide +kernel), List.mem_of_getElem? (i := 1534) (by decide +kernel), List.mem_of_getElem? (i := 1535) (by decide +kernel)⟩
theorem lw_p127 : lw_okq (⟨"MonitorBoard$Assembler", "readPair", "(I)I"⟩, 21) := ⟨⟨by decide +kernel, by decide +kernel⟩, List.mem_of_getElem? (i := 441) (by decide +kernel), List.mem_of_getElem? (i := 1538) (by decide +kernel), List.mem_of_getElem? (i := 1539) (by decide +kernel)⟩
def lw_privs_8 : List (MethodName × Nat) := [(⟨"MonitorBoard$Assembler", "readSign", "()I"⟩, 21), (⟨"MonitorBoard$Assembler", "signAt", "(I)I"⟩, 21), (⟨"MonitorBoard$Assembler", "digitsOfWord", "()I"⟩, 21), (⟨"MonitorBoard$Assembler", "checked", "(III)I"⟩, 21), (⟨"MonitorBoard$Assembler", "readItems", "(II)V"⟩, 21), (⟨"MonitorBoard$Assembler", "fits", "(II)Z"⟩, 21), (⟨"MonitorBoard$Assembler", "put", "(I)V"⟩, 21), (⟨"MonitorBoard$Assembler", "clearUpTo", "(I)V"⟩, 21), (⟨"MonitorBoard$Assembler", "readText", "(I)Z"⟩, 21), (⟨"MonitorBoard$Assembler", "putText", "(I)V"⟩, 21), (⟨"MonitorBoard$Assembler", "readSpace", "()V"⟩, 21), (⟨"MonitorBoard$Assembler", "readInstruction", "(III)V"⟩, 21), (⟨"MonitorBoard$Assembler", "readMove", "()I"⟩, 21), (⟨"MonitorBoard$Assembler", "readRegister", "()I"⟩, 21), (⟨"MonitorBoard$Assembler", "readComma", "()V"⟩, 21), (⟨"MonitorBoard$Assembler", "readPair", "(I)I"⟩, 21)]
theorem lw_r8 : ∀ q ∈ lw_privs_8, lw_okq q := List.forall_mem_cons.mpr ⟨lw_p112, List.forall_mem_cons.mpr ⟨lw_p113, List.forall_mem_cons.mpr ⟨lw_p114, List.forall_mem_cons.mpr ⟨lw_p115, List.forall_mem_cons.mpr ⟨lw_p116, List.forall_mem_cons.mpr ⟨lw_p117, List.forall_mem_cons.mpr ⟨lw_p118, List.forall_mem_cons.mpr ⟨lw_p119, List.forall_mem_cons.mpr ⟨lw_p120, List.forall_mem_cons.mpr ⟨lw_p121, List.forall_mem_cons.mpr ⟨lw_p122, List.forall_mem_cons.mpr ⟨lw_p123, List.forall_mem_cons.mpr ⟨lw_p124, List.forall_mem_cons.mpr ⟨lw_p125, List.forall_mem_cons.mpr ⟨lw_p126, List.forall_mem_cons.mpr ⟨lw_p127, fun _ h => absurd h List.not_mem_nil⟩⟩⟩⟩⟩⟩⟩⟩⟩⟩⟩⟩⟩⟩⟩⟩
theorem lw_p128 : lw_okq (⟨"MonitorBoard$Assembler", "finishLine", "()V"⟩, 21) := ⟨⟨by decide +kernel, by decide +kernel⟩, List.mem_of_getElem? (i := 441) (by decide +kernel), List.mem_of_getElem? (i := 1547) (by decide +kernel), List.mem_of_getElem? (i := 1548) (by decide +kernel)⟩
theorem lw_p129 : lw_okq (⟨"MonitorBoard$Lister", "peek", "(I)I"⟩, 3) := ⟨⟨by decide +kernel, by decide +kernel⟩, List.mem_of_getElem? (i := 516) (by decide +kernel), List.mem_of_getElem? (i := 1572) (by decide +kernel), List.mem_of_getElem? (i := 1573) (by decide +kernel)⟩
theorem lw_p130 : lw_okq (⟨"MonitorBoard$Lister", "tellName", "(I)I"⟩, 3) := ⟨⟨by decide +kernel, by decide +kernel⟩, List.mem_of_getElem? (i := 516) (by decide +kernel), List.mem_of_getElem? (i := 1577) (by decide +kernel), List.mem_of_getElem? (i := 1578) (by decide +kernel)⟩
theorem lw_p131 : lw_okq (⟨"MonitorBoard$Lister", "tellNameAt", "(I)V"⟩, 3) := ⟨⟨by decide +kernel, by decide +kernel⟩, List.mem_of_getElem? (i := 516) (by decide +kernel), List.mem_of_getElem? (i := 1585) (by decide +kernel), List.mem_of_getElem? (i := 1586) (by decide +kernel)⟩
theorem lw_p132 : lw_okq (⟨"MonitorBoard$Lister", "tell", "(I)V"⟩, 3) := ⟨⟨by decide +kernel, by decide +kernel⟩, List.mem_of_getElem? (i := 516) (by decide +kernel), List.mem_of_getElem? (i := 1592) (by decide +kernel), List.mem_of_getElem? (i := 1593) (by decide +kernel)⟩
theorem lw_p133 : lw_okq (⟨"MonitorBoard$Lister", "tellText", "(Ljava/lang/String;)V"⟩, 3) := ⟨⟨by decide +kernel, by decide +kernel⟩, List.mem_of_getElem? (i := 516) (by decide +kernel), List.mem_of_getElem? (i := 1597) (by decide +kernel), List.mem_of_getElem? (i := 1598) (by decide +kernel)⟩
theorem lw_p134 : lw_okq (⟨"MonitorBoard$Lister", "tellRegister", "(I)V"⟩, 3) := ⟨⟨by decide +kernel, by decide +kernel⟩, List.mem_of_getElem? (i := 516) (by decide +kernel), List.mem_of_getElem? (i := 1601) (by decide +kernel), List.mem_of_getElem? (i := 1602) (by decide +kernel)⟩
theorem lw_p135 : lw_okq (⟨"MonitorBoard$Lister", "tellByte", "(I)V"⟩, 3) := ⟨⟨by decide +kernel, by decide +kernel⟩, List.mem_of_getElem? (i := 516) (by decide +kernel), List.mem_of_getElem? (i := 1606) (by decide +kernel), List.mem_of_getElem? (i := 1607) (by decide +kernel)⟩
theorem lw_p136 : lw_okq (⟨"MonitorBoard$Lister", "tellHex", "(II)V"⟩, 3) := ⟨⟨by decide +kernel, by decide +kernel⟩, List.mem_of_getElem? (i := 516) (by decide +kernel), List.mem_of_getElem? (i := 1610) (by decide +kernel), List.mem_of_getElem? (i := 1611) (by decide +kernel)⟩
theorem lw_p137 : lw_okq (⟨"MonitorBoard$Lister", "tellPair", "(II)V"⟩, 3) := ⟨⟨by decide +kernel, by decide +kernel⟩, List.mem_of_getElem? (i := 516) (by decide +kernel), List.mem_of_getElem? (i := 1615) (by decide +kernel), List.mem_of_getElem? (i := 1616) (by decide +kernel)⟩
theorem lw_p138 : lw_okq (⟨"MonitorBoard$Lister", "tellWord", "(I)V"⟩, 3) := ⟨⟨by decide +kernel, by decide +kernel⟩, List.mem_of_getElem? (i := 516) (by decide +kernel), List.mem_of_getElem? (i := 1622) (by decide +kernel), List.mem_of_getElem? (i := 1623) (by decide +kernel)⟩
theorem lw_p139 : lw_okq (⟨"MonitorBoard", "putHexLine", "(II)V"⟩, 12) := ⟨⟨by decide +kernel, by decide +kernel⟩, List.mem_of_getElem? (i := 23) (by decide +kernel), List.mem_of_getElem? (i := 1630) (by decide +kernel), List.mem_of_getElem? (i := 1631) (by decide +kernel)⟩
theorem lw_p140 : lw_okq (⟨"MonitorBoard", "putText", "(Ljava/lang/String;)V"⟩, 12) := ⟨⟨by decide +kernel, by decide +kernel⟩, List.mem_of_getElem? (i := 23) (by decide +kernel), List.mem_of_getElem? (i := 1635) (by decide +kernel), List.mem_of_getElem? (i := 1636) (by decide +kernel)⟩
theorem lw_p141 : lw_okq (⟨"MonitorBoard", "putSign", "(I)V"⟩, 12) := ⟨⟨by decide +kernel, by decide +kernel⟩, List.mem_of_getElem? (i := 23) (by decide +kernel), List.mem_of_getElem? (i := 1639) (by decide +kernel), List.mem_of_getElem? (i := 1640) (by decide +kernel)⟩
theorem lw_p142 : lw_okq (⟨"MonitorBoard", "putHexByte", "(I)V"⟩, 12) := ⟨⟨by decide +kernel, by decide +kernel⟩, List.mem_of_getElem? (i := 23) (by decide +kernel), List.mem_of_getElem? (i := 1643) (by decide +kernel), List.mem_of_getElem? (i := 1644) (by decide +kernel)⟩
theorem lw_p143 : lw_okq (⟨"MonitorBoardModel", "cold", "()V"⟩, 79) := ⟨⟨by decide +kernel, by decide +kernel⟩, List.mem_of_getElem? (i := 1650) (by decide +kernel), List.mem_of_getElem? (i := 1660) (by decide +kernel), List.mem_of_getElem? (i := 1661) (by decide +kernel)⟩
def lw_privs_9 : List (MethodName × Nat) := [(⟨"MonitorBoard$Assembler", "finishLine", "()V"⟩, 21), (⟨"MonitorBoard$Lister", "peek", "(I)I"⟩, 3), (⟨"MonitorBoard$Lister", "tellName", "(I)I"⟩, 3), (⟨"MonitorBoard$Lister", "tellNameAt", "(I)V"⟩, 3), (⟨"MonitorBoard$Lister", "tell", "(I)V"⟩, 3), (⟨"MonitorBoard$Lister", "tellText", "(Ljava/lang/String;)V"⟩, 3), (⟨"MonitorBoard$Lister", "tellRegister", "(I)V"⟩, 3), (⟨"MonitorBoard$Lister", "tellByte", "(I)V"⟩, 3), (⟨"MonitorBoard$Lister", "tellHex", "(II)V"⟩, 3), (⟨"MonitorBoard$Lister", "tellPair", "(II)V"⟩, 3), (⟨"MonitorBoard$Lister", "tellWord", "(I)V"⟩, 3), (⟨"MonitorBoard", "putHexLine", "(II)V"⟩, 12), (⟨"MonitorBoard", "putText", "(Ljava/lang/String;)V"⟩, 12), (⟨"MonitorBoard", "putSign", "(I)V"⟩, 12), (⟨"MonitorBoard", "putHexByte", "(I)V"⟩, 12), (⟨"MonitorBoardModel", "cold", "()V"⟩, 79)]
theorem lw_r9 : ∀ q ∈ lw_privs_9, lw_okq q := List.forall_mem_cons.mpr ⟨lw_p128, List.forall_mem_cons.mpr ⟨lw_p129, List.forall_mem_cons.mpr ⟨lw_p130, List.forall_mem_cons.mpr ⟨lw_p131, List.forall_mem_cons.mpr ⟨lw_p132, List.forall_mem_cons.mpr ⟨lw_p133, List.forall_mem_cons.mpr ⟨lw_p134, List.forall_mem_cons.mpr ⟨lw_p135, List.forall_mem_cons.mpr ⟨lw_p136, List.forall_mem_cons.mpr ⟨lw_p137, List.forall_mem_cons.mpr ⟨lw_p138, List.forall_mem_cons.mpr ⟨lw_p139, List.forall_mem_cons.mpr ⟨lw_p140, List.forall_mem_cons.mpr ⟨lw_p141, List.forall_mem_cons.mpr ⟨lw_p142, List.forall_mem_cons.mpr ⟨lw_p143, fun _ h => absurd h List.not_mem_nil⟩⟩⟩⟩⟩⟩⟩⟩⟩⟩⟩⟩⟩⟩⟩⟩
theorem lw_p144 : lw_okq (⟨"MonitorBoardModel", "newLine", "()V"⟩, 79) := ⟨⟨by decide +kernel, by decide +kernel⟩, List.mem_of_getElem? (i := 1650) (by decide +kernel), List.mem_of_getElem? (i := 1664) (by decide +kernel), List.mem_of_getElem? (i := 1665) (by decide +kernel)⟩
theorem lw_p145 : lw_okq (⟨"MonitorBoardModel", "tell", "(I)V"⟩, 79) := ⟨⟨by decide +kernel, by decide +kernel⟩, List.mem_of_getElem? (i := 1650) (by decide +kernel), List.mem_of_getElem? (i := 1668) (by decide +kernel), List.mem_of_getElem? (i := 1669) (by decide +kernel)⟩
theorem lw_p146 : lw_okq (⟨"MonitorBoardModel", "tellText", "(Ljava/lang/String;)V"⟩, 79) := ⟨⟨by decide +kernel, by decide +kernel⟩, List.mem_of_getElem? (i := 1650) (by decide +kernel), List.mem_of_getElem? (i := 1673) (by decide +kernel), List.mem_of_getElem? (i := 1674) (by decide +kernel)⟩
theorem lw_p147 : lw_okq (⟨"MonitorBoardModel", "warm", "()V"⟩, 79) := ⟨⟨by decide +kernel, by decide +kernel⟩, List.mem_of_getElem? (i := 1650) (by decide +kernel), List.mem_of_getElem? (i := 1679) (by decide +kernel), List.mem_of_getElem? (i := 1680) (by decide +kernel)⟩
theorem lw_p148 : lw_okq (⟨"MonitorBoardModel", "set", "(II)V"⟩, 79) := ⟨⟨by decide +kernel, by decide +kernel⟩, List.mem_of_getElem? (i := 1650) (by decide +kernel), List.mem_of_getElem? (i := 1683) (by decide +kernel), List.mem_of_getElem? (i := 1684) (by decide +kernel)⟩
theorem lw_p149 : lw_okq (⟨"MonitorBoardModel", "setWord", "(II)V"⟩, 79) := ⟨⟨by decide +kernel, by decide +kernel⟩, List.mem_of_getElem? (i := 1650) (by decide +kernel), List.mem_of_getElem? (i := 1690) (by decide +kernel), List.mem_of_getElem? (i := 1691) (by decide +kernel)⟩
theorem lw_p150 : lw_okq (⟨"MonitorBoardModel", "login", "(I)V"⟩, 79) := ⟨⟨by decide +kernel, by decide +kernel⟩, List.mem_of_getElem? (i := 1650) (by decide +kernel), List.mem_of_getElem? (i := 1695) (by decide +kernel), List.mem_of_getElem? (i := 1696) (by decide +kernel)⟩
theorem lw_p151 : lw_okq (⟨"MonitorBoardModel", "entry", "(III)I"⟩, 79) := ⟨⟨by decide +kernel, by decide +kernel⟩, List.mem_of_getElem? (i := 1650) (by decide +kernel), List.mem_of_getElem? (i := 1699) (by decide +kernel), List.mem_of_getElem? (i := 1700) (by decide +kernel)⟩
theorem lw_p152 : lw_okq (⟨"MonitorBoardModel", "entryAt", "(III)I"⟩, 79) := ⟨⟨by decide +kernel, by decide +kernel⟩, List.mem_of_getElem? (i := 1650) (by decide +kernel), List.mem_of_getElem? (i := 1703) (by decide +kernel), List.mem_of_getElem? (i := 1704) (by decide +kernel)⟩
theorem lw_p153 : lw_okq (⟨"MonitorBoardModel", "recordAt", "(III)I"⟩, 79) := ⟨⟨by decide +kernel, by decide +kernel⟩, List.mem_of_getElem? (i := 1650) (by decide +kernel), List.mem_of_getElem? (i := 1707) (by decide +kernel), List.mem_of_getElem? (i := 1708) (by decide +kernel)⟩
theorem lw_p154 : lw_okq (⟨"MonitorBoardModel", "sectorAt", "(III)I"⟩, 79) := ⟨⟨by decide +kernel, by decide +kernel⟩, List.mem_of_getElem? (i := 1650) (by decide +kernel), List.mem_of_getElem? (i := 1711) (by decide +kernel), List.mem_of_getElem? (i := 1712) (by decide +kernel)⟩
theorem lw_p155 : lw_okq (⟨"MonitorBoardModel", "forget", "()V"⟩, 79) := ⟨⟨by decide +kernel, by decide +kernel⟩, List.mem_of_getElem? (i := 1650) (by decide +kernel), List.mem_of_getElem? (i := 1715) (by decide +kernel), List.mem_of_getElem? (i := 1716) (by decide +kernel)⟩
theorem lw_p156 : lw_okq (⟨"MonitorBoardModel", "prompt", "()V"⟩, 79) := ⟨⟨by decide +kernel, by decide +kernel⟩, List.mem_of_getElem? (i := 1650) (by decide +kernel), List.mem_of_getElem? (i := 1719) (by decide +kernel), List.mem_of_getElem? (i := 1720) (by decide +kernel)⟩
theorem lw_p157 : lw_okq (⟨"MonitorBoardModel", "tellNumber", "(I)V"⟩, 79) := ⟨⟨by decide +kernel, by decide +kernel⟩, List.mem_of_getElem? (i := 1650) (by decide +kernel), List.mem_of_getElem? (i := 1723) (by decide +kernel), List.mem_of_getElem? (i := 1724) (by decide +kernel)⟩
theorem lw_p158 : lw_okq (⟨"MonitorBoardModel", "line", "()Z"⟩, 79) := ⟨⟨by decide +kernel, by decide +kernel⟩, List.mem_of_getElem? (i := 1650) (by decide +kernel), List.mem_of_getElem? (i := 2014) (by decide +kernel), List.mem_of_getElem? (i := 2015) (by decide +kernel)⟩
theorem lw_p159 : lw_okq (⟨"MonitorBoardModel", "reads", "(I)I"⟩, 79) := ⟨⟨by decide +kernel, by decide +kernel⟩, List.mem_of_getElem? (i := 1650) (by decide +kernel), List.mem_of_getElem? (i := 2018) (by decide +kernel), List.mem_of_getElem? (i := 2019) (by decide +kernel)⟩
def lw_privs_10 : List (MethodName × Nat) := [(⟨"MonitorBoardModel", "newLine", "()V"⟩, 79), (⟨"MonitorBoardModel", "tell", "(I)V"⟩, 79), (⟨"MonitorBoardModel", "tellText", "(Ljava/lang/String;)V"⟩, 79), (⟨"MonitorBoardModel", "warm", "()V"⟩, 79), (⟨"MonitorBoardModel", "set", "(II)V"⟩, 79), (⟨"MonitorBoardModel", "setWord", "(II)V"⟩, 79), (⟨"MonitorBoardModel", "login", "(I)V"⟩, 79), (⟨"MonitorBoardModel", "entry", "(III)I"⟩, 79), (⟨"MonitorBoardModel", "entryAt", "(III)I"⟩, 79), (⟨"MonitorBoardModel", "recordAt", "(III)I"⟩, 79), (⟨"MonitorBoardModel", "sectorAt", "(III)I"⟩, 79), (⟨"MonitorBoardModel", "forget", "()V"⟩, 79), (⟨"MonitorBoardModel", "prompt", "()V"⟩, 79), (⟨"MonitorBoardModel", "tellNumber", "(I)V"⟩, 79), (⟨"MonitorBoardModel", "line", "()Z"⟩, 79), (⟨"MonitorBoardModel", "reads", "(I)I"⟩, 79)]
theorem lw_r10 : ∀ q ∈ lw_privs_10, lw_okq q := List.forall_mem_cons.mpr ⟨lw_p144, List.forall_mem_cons.mpr ⟨lw_p145, List.forall_mem_cons.mpr ⟨lw_p146, List.forall_mem_cons.mpr ⟨lw_p147, List.forall_mem_cons.mpr ⟨lw_p148, List.forall_mem_cons.mpr ⟨lw_p149, List.forall_mem_cons.mpr ⟨lw_p150, List.forall_mem_cons.mpr ⟨lw_p151, List.forall_mem_cons.mpr ⟨lw_p152, List.forall_mem_cons.mpr ⟨lw_p153, List.forall_mem_cons.mpr ⟨lw_p154, List.forall_mem_cons.mpr ⟨lw_p155, List.forall_mem_cons.mpr ⟨lw_p156, List.forall_mem_cons.mpr ⟨lw_p157, List.forall_mem_cons.mpr ⟨lw_p158, List.forall_mem_cons.mpr ⟨lw_p159, fun _ h => absurd h List.not_mem_nil⟩⟩⟩⟩⟩⟩⟩⟩⟩⟩⟩⟩⟩⟩⟩⟩
theorem lw_p160 : lw_okq (⟨"MonitorBoardModel", "key", "()I"⟩, 79) := ⟨⟨by decide +kernel, by decide +kernel⟩, List.mem_of_getElem? (i := 1650) (by decide +kernel), List.mem_of_getElem? (i := 2022) (by decide +kernel), List.mem_of_getElem? (i := 2023) (by decide +kernel)⟩
theorem lw_p161 : lw_okq (⟨"MonitorBoardModel", "command", "()V"⟩, 79) := ⟨⟨by decide +kernel, by decide +kernel⟩, List.mem_of_getElem? (i := 1650) (by decide +kernel), List.mem_of_getElem? (i := 2026) (by decide +kernel), List.mem_of_getElem? (i := 2027) (by decide +kernel)⟩
theorem lw_p162 : lw_okq (⟨"MonitorBoardModel", "skip", "(I)I"⟩, 79) := ⟨⟨by decide +kernel, by decide +kernel⟩, List.mem_of_getElem? (i := 1650) (by decide +kernel), List.mem_of_getElem? (i := 2030) (by decide +kernel), List.mem_of_getElem? (i := 2031) (by decide +kernel)⟩
theorem lw_p163 : lw_okq (⟨"MonitorBoardModel", "done", "(I)Z"⟩, 79) := ⟨⟨by decide +kernel, by decide +kernel⟩, List.mem_of_getElem? (i := 1650) (by decide +kernel), List.mem_of_getElem? (i := 2034) (by decide +kernel), List.mem_of_getElem? (i := 2035) (by decide +kernel)⟩
theorem lw_p164 : lw_okq (⟨"MonitorBoardModel", "isWord", "(ILjava/lang/String;)Z"⟩, 79) := ⟨⟨by decide +kernel, by decide +kernel⟩, List.mem_of_getElem? (i := 1650) (by decide +kernel), List.mem_of_getElem? (i := 2039) (by decide +kernel), List.mem_of_getElem? (i := 2040) (by decide +kernel)⟩
theorem lw_p165 : lw_okq (⟨"MonitorBoardModel", "lists", "(I)Z"⟩, 79) := ⟨⟨by decide +kernel, by decide +kernel⟩, List.mem_of_getElem? (i := 1650) (by decide +kernel), List.mem_of_getElem? (i := 2043) (by decide +kernel), List.mem_of_getElem? (i := 2044) (by decide +kernel)⟩
theorem lw_p166 : lw_okq (⟨"MonitorBoardModel", "fileWord", "(I)V"⟩, 79) := ⟨⟨by decide +kernel, by decide +kernel⟩, List.mem_of_getElem? (i := 1650) (by decide +kernel), List.mem_of_getElem? (i := 2047) (by decide +kernel), List.mem_of_getElem? (i := 2048) (by decide +kernel)⟩
theorem lw_p167 : lw_okq (⟨"MonitorBoardModel", "at", "(I)I"⟩, 79) := ⟨⟨by decide +kernel, by decide +kernel⟩, List.mem_of_getElem? (i := 1650) (by decide +kernel), List.mem_of_getElem? (i := 2051) (by decide +kernel), List.mem_of_getElem? (i := 2052) (by decide +kernel)⟩
theorem lw_p168 : lw_okq (⟨"MonitorBoardModel", "pass", "()V"⟩, 79) := ⟨⟨by decide +kernel, by decide +kernel⟩, List.mem_of_getElem? (i := 1650) (by decide +kernel), List.mem_of_getElem? (i := 2055) (by decide +kernel), List.mem_of_getElem? (i := 2056) (by decide +kernel)⟩
theorem lw_p169 : lw_okq (⟨"MonitorBoardModel", "signs", "(III)I"⟩, 79) := ⟨⟨by decide +kernel, by decide +kernel⟩, List.mem_of_getElem? (i := 1650) (by decide +kernel), List.mem_of_getElem? (i := 2059) (by decide +kernel), List.mem_of_getElem? (i := 2060) (by decide +kernel)⟩
theorem lw_p170 : lw_okq (⟨"MonitorBoardModel", "freshFcb", "()I"⟩, 79) := ⟨⟨by decide +kernel, by decide +kernel⟩, List.mem_of_getElem? (i := 1650) (by decide +kernel), List.mem_of_getElem? (i := 2066) (by decide +kernel), List.mem_of_getElem? (i := 2067) (by decide +kernel)⟩
theorem lw_p171 : lw_okq (⟨"MonitorBoardModel", "wordFcb", "()I"⟩, 79) := ⟨⟨by decide +kernel, by decide +kernel⟩, List.mem_of_getElem? (i := 1650) (by decide +kernel), List.mem_of_getElem? (i := 2070) (by decide +kernel), List.mem_of_getElem? (i := 2071) (by decide +kernel)⟩
theorem lw_p172 : lw_okq (⟨"MonitorBoardModel", "toMine", "(I)V"⟩, 79) := ⟨⟨by decide +kernel, by decide +kernel⟩, List.mem_of_getElem? (i := 1650) (by decide +kernel), List.mem_of_getElem? (i := 2074) (by decide +kernel), List.mem_of_getElem? (i := 2075) (by decide +kernel)⟩
theorem lw_p173 : lw_okq (⟨"MonitorBoardModel", "isNamed", "(IIIZ)Z"⟩, 79) := ⟨⟨by decide +kernel, by decide +kernel⟩, List.mem_of_getElem? (i := 1650) (by decide +kernel), List.mem_of_getElem? (i := 2078) (by decide +kernel), List.mem_of_getElem? (i := 2079) (by decide +kernel)⟩
theorem lw_p174 : lw_okq (⟨"MonitorBoardModel", "get", "(I)I"⟩, 79) := ⟨⟨by decide +kernel, by decide +kernel⟩, List.mem_of_getElem? (i := 1650) (by decide +kernel), List.mem_of_getElem? (i := 2082) (by decide +kernel), List.mem_of_getElem? (i := 2083) (by decide +kernel)⟩
theorem lw_p175 : lw_okq (⟨"MonitorBoardModel", "noFile", "()V"⟩, 79) := ⟨⟨by decide +kernel, by decide +kernel⟩, List.mem_of_getElem? (i := 1650) (by decide +kernel), List.mem_of_getElem? (i := 2088) (by decide +kernel), List.mem_of_getElem? (i := 2089) (by decide +kernel)⟩
def lw_privs_11 : List (MethodName × Nat) := [(⟨"MonitorBoardModel", "key", "()I"⟩, 79), (⟨"MonitorBoardModel", "command", "()V"⟩, 79), (⟨"MonitorBoardModel", "skip", "(I)I"⟩, 79), (⟨"MonitorBoardModel", "done", "(I)Z"⟩, 79), (⟨"MonitorBoardModel", "isWord", "(ILjava/lang/String;)Z"⟩, 79), (⟨"MonitorBoardModel", "lists", "(I)Z"⟩, 79), (⟨"MonitorBoardModel", "fileWord", "(I)V"⟩, 79), (⟨"MonitorBoardModel", "at", "(I)I"⟩, 79), (⟨"MonitorBoardModel", "pass", "()V"⟩, 79), (⟨"MonitorBoardModel", "signs", "(III)I"⟩, 79), (⟨"MonitorBoardModel", "freshFcb", "()I"⟩, 79), (⟨"MonitorBoardModel", "wordFcb", "()I"⟩, 79), (⟨"MonitorBoardModel", "toMine", "(I)V"⟩, 79), (⟨"MonitorBoardModel", "isNamed", "(IIIZ)Z"⟩, 79), (⟨"MonitorBoardModel", "get", "(I)I"⟩, 79), (⟨"MonitorBoardModel", "noFile", "()V"⟩, 79)]
theorem lw_r11 : ∀ q ∈ lw_privs_11, lw_okq q := List.forall_mem_cons.mpr ⟨lw_p160, List.forall_mem_cons.mpr ⟨lw_p161, List.forall_mem_cons.mpr ⟨lw_p162, List.forall_mem_cons.mpr ⟨lw_p163, List.forall_mem_cons.mpr ⟨lw_p164, List.forall_mem_cons.mpr ⟨lw_p165, List.forall_mem_cons.mpr ⟨lw_p166, List.forall_mem_cons.mpr ⟨lw_p167, List.forall_mem_cons.mpr ⟨lw_p168, List.forall_mem_cons.mpr ⟨lw_p169, List.forall_mem_cons.mpr ⟨lw_p170, List.forall_mem_cons.mpr ⟨lw_p171, List.forall_mem_cons.mpr ⟨lw_p172, List.forall_mem_cons.mpr ⟨lw_p173, List.forall_mem_cons.mpr ⟨lw_p174, List.forall_mem_cons.mpr ⟨lw_p175, fun _ h => absurd h List.not_mem_nil⟩⟩⟩⟩⟩⟩⟩⟩⟩⟩⟩⟩⟩⟩⟩⟩
theorem lw_p176 : lw_okq (⟨"MonitorBoardModel", "erases", "(I)Z"⟩, 79) := ⟨⟨by decide +kernel, by decide +kernel⟩, List.mem_of_getElem? (i := 1650) (by decide +kernel), List.mem_of_getElem? (i := 2094) (by decide +kernel), List.mem_of_getElem? (i := 2095) (by decide +kernel)⟩
theorem lw_p177 : lw_okq (⟨"MonitorBoardModel", "mayWrite", "(I)Z"⟩, 79) := ⟨⟨by decide +kernel, by decide +kernel⟩, List.mem_of_getElem? (i := 1650) (by decide +kernel), List.mem_of_getElem? (i := 2098) (by decide +kernel), List.mem_of_getElem? (i := 2099) (by decide +kernel)⟩
theorem lw_p178 : lw_okq (⟨"MonitorBoardModel", "fails", "(ILjava/lang/String;)V"⟩, 79) := ⟨⟨by decide +kernel, by decide +kernel⟩, List.mem_of_getElem? (i := 1650) (by decide +kernel), List.mem_of_getElem? (i := 2103) (by decide +kernel), List.mem_of_getElem? (i := 2104) (by decide +kernel)⟩
theorem lw_p179 : lw_okq (⟨"MonitorBoardModel", "mayFile", "(IIZ)Z"⟩, 79) := ⟨⟨by decide +kernel, by decide +kernel⟩, List.mem_of_getElem? (i := 1650) (by decide +kernel), List.mem_of_getElem? (i := 2108) (by decide +kernel), List.mem_of_getElem? (i := 2109) (by decide +kernel)⟩
theorem lw_p180 : lw_okq (⟨"MonitorBoardModel", "find", "(IIIZ)I"⟩, 79) := ⟨⟨by decide +kernel, by decide +kernel⟩, List.mem_of_getElem? (i := 1650) (by decide +kernel), List.mem_of_getElem? (i := 2112) (by decide +kernel), List.mem_of_getElem? (i := 2113) (by decide +kernel)⟩
theorem lw_p181 : lw_okq (⟨"MonitorBoardModel", "delete", "(II)I"⟩, 79) := ⟨⟨by decide +kernel, by decide +kernel⟩, List.mem_of_getElem? (i := 1650) (by decide +kernel), List.mem_of_getElem? (i := 2117) (by decide +kernel), List.mem_of_getElem? (i := 2118) (by decide +kernel)⟩
theorem lw_p182 : lw_okq (⟨"MonitorBoardModel", "setEntry", "(IIII)V"⟩, 79) := ⟨⟨by decide +kernel, by decide +kernel⟩, List.mem_of_getElem? (i := 1650) (by decide +kernel), List.mem_of_getElem? (i := 2121) (by decide +kernel), List.mem_of_getElem? (i := 2122) (by decide +kernel)⟩
theorem lw_p183 : lw_okq (⟨"MonitorBoardModel", "renames", "(I)Z"⟩, 79) := ⟨⟨by decide +kernel, by decide +kernel⟩, List.mem_of_getElem? (i := 1650) (by decide +kernel), List.mem_of_getElem? (i := 2126) (by decide +kernel), List.mem_of_getElem? (i := 2127) (by decide +kernel)⟩
theorem lw_p184 : lw_okq (⟨"MonitorBoardModel", "rename", "(II)I"⟩, 79) := ⟨⟨by decide +kernel, by decide +kernel⟩, List.mem_of_getElem? (i := 1650) (by decide +kernel), List.mem_of_getElem? (i := 2131) (by decide +kernel), List.mem_of_getElem? (i := 2132) (by decide +kernel)⟩
theorem lw_p185 : lw_okq (⟨"MonitorBoardModel", "types", "(I)Z"⟩, 79) := ⟨⟨by decide +kernel, by decide +kernel⟩, List.mem_of_getElem? (i := 1650) (by decide +kernel), List.mem_of_getElem? (i := 2136) (by decide +kernel), List.mem_of_getElem? (i := 2137) (by decide +kernel)⟩
theorem lw_p186 : lw_okq (⟨"MonitorBoardModel", "walk", "(II)V"⟩, 79) := ⟨⟨by decide +kernel, by decide +kernel⟩, List.mem_of_getElem? (i := 1650) (by decide +kernel), List.mem_of_getElem? (i := 2140) (by decide +kernel), List.mem_of_getElem? (i := 2141) (by decide +kernel)⟩
theorem lw_p187 : lw_okq (⟨"MonitorBoardModel", "nextRecord", "()I"⟩, 79) := ⟨⟨by decide +kernel, by decide +kernel⟩, List.mem_of_getElem? (i := 1650) (by decide +kernel), List.mem_of_getElem? (i := 2144) (by decide +kernel), List.mem_of_getElem? (i := 2145) (by decide +kernel)⟩
theorem lw_p188 : lw_okq (⟨"MonitorBoardModel", "saves", "(I)Z"⟩, 79) := ⟨⟨by decide +kernel, by decide +kernel⟩, List.mem_of_getElem? (i := 1650) (by decide +kernel), List.mem_of_getElem? (i := 2149) (by decide +kernel), List.mem_of_getElem? (i := 2150) (by decide +kernel)⟩
theorem lw_p189 : lw_okq (⟨"MonitorBoardModel", "number", "(I)I"⟩, 79) := ⟨⟨by decide +kernel, by decide +kernel⟩, List.mem_of_getElem? (i := 1650) (by decide +kernel), List.mem_of_getElem? (i := 2153) (by decide +kernel), List.mem_of_getElem? (i := 2154) (by decide +kernel)⟩
theorem lw_p190 : lw_okq (⟨"MonitorBoardModel", "make", "(II)I"⟩, 79) := ⟨⟨by decide +kernel, by decide +kernel⟩, List.mem_of_getElem? (i := 1650) (by decide +kernel), List.mem_of_getElem? (i := 2157) (by decide +kernel), List.mem_of_getElem? (i := 2158) (by decide +kernel)⟩
theorem lw_p191 : lw_okq (⟨"MonitorBoardModel", "sequential", "(IIZ)I"⟩, 79) := ⟨⟨by decide +kernel, by decide +kernel⟩, List.mem_of_getElem? (i := 1650) (by decide +kernel), List.mem_of_getElem? (i := 2161) (by decide +kernel), List.mem_of_getElem? (i := 2162) (by decide +kernel)⟩
def lw_privs_12 : List (MethodName × Nat) := [(⟨"MonitorBoardModel", "erases", "(I)Z"⟩, 79), (⟨"MonitorBoardModel", "mayWrite", "(I)Z"⟩, 79), (⟨"MonitorBoardModel", "fails", "(ILjava/lang/String;)V"⟩, 79), (⟨"MonitorBoardModel", "mayFile", "(IIZ)Z"⟩, 79), (⟨"MonitorBoardModel", "find", "(IIIZ)I"⟩, 79), (⟨"MonitorBoardModel", "delete", "(II)I"⟩, 79), (⟨"MonitorBoardModel", "setEntry", "(IIII)V"⟩, 79), (⟨"MonitorBoardModel", "renames", "(I)Z"⟩, 79), (⟨"MonitorBoardModel", "rename", "(II)I"⟩, 79), (⟨"MonitorBoardModel", "types", "(I)Z"⟩, 79), (⟨"MonitorBoardModel", "walk", "(II)V"⟩, 79), (⟨"MonitorBoardModel", "nextRecord", "()I"⟩, 79), (⟨"MonitorBoardModel", "saves", "(I)Z"⟩, 79), (⟨"MonitorBoardModel", "number", "(I)I"⟩, 79), (⟨"MonitorBoardModel", "make", "(II)I"⟩, 79), (⟨"MonitorBoardModel", "sequential", "(IIZ)I"⟩, 79)]
theorem lw_r12 : ∀ q ∈ lw_privs_12, lw_okq q := List.forall_mem_cons.mpr ⟨lw_p176, List.forall_mem_cons.mpr ⟨lw_p177, List.forall_mem_cons.mpr ⟨lw_p178, List.forall_mem_cons.mpr ⟨lw_p179, List.forall_mem_cons.mpr ⟨lw_p180, List.forall_mem_cons.mpr ⟨lw_p181, List.forall_mem_cons.mpr ⟨lw_p182, List.forall_mem_cons.mpr ⟨lw_p183, List.forall_mem_cons.mpr ⟨lw_p184, List.forall_mem_cons.mpr ⟨lw_p185, List.forall_mem_cons.mpr ⟨lw_p186, List.forall_mem_cons.mpr ⟨lw_p187, List.forall_mem_cons.mpr ⟨lw_p188, List.forall_mem_cons.mpr ⟨lw_p189, List.forall_mem_cons.mpr ⟨lw_p190, List.forall_mem_cons.mpr ⟨lw_p191, fun _ h => absurd h List.not_mem_nil⟩⟩⟩⟩⟩⟩⟩⟩⟩⟩⟩⟩⟩⟩⟩⟩
theorem lw_p192 : lw_okq (⟨"MonitorBoardModel", "close", "(II)I"⟩, 79) := ⟨⟨by decide +kernel, by decide +kernel⟩, List.mem_of_getElem? (i := 1650) (by decide +kernel), List.mem_of_getElem? (i := 2165) (by decide +kernel), List.mem_of_getElem? (i := 2166) (by decide +kernel)⟩
theorem lw_p193 : lw_okq (⟨"MonitorBoardModel", "open", "(II)I"⟩, 79) := ⟨⟨by decide +kernel, by decide +kernel⟩, List.mem_of_getElem? (i := 1650) (by decide +kernel), List.mem_of_getElem? (i := 2169) (by decide +kernel), List.mem_of_getElem? (i := 2170) (by decide +kernel)⟩
theorem lw_p194 : lw_okq (⟨"MonitorBoardModel", "record", "(IIZZ)I"⟩, 79) := ⟨⟨by decide +kernel, by decide +kernel⟩, List.mem_of_getElem? (i := 1650) (by decide +kernel), List.mem_of_getElem? (i := 2173) (by decide +kernel), List.mem_of_getElem? (i := 2174) (by decide +kernel)⟩
theorem lw_p195 : lw_okq (⟨"MonitorBoardModel", "dumps", "(I)Z"⟩, 79) := ⟨⟨by decide +kernel, by decide +kernel⟩, List.mem_of_getElem? (i := 1650) (by decide +kernel), List.mem_of_getElem? (i := 2179) (by decide +kernel), List.mem_of_getElem? (i := 2180) (by decide +kernel)⟩
theorem lw_p196 : lw_okq (⟨"MonitorBoardModel", "hexDigits", "(II)V"⟩, 79) := ⟨⟨by decide +kernel, by decide +kernel⟩, List.mem_of_getElem? (i := 1650) (by decide +kernel), List.mem_of_getElem? (i := 2183) (by decide +kernel), List.mem_of_getElem? (i := 2184) (by decide +kernel)⟩
theorem lw_p197 : lw_okq (⟨"MonitorBoardModel", "tellsStates", "(I)Z"⟩, 79) := ⟨⟨by decide +kernel, by decide +kernel⟩, List.mem_of_getElem? (i := 1650) (by decide +kernel), List.mem_of_getElem? (i := 2191) (by decide +kernel), List.mem_of_getElem? (i := 2192) (by decide +kernel)⟩
theorem lw_p198 : lw_okq (⟨"MonitorBoardModel", "tellGreat", "(I)V"⟩, 79) := ⟨⟨by decide +kernel, by decide +kernel⟩, List.mem_of_getElem? (i := 1650) (by decide +kernel), List.mem_of_getElem? (i := 2195) (by decide +kernel), List.mem_of_getElem? (i := 2196) (by decide +kernel)⟩
theorem lw_p199 : lw_okq (⟨"MonitorBoardModel", "sizeOf", "(II)I"⟩, 79) := ⟨⟨by decide +kernel, by decide +kernel⟩, List.mem_of_getElem? (i := 1650) (by decide +kernel), List.mem_of_getElem? (i := 2200) (by decide +kernel), List.mem_of_getElem? (i := 2201) (by decide +kernel)⟩
theorem lw_p200 : lw_okq (⟨"MonitorBoardModel", "copies", "(I)Z"⟩, 79) := ⟨⟨by decide +kernel, by decide +kernel⟩, List.mem_of_getElem? (i := 1650) (by decide +kernel), List.mem_of_getElem? (i := 2205) (by decide +kernel), List.mem_of_getElem? (i := 2206) (by decide +kernel)⟩
theorem lw_p201 : lw_okq (⟨"MonitorBoardModel", "hexLoads", "(I)Z"⟩, 79) := ⟨⟨by decide +kernel, by decide +kernel⟩, List.mem_of_getElem? (i := 1650) (by decide +kernel), List.mem_of_getElem? (i := 2213) (by decide +kernel), List.mem_of_getElem? (i := 2214) (by decide +kernel)⟩
theorem lw_p202 : lw_okq (⟨"MonitorBoardModel", "hexLines", "()Z"⟩, 79) := ⟨⟨by decide +kernel, by decide +kernel⟩, List.mem_of_getElem? (i := 1650) (by decide +kernel), List.mem_of_getElem? (i := 2217) (by decide +kernel), List.mem_of_getElem? (i := 2218) (by decide +kernel)⟩
theorem lw_p203 : lw_okq (⟨"MonitorBoardModel", "hexByte", "()I"⟩, 79) := ⟨⟨by decide +kernel, by decide +kernel⟩, List.mem_of_getElem? (i := 1650) (by decide +kernel), List.mem_of_getElem? (i := 2221) (by decide +kernel), List.mem_of_getElem? (i := 2222) (by decide +kernel)⟩
theorem lw_p204 : lw_okq (⟨"MonitorBoardModel", "hexPair", "()I"⟩, 79) := ⟨⟨by decide +kernel, by decide +kernel⟩, List.mem_of_getElem? (i := 1650) (by decide +kernel), List.mem_of_getElem? (i := 2225) (by decide +kernel), List.mem_of_getElem? (i := 2226) (by decide +kernel)⟩
theorem lw_p205 : lw_okq (⟨"MonitorBoardModel", "program", "(I)Z"⟩, 79) := ⟨⟨by decide +kernel, by decide +kernel⟩, List.mem_of_getElem? (i := 1650) (by decide +kernel), List.mem_of_getElem? (i := 2232) (by decide +kernel), List.mem_of_getElem? (i := 2233) (by decide +kernel)⟩
theorem lw_p206 : lw_okq (⟨"MonitorBoardModel", "bios", "(I)Z"⟩, 79) := ⟨⟨by decide +kernel, by decide +kernel⟩, List.mem_of_getElem? (i := 1650) (by decide +kernel), List.mem_of_getElem? (i := 2240) (by decide +kernel), List.mem_of_getElem? (i := 2241) (by decide +kernel)⟩
theorem lw_p207 : lw_okq (⟨"MonitorBoardModel", "setPair", "(II)V"⟩, 79) := ⟨⟨by decide +kernel, by decide +kernel⟩, List.mem_of_getElem? (i := 1650) (by decide +kernel), List.mem_of_getElem? (i := 2245) (by decide +kernel), List.mem_of_getElem? (i := 2246) (by decide +kernel)⟩
def lw_privs_13 : List (MethodName × Nat) := [(⟨"MonitorBoardModel", "close", "(II)I"⟩, 79), (⟨"MonitorBoardModel", "open", "(II)I"⟩, 79), (⟨"MonitorBoardModel", "record", "(IIZZ)I"⟩, 79), (⟨"MonitorBoardModel", "dumps", "(I)Z"⟩, 79), (⟨"MonitorBoardModel", "hexDigits", "(II)V"⟩, 79), (⟨"MonitorBoardModel", "tellsStates", "(I)Z"⟩, 79), (⟨"MonitorBoardModel", "tellGreat", "(I)V"⟩, 79), (⟨"MonitorBoardModel", "sizeOf", "(II)I"⟩, 79), (⟨"MonitorBoardModel", "copies", "(I)Z"⟩, 79), (⟨"MonitorBoardModel", "hexLoads", "(I)Z"⟩, 79), (⟨"MonitorBoardModel", "hexLines", "()Z"⟩, 79), (⟨"MonitorBoardModel", "hexByte", "()I"⟩, 79), (⟨"MonitorBoardModel", "hexPair", "()I"⟩, 79), (⟨"MonitorBoardModel", "program", "(I)Z"⟩, 79), (⟨"MonitorBoardModel", "bios", "(I)Z"⟩, 79), (⟨"MonitorBoardModel", "setPair", "(II)V"⟩, 79)]
theorem lw_r13 : ∀ q ∈ lw_privs_13, lw_okq q := List.forall_mem_cons.mpr ⟨lw_p192, List.forall_mem_cons.mpr ⟨lw_p193, List.forall_mem_cons.mpr ⟨lw_p194, List.forall_mem_cons.mpr ⟨lw_p195, List.forall_mem_cons.mpr ⟨lw_p196, List.forall_mem_cons.mpr ⟨lw_p197, List.forall_mem_cons.mpr ⟨lw_p198, List.forall_mem_cons.mpr ⟨lw_p199, List.forall_mem_cons.mpr ⟨lw_p200, List.forall_mem_cons.mpr ⟨lw_p201, List.forall_mem_cons.mpr ⟨lw_p202, List.forall_mem_cons.mpr ⟨lw_p203, List.forall_mem_cons.mpr ⟨lw_p204, List.forall_mem_cons.mpr ⟨lw_p205, List.forall_mem_cons.mpr ⟨lw_p206, List.forall_mem_cons.mpr ⟨lw_p207, fun _ h => absurd h List.not_mem_nil⟩⟩⟩⟩⟩⟩⟩⟩⟩⟩⟩⟩⟩⟩⟩⟩
theorem lw_p208 : lw_okq (⟨"MonitorBoardModel", "pair", "(I)I"⟩, 79) := ⟨⟨by decide +kernel, by decide +kernel⟩, List.mem_of_getElem? (i := 1650) (by decide +kernel), List.mem_of_getElem? (i := 2249) (by decide +kernel), List.mem_of_getElem? (i := 2250) (by decide +kernel)⟩
theorem lw_p209 : lw_okq (⟨"MonitorBoardModel", "transfer", "(Z)Z"⟩, 79) := ⟨⟨by decide +kernel, by decide +kernel⟩, List.mem_of_getElem? (i := 1650) (by decide +kernel), List.mem_of_getElem? (i := 2253) (by decide +kernel), List.mem_of_getElem? (i := 2254) (by decide +kernel)⟩
theorem lw_p210 : lw_okq (⟨"MonitorBoardModel", "call", "()Z"⟩, 79) := ⟨⟨by decide +kernel, by decide +kernel⟩, List.mem_of_getElem? (i := 1650) (by decide +kernel), List.mem_of_getElem? (i := 2257) (by decide +kernel), List.mem_of_getElem? (i := 2258) (by decide +kernel)⟩
theorem lw_p211 : lw_okq (⟨"MonitorBoardModel", "tells", "(I)V"⟩, 79) := ⟨⟨by decide +kernel, by decide +kernel⟩, List.mem_of_getElem? (i := 1650) (by decide +kernel), List.mem_of_getElem? (i := 2261) (by decide +kernel), List.mem_of_getElem? (i := 2262) (by decide +kernel)⟩
theorem lw_p212 : lw_okq (⟨"MonitorBoardModel", "buffered", "(I)Z"⟩, 79) := ⟨⟨by decide +kernel, by decide +kernel⟩, List.mem_of_getElem? (i := 1650) (by decide +kernel), List.mem_of_getElem? (i := 2265) (by decide +kernel), List.mem_of_getElem? (i := 2266) (by decide +kernel)⟩
theorem lw_p213 : lw_okq (⟨"MonitorBoardModel", "files", "(III)V"⟩, 79) := ⟨⟨by decide +kernel, by decide +kernel⟩, List.mem_of_getElem? (i := 1650) (by decide +kernel), List.mem_of_getElem? (i := 2269) (by decide +kernel), List.mem_of_getElem? (i := 2270) (by decide +kernel)⟩
theorem lw_p214 : lw_okq (⟨"MonitorBoardModel", "fileCall", "(III)I"⟩, 79) := ⟨⟨by decide +kernel, by decide +kernel⟩, List.mem_of_getElem? (i := 1650) (by decide +kernel), List.mem_of_getElem? (i := 2273) (by decide +kernel), List.mem_of_getElem? (i := 2274) (by decide +kernel)⟩
theorem lw_p215 : lw_okq (⟨"MonitorBoardModel", "search", "(ZI)I"⟩, 79) := ⟨⟨by decide +kernel, by decide +kernel⟩, List.mem_of_getElem? (i := 1650) (by decide +kernel), List.mem_of_getElem? (i := 2278) (by decide +kernel), List.mem_of_getElem? (i := 2279) (by decide +kernel)⟩
theorem lw_p216 : lw_okq (⟨"MonitorBoardModel", "driveOf", "(I)I"⟩, 79) := ⟨⟨by decide +kernel, by decide +kernel⟩, List.mem_of_getElem? (i := 1650) (by decide +kernel), List.mem_of_getElem? (i := 2282) (by decide +kernel), List.mem_of_getElem? (i := 2283) (by decide +kernel)⟩
theorem lw_p217 : lw_okq (⟨"MonitorBoardModel", "setR", "(II)V"⟩, 79) := ⟨⟨by decide +kernel, by decide +kernel⟩, List.mem_of_getElem? (i := 1650) (by decide +kernel), List.mem_of_getElem? (i := 2288) (by decide +kernel), List.mem_of_getElem? (i := 2289) (by decide +kernel)⟩
theorem lw_p218 : lw_okq (⟨"MonitorBoardModel", "named", "(II)I"⟩, 79) := ⟨⟨by decide +kernel, by decide +kernel⟩, List.mem_of_getElem? (i := 1650) (by decide +kernel), List.mem_of_getElem? (i := 2292) (by decide +kernel), List.mem_of_getElem? (i := 2293) (by decide +kernel)⟩
theorem lw_p219 : lw_okq (⟨"MonitorBoardModel", "marks", "(II)I"⟩, 79) := ⟨⟨by decide +kernel, by decide +kernel⟩, List.mem_of_getElem? (i := 1650) (by decide +kernel), List.mem_of_getElem? (i := 2296) (by decide +kernel), List.mem_of_getElem? (i := 2297) (by decide +kernel)⟩
theorem lw_p220 : lw_okq (⟨"MonitorBoardModel", "random", "(IIZZ)I"⟩, 79) := ⟨⟨by decide +kernel, by decide +kernel⟩, List.mem_of_getElem? (i := 1650) (by decide +kernel), List.mem_of_getElem? (i := 2300) (by decide +kernel), List.mem_of_getElem? (i := 2301) (by decide +kernel)⟩
theorem lw_p221 : lw_okq (⟨"MonitorBoardModel", "pop", "()I"⟩, 79) := ⟨⟨by decide +kernel, by decide +kernel⟩, List.mem_of_getElem? (i := 1650) (by decide +kernel), List.mem_of_getElem? (i := 2305) (by decide +kernel), List.mem_of_getElem? (i := 2306) (by decide +kernel)⟩
theorem lw_p222 : lw_okq (⟨"MonitorBoardModel", "word", "(I)I"⟩, 79) := ⟨⟨by decide +kernel, by decide +kernel⟩, List.mem_of_getElem? (i := 1650) (by decide +kernel), List.mem_of_getElem? (i := 2309) (by decide +kernel), List.mem_of_getElem? (i := 2310) (by decide +kernel)⟩
theorem lw_p223 : lw_okq (⟨"MonitorBoardModel", "code", "()I"⟩, 79) := ⟨⟨by decide +kernel, by decide +kernel⟩, List.mem_of_getElem? (i := 1650) (by decide +kernel), List.mem_of_getElem? (i := 2313) (by decide +kernel), List.mem_of_getElem? (i := 2314) (by decide +kernel)⟩
def lw_privs_14 : List (MethodName × Nat) := [(⟨"MonitorBoardModel", "pair", "(I)I"⟩, 79), (⟨"MonitorBoardModel", "transfer", "(Z)Z"⟩, 79), (⟨"MonitorBoardModel", "call", "()Z"⟩, 79), (⟨"MonitorBoardModel", "tells", "(I)V"⟩, 79), (⟨"MonitorBoardModel", "buffered", "(I)Z"⟩, 79), (⟨"MonitorBoardModel", "files", "(III)V"⟩, 79), (⟨"MonitorBoardModel", "fileCall", "(III)I"⟩, 79), (⟨"MonitorBoardModel", "search", "(ZI)I"⟩, 79), (⟨"MonitorBoardModel", "driveOf", "(I)I"⟩, 79), (⟨"MonitorBoardModel", "setR", "(II)V"⟩, 79), (⟨"MonitorBoardModel", "named", "(II)I"⟩, 79), (⟨"MonitorBoardModel", "marks", "(II)I"⟩, 79), (⟨"MonitorBoardModel", "random", "(IIZZ)I"⟩, 79), (⟨"MonitorBoardModel", "pop", "()I"⟩, 79), (⟨"MonitorBoardModel", "word", "(I)I"⟩, 79), (⟨"MonitorBoardModel", "code", "()I"⟩, 79)]
theorem lw_r14 : ∀ q ∈ lw_privs_14, lw_okq q := List.forall_mem_cons.mpr ⟨lw_p208, List.forall_mem_cons.mpr ⟨lw_p209, List.forall_mem_cons.mpr ⟨lw_p210, List.forall_mem_cons.mpr ⟨lw_p211, List.forall_mem_cons.mpr ⟨lw_p212, List.forall_mem_cons.mpr ⟨lw_p213, List.forall_mem_cons.mpr ⟨lw_p214, List.forall_mem_cons.mpr ⟨lw_p215, List.forall_mem_cons.mpr ⟨lw_p216, List.forall_mem_cons.mpr ⟨lw_p217, List.forall_mem_cons.mpr ⟨lw_p218, List.forall_mem_cons.mpr ⟨lw_p219, List.forall_mem_cons.mpr ⟨lw_p220, List.forall_mem_cons.mpr ⟨lw_p221, List.forall_mem_cons.mpr ⟨lw_p222, List.forall_mem_cons.mpr ⟨lw_p223, fun _ h => absurd h List.not_mem_nil⟩⟩⟩⟩⟩⟩⟩⟩⟩⟩⟩⟩⟩⟩⟩⟩
theorem lw_p224 : lw_okq (⟨"MonitorBoardModel", "next", "()I"⟩, 79) := ⟨⟨by decide +kernel, by decide +kernel⟩, List.mem_of_getElem? (i := 1650) (by decide +kernel), List.mem_of_getElem? (i := 2317) (by decide +kernel), List.mem_of_getElem? (i := 2318) (by decide +kernel)⟩
theorem lw_p225 : lw_okq (⟨"MonitorBoardModel", "of", "(I)I"⟩, 79) := ⟨⟨by decide +kernel, by decide +kernel⟩, List.mem_of_getElem? (i := 1650) (by decide +kernel), List.mem_of_getElem? (i := 2321) (by decide +kernel), List.mem_of_getElem? (i := 2322) (by decide +kernel)⟩
theorem lw_p226 : lw_okq (⟨"MonitorBoardModel", "hl", "()I"⟩, 79) := ⟨⟨by decide +kernel, by decide +kernel⟩, List.mem_of_getElem? (i := 1650) (by decide +kernel), List.mem_of_getElem? (i := 2325) (by decide +kernel), List.mem_of_getElem? (i := 2326) (by decide +kernel)⟩
theorem lw_p227 : lw_okq (⟨"MonitorBoardModel", "into", "(II)V"⟩, 79) := ⟨⟨by decide +kernel, by decide +kernel⟩, List.mem_of_getElem? (i := 1650) (by decide +kernel), List.mem_of_getElem? (i := 2329) (by decide +kernel), List.mem_of_getElem? (i := 2330) (by decide +kernel)⟩
theorem lw_p228 : lw_okq (⟨"MonitorBoardModel", "reckon", "(II)V"⟩, 79) := ⟨⟨by decide +kernel, by decide +kernel⟩, List.mem_of_getElem? (i := 1650) (by decide +kernel), List.mem_of_getElem? (i := 2333) (by decide +kernel), List.mem_of_getElem? (i := 2334) (by decide +kernel)⟩
theorem lw_p229 : lw_okq (⟨"MonitorBoardModel", "has", "(I)Z"⟩, 79) := ⟨⟨by decide +kernel, by decide +kernel⟩, List.mem_of_getElem? (i := 1650) (by decide +kernel), List.mem_of_getElem? (i := 2337) (by decide +kernel), List.mem_of_getElem? (i := 2338) (by decide +kernel)⟩
theorem lw_p230 : lw_okq (⟨"MonitorBoardModel", "flag", "(IZ)V"⟩, 79) := ⟨⟨by decide +kernel, by decide +kernel⟩, List.mem_of_getElem? (i := 1650) (by decide +kernel), List.mem_of_getElem? (i := 2341) (by decide +kernel), List.mem_of_getElem? (i := 2342) (by decide +kernel)⟩
theorem lw_p231 : lw_okq (⟨"MonitorBoardModel", "result", "(I)V"⟩, 79) := ⟨⟨by decide +kernel, by decide +kernel⟩, List.mem_of_getElem? (i := 1650) (by decide +kernel), List.mem_of_getElem? (i := 2345) (by decide +kernel), List.mem_of_getElem? (i := 2346) (by decide +kernel)⟩
theorem lw_p232 : lw_okq (⟨"MonitorBoardModel", "lower", "(III)I"⟩, 79) := ⟨⟨by decide +kernel, by decide +kernel⟩, List.mem_of_getElem? (i := 1650) (by decide +kernel), List.mem_of_getElem? (i := 2349) (by decide +kernel), List.mem_of_getElem? (i := 2350) (by decide +kernel)⟩
theorem lw_p233 : lw_okq (⟨"MonitorBoardModel", "nextWord", "()I"⟩, 79) := ⟨⟨by decide +kernel, by decide +kernel⟩, List.mem_of_getElem? (i := 1650) (by decide +kernel), List.mem_of_getElem? (i := 2353) (by decide +kernel), List.mem_of_getElem? (i := 2354) (by decide +kernel)⟩
theorem lw_p234 : lw_okq (⟨"MonitorBoardModel", "moves", "(I)I"⟩, 79) := ⟨⟨by decide +kernel, by decide +kernel⟩, List.mem_of_getElem? (i := 1650) (by decide +kernel), List.mem_of_getElem? (i := 2357) (by decide +kernel), List.mem_of_getElem? (i := 2358) (by decide +kernel)⟩
theorem lw_p235 : lw_okq (⟨"MonitorBoardModel", "rotate", "(I)V"⟩, 79) := ⟨⟨by decide +kernel, by decide +kernel⟩, List.mem_of_getElem? (i := 1650) (by decide +kernel), List.mem_of_getElem? (i := 2361) (by decide +kernel), List.mem_of_getElem? (i := 2362) (by decide +kernel)⟩
theorem lw_p236 : lw_okq (⟨"MonitorBoardModel", "adjust", "()V"⟩, 79) := ⟨⟨by decide +kernel, by decide +kernel⟩, List.mem_of_getElem? (i := 1650) (by decide +kernel), List.mem_of_getElem? (i := 2365) (by decide +kernel), List.mem_of_getElem? (i := 2366) (by decide +kernel)⟩
theorem lw_p237 : lw_okq (⟨"MonitorBoardModel", "upper", "(III)I"⟩, 79) := ⟨⟨by decide +kernel, by decide +kernel⟩, List.mem_of_getElem? (i := 1650) (by decide +kernel), List.mem_of_getElem? (i := 2369) (by decide +kernel), List.mem_of_getElem? (i := 2370) (by decide +kernel)⟩
theorem lw_p238 : lw_okq (⟨"MonitorBoardModel", "holds", "(I)Z"⟩, 79) := ⟨⟨by decide +kernel, by decide +kernel⟩, List.mem_of_getElem? (i := 1650) (by decide +kernel), List.mem_of_getElem? (i := 2373) (by decide +kernel), List.mem_of_getElem? (i := 2374) (by decide +kernel)⟩
theorem lw_p239 : lw_okq (⟨"MonitorBoardModel", "push", "(I)V"⟩, 79) := ⟨⟨by decide +kernel, by decide +kernel⟩, List.mem_of_getElem? (i := 1650) (by decide +kernel), List.mem_of_getElem? (i := 2377) (by decide +kernel), List.mem_of_getElem? (i := 2378) (by decide +kernel)⟩
def lw_privs_15 : List (MethodName × Nat) := [(⟨"MonitorBoardModel", "next", "()I"⟩, 79), (⟨"MonitorBoardModel", "of", "(I)I"⟩, 79), (⟨"MonitorBoardModel", "hl", "()I"⟩, 79), (⟨"MonitorBoardModel", "into", "(II)V"⟩, 79), (⟨"MonitorBoardModel", "reckon", "(II)V"⟩, 79), (⟨"MonitorBoardModel", "has", "(I)Z"⟩, 79), (⟨"MonitorBoardModel", "flag", "(IZ)V"⟩, 79), (⟨"MonitorBoardModel", "result", "(I)V"⟩, 79), (⟨"MonitorBoardModel", "lower", "(III)I"⟩, 79), (⟨"MonitorBoardModel", "nextWord", "()I"⟩, 79), (⟨"MonitorBoardModel", "moves", "(I)I"⟩, 79), (⟨"MonitorBoardModel", "rotate", "(I)V"⟩, 79), (⟨"MonitorBoardModel", "adjust", "()V"⟩, 79), (⟨"MonitorBoardModel", "upper", "(III)I"⟩, 79), (⟨"MonitorBoardModel", "holds", "(I)Z"⟩, 79), (⟨"MonitorBoardModel", "push", "(I)V"⟩, 79)]
theorem lw_r15 : ∀ q ∈ lw_privs_15, lw_okq q := List.forall_mem_cons.mpr ⟨lw_p224, List.forall_mem_cons.mpr ⟨lw_p225, List.forall_mem_cons.mpr ⟨lw_p226, List.forall_mem_cons.mpr ⟨lw_p227, List.forall_mem_cons.mpr ⟨lw_p228, List.forall_mem_cons.mpr ⟨lw_p229, List.forall_mem_cons.mpr ⟨lw_p230, List.forall_mem_cons.mpr ⟨lw_p231, List.forall_mem_cons.mpr ⟨lw_p232, List.forall_mem_cons.mpr ⟨lw_p233, List.forall_mem_cons.mpr ⟨lw_p234, List.forall_mem_cons.mpr ⟨lw_p235, List.forall_mem_cons.mpr ⟨lw_p236, List.forall_mem_cons.mpr ⟨lw_p237, List.forall_mem_cons.mpr ⟨lw_p238, List.forall_mem_cons.mpr ⟨lw_p239, fun _ h => absurd h List.not_mem_nil⟩⟩⟩⟩⟩⟩⟩⟩⟩⟩⟩⟩⟩⟩⟩⟩
theorem lw_p240 : lw_okq (⟨"MonitorBoardModel", "others", "(I)I"⟩, 79) := ⟨⟨by decide +kernel, by decide +kernel⟩, List.mem_of_getElem? (i := 1650) (by decide +kernel), List.mem_of_getElem? (i := 2381) (by decide +kernel), List.mem_of_getElem? (i := 2382) (by decide +kernel)⟩
theorem lw_p241 : lw_okq (⟨"MonitorBoardModel", "statement", "()Z"⟩, 79) := ⟨⟨by decide +kernel, by decide +kernel⟩, List.mem_of_getElem? (i := 1650) (by decide +kernel), List.mem_of_getElem? (i := 2398) (by decide +kernel), List.mem_of_getElem? (i := 2399) (by decide +kernel)⟩
theorem lw_p242 : lw_okq (⟨"MonitorBoardModel", "sign", "()I"⟩, 79) := ⟨⟨by decide +kernel, by decide +kernel⟩, List.mem_of_getElem? (i := 1650) (by decide +kernel), List.mem_of_getElem? (i := 2402) (by decide +kernel), List.mem_of_getElem? (i := 2403) (by decide +kernel)⟩
theorem lw_p243 : lw_okq (⟨"MonitorBoardModel", "isLetter", "(I)Z"⟩, 79) := ⟨⟨by decide +kernel, by decide +kernel⟩, List.mem_of_getElem? (i := 1650) (by decide +kernel), List.mem_of_getElem? (i := 2406) (by decide +kernel), List.mem_of_getElem? (i := 2407) (by decide +kernel)⟩
theorem lw_p244 : lw_okq (⟨"MonitorBoardModel", "readWord", "()V"⟩, 79) := ⟨⟨by decide +kernel, by decide +kernel⟩, List.mem_of_getElem? (i := 1650) (by decide +kernel), List.mem_of_getElem? (i := 2413) (by decide +kernel), List.mem_of_getElem? (i := 2414) (by decide +kernel)⟩
theorem lw_p245 : lw_okq (⟨"MonitorBoardModel", "isDigit", "(I)Z"⟩, 79) := ⟨⟨by decide +kernel, by decide +kernel⟩, List.mem_of_getElem? (i := 1650) (by decide +kernel), List.mem_of_getElem? (i := 2417) (by decide +kernel), List.mem_of_getElem? (i := 2418) (by decide +kernel)⟩
theorem lw_p246 : lw_okq (⟨"MonitorBoardModel", "fault", "(I)V"⟩, 79) := ⟨⟨by decide +kernel, by decide +kernel⟩, List.mem_of_getElem? (i := 1650) (by decide +kernel), List.mem_of_getElem? (i := 2421) (by decide +kernel), List.mem_of_getElem? (i := 2422) (by decide +kernel)⟩
theorem lw_p247 : lw_okq (⟨"MonitorBoardModel", "labelOf", "()I"⟩, 79) := ⟨⟨by decide +kernel, by decide +kernel⟩, List.mem_of_getElem? (i := 1650) (by decide +kernel), List.mem_of_getElem? (i := 2425) (by decide +kernel), List.mem_of_getElem? (i := 2426) (by decide +kernel)⟩
theorem lw_p248 : lw_okq (⟨"MonitorBoardModel", "blanks", "()V"⟩, 79) := ⟨⟨by decide +kernel, by decide +kernel⟩, List.mem_of_getElem? (i := 1650) (by decide +kernel), List.mem_of_getElem? (i := 2429) (by decide +kernel), List.mem_of_getElem? (i := 2430) (by decide +kernel)⟩
theorem lw_p249 : lw_okq (⟨"MonitorBoardModel", "isEndOfLine", "()Z"⟩, 79) := ⟨⟨by decide +kernel, by decide +kernel⟩, List.mem_of_getElem? (i := 1650) (by decide +kernel), List.mem_of_getElem? (i := 2433) (by decide +kernel), List.mem_of_getElem? (i := 2434) (by decide +kernel)⟩
theorem lw_p250 : lw_okq (⟨"MonitorBoardModel", "operation", "(I)Z"⟩, 79) := ⟨⟨by decide +kernel, by decide +kernel⟩, List.mem_of_getElem? (i := 1650) (by decide +kernel), List.mem_of_getElem? (i := 2437) (by decide +kernel), List.mem_of_getElem? (i := 2438) (by decide +kernel)⟩
theorem lw_p251 : lw_okq (⟨"MonitorBoardModel", "known", "()Z"⟩, 79) := ⟨⟨by decide +kernel, by decide +kernel⟩, List.mem_of_getElem? (i := 1650) (by decide +kernel), List.mem_of_getElem? (i := 2441) (by decide +kernel), List.mem_of_getElem? (i := 2442) (by decide +kernel)⟩
theorem lw_p252 : lw_okq (⟨"MonitorBoardModel", "codes", "()V"⟩, 79) := ⟨⟨by decide +kernel, by decide +kernel⟩, List.mem_of_getElem? (i := 1650) (by decide +kernel), List.mem_of_getElem? (i := 2449) (by decide +kernel), List.mem_of_getElem? (i := 2450) (by decide +kernel)⟩
theorem lw_p253 : lw_okq (⟨"MonitorBoardModel", "put", "(II)Z"⟩, 79) := ⟨⟨by decide +kernel, by decide +kernel⟩, List.mem_of_getElem? (i := 1650) (by decide +kernel), List.mem_of_getElem? (i := 2453) (by decide +kernel), List.mem_of_getElem? (i := 2454) (by decide +kernel)⟩
theorem lw_p254 : lw_okq (⟨"MonitorBoardModel", "wordOperand", "(I)V"⟩, 79) := ⟨⟨by decide +kernel, by decide +kernel⟩, List.mem_of_getElem? (i := 1650) (by decide +kernel), List.mem_of_getElem? (i := 2457) (by decide +kernel), List.mem_of_getElem? (i := 2458) (by decide +kernel)⟩
theorem lw_p255 : lw_okq (⟨"MonitorBoardModel", "expression", "(ZI)I"⟩, 79) := ⟨⟨by decide +kernel, by decide +kernel⟩, List.mem_of_getElem? (i := 1650) (by decide +kernel), List.mem_of_getElem? (i := 2461) (by decide +kernel), List.mem_of_getElem? (i := 2462) (by decide +kernel)⟩
def lw_privs_16 : List (MethodName × Nat) := [(⟨"MonitorBoardModel", "others", "(I)I"⟩, 79), (⟨"MonitorBoardModel", "statement", "()Z"⟩, 79), (⟨"MonitorBoardModel", "sign", "()I"⟩, 79), (⟨"MonitorBoardModel", "isLetter", "(I)Z"⟩, 79), (⟨"MonitorBoardModel", "readWord", "()V"⟩, 79), (⟨"MonitorBoardModel", "isDigit", "(I)Z"⟩, 79), (⟨"MonitorBoardModel", "fault", "(I)V"⟩, 79), (⟨"MonitorBoardModel", "labelOf", "()I"⟩, 79), (⟨"MonitorBoardModel", "blanks", "()V"⟩, 79), (⟨"MonitorBoardModel", "isEndOfLine", "()Z"⟩, 79), (⟨"MonitorBoardModel", "operation", "(I)Z"⟩, 79), (⟨"MonitorBoardModel", "known", "()Z"⟩, 79), (⟨"MonitorBoardModel", "codes", "()V"⟩, 79), (⟨"MonitorBoardModel", "put", "(II)Z"⟩, 79), (⟨"MonitorBoardModel", "wordOperand", "(I)V"⟩, 79), (⟨"MonitorBoardModel", "expression", "(ZI)I"⟩, 79)]
theorem lw_r16 : ∀ q ∈ lw_privs_16, lw_okq q := List.forall_mem_cons.mpr ⟨lw_p240, List.forall_mem_cons.mpr ⟨lw_p241, List.forall_mem_cons.mpr ⟨lw_p242, List.forall_mem_cons.mpr ⟨lw_p243, List.forall_mem_cons.mpr ⟨lw_p244, List.forall_mem_cons.mpr ⟨lw_p245, List.forall_mem_cons.mpr ⟨lw_p246, List.forall_mem_cons.mpr ⟨lw_p247, List.forall_mem_cons.mpr ⟨lw_p248, List.forall_mem_cons.mpr ⟨lw_p249, List.forall_mem_cons.mpr ⟨lw_p250, List.forall_mem_cons.mpr ⟨lw_p251, List.forall_mem_cons.mpr ⟨lw_p252, List.forall_mem_cons.mpr ⟨lw_p253, List.forall_mem_cons.mpr ⟨lw_p254, List.forall_mem_cons.mpr ⟨lw_p255, fun _ h => absurd h List.not_mem_nil⟩⟩⟩⟩⟩⟩⟩⟩⟩⟩⟩⟩⟩⟩⟩⟩
theorem lw_p256 : lw_okq (⟨"MonitorBoardModel", "term", "(ZI)I"⟩, 79) := ⟨⟨by decide +kernel, by decide +kernel⟩, List.mem_of_getElem? (i := 1650) (by decide +kernel), List.mem_of_getElem? (i := 2465) (by decide +kernel), List.mem_of_getElem? (i := 2466) (by decide +kernel)⟩
theorem lw_p257 : lw_okq (⟨"MonitorBoardModel", "factor", "(ZI)I"⟩, 79) := ⟨⟨by decide +kernel, by decide +kernel⟩, List.mem_of_getElem? (i := 1650) (by decide +kernel), List.mem_of_getElem? (i := 2469) (by decide +kernel), List.mem_of_getElem? (i := 2470) (by decide +kernel)⟩
theorem lw_p258 : lw_okq (⟨"MonitorBoardModel", "simple", "(ZI)I"⟩, 79) := ⟨⟨by decide +kernel, by decide +kernel⟩, List.mem_of_getElem? (i := 1650) (by decide +kernel), List.mem_of_getElem? (i := 2473) (by decide +kernel), List.mem_of_getElem? (i := 2474) (by decide +kernel)⟩
theorem lw_p259 : lw_okq (⟨"MonitorBoardModel", "literal", "()I"⟩, 79) := ⟨⟨by decide +kernel, by decide +kernel⟩, List.mem_of_getElem? (i := 1650) (by decide +kernel), List.mem_of_getElem? (i := 2477) (by decide +kernel), List.mem_of_getElem? (i := 2478) (by decide +kernel)⟩
theorem lw_p260 : lw_okq (⟨"MonitorBoardModel", "wordOut", "(I)V"⟩, 79) := ⟨⟨by decide +kernel, by decide +kernel⟩, List.mem_of_getElem? (i := 1650) (by decide +kernel), List.mem_of_getElem? (i := 2482) (by decide +kernel), List.mem_of_getElem? (i := 2483) (by decide +kernel)⟩
theorem lw_p261 : lw_okq (⟨"MonitorBoardModel", "byteOperand", "(I)V"⟩, 79) := ⟨⟨by decide +kernel, by decide +kernel⟩, List.mem_of_getElem? (i := 1650) (by decide +kernel), List.mem_of_getElem? (i := 2486) (by decide +kernel), List.mem_of_getElem? (i := 2487) (by decide +kernel)⟩
theorem lw_p262 : lw_okq (⟨"MonitorBoardModel", "byteOut", "(II)V"⟩, 79) := ⟨⟨by decide +kernel, by decide +kernel⟩, List.mem_of_getElem? (i := 1650) (by decide +kernel), List.mem_of_getElem? (i := 2490) (by decide +kernel), List.mem_of_getElem? (i := 2491) (by decide +kernel)⟩
theorem lw_p263 : lw_okq (⟨"MonitorBoardModel", "registerName", "()I"⟩, 79) := ⟨⟨by decide +kernel, by decide +kernel⟩, List.mem_of_getElem? (i := 1650) (by decide +kernel), List.mem_of_getElem? (i := 2495) (by decide +kernel), List.mem_of_getElem? (i := 2496) (by decide +kernel)⟩
theorem lw_p264 : lw_okq (⟨"MonitorBoardModel", "pairName", "(II)I"⟩, 79) := ⟨⟨by decide +kernel, by decide +kernel⟩, List.mem_of_getElem? (i := 1650) (by decide +kernel), List.mem_of_getElem? (i := 2500) (by decide +kernel), List.mem_of_getElem? (i := 2501) (by decide +kernel)⟩
theorem lw_p265 : lw_okq (⟨"MonitorBoardModel", "is", "(Ljava/lang/String;)Z"⟩, 79) := ⟨⟨by decide +kernel, by decide +kernel⟩, List.mem_of_getElem? (i := 1650) (by decide +kernel), List.mem_of_getElem? (i := 2505) (by decide +kernel), List.mem_of_getElem? (i := 2506) (by decide +kernel)⟩
theorem lw_p266 : lw_okq (⟨"MonitorBoardModel", "mustComma", "()V"⟩, 79) := ⟨⟨by decide +kernel, by decide +kernel⟩, List.mem_of_getElem? (i := 1650) (by decide +kernel), List.mem_of_getElem? (i := 2513) (by decide +kernel), List.mem_of_getElem? (i := 2514) (by decide +kernel)⟩
theorem lw_p267 : lw_okq (⟨"MonitorBoardModel", "comma", "()Z"⟩, 79) := ⟨⟨by decide +kernel, by decide +kernel⟩, List.mem_of_getElem? (i := 1650) (by decide +kernel), List.mem_of_getElem? (i := 2517) (by decide +kernel), List.mem_of_getElem? (i := 2518) (by decide +kernel)⟩
theorem lw_p268 : lw_okq (⟨"MonitorBoardModel", "strict", "(I)I"⟩, 79) := ⟨⟨by decide +kernel, by decide +kernel⟩, List.mem_of_getElem? (i := 1650) (by decide +kernel), List.mem_of_getElem? (i := 2523) (by decide +kernel), List.mem_of_getElem? (i := 2524) (by decide +kernel)⟩
theorem lw_p269 : lw_okq (⟨"MonitorBoardModel", "item", "()V"⟩, 79) := ⟨⟨by decide +kernel, by decide +kernel⟩, List.mem_of_getElem? (i := 1650) (by decide +kernel), List.mem_of_getElem? (i := 2530) (by decide +kernel), List.mem_of_getElem? (i := 2531) (by decide +kernel)⟩
theorem lw_p270 : lw_okq (⟨"MonitorBoardModel", "quoted", "(Z)I"⟩, 79) := ⟨⟨by decide +kernel, by decide +kernel⟩, List.mem_of_getElem? (i := 1650) (by decide +kernel), List.mem_of_getElem? (i := 2534) (by decide +kernel), List.mem_of_getElem? (i := 2535) (by decide +kernel)⟩
theorem lw_p271 : lw_okq (⟨"MonitorBoardModel", "addText", "(Ljava/lang/String;II)V"⟩, 79) := ⟨⟨by decide +kernel, by decide +kernel⟩, List.mem_of_getElem? (i := 1650) (by decide +kernel), List.mem_of_getElem? (i := 2546) (by decide +kernel), List.mem_of_getElem? (i := 2547) (by decide +kernel)⟩
def lw_privs_17 : List (MethodName × Nat) := [(⟨"MonitorBoardModel", "term", "(ZI)I"⟩, 79), (⟨"MonitorBoardModel", "factor", "(ZI)I"⟩, 79), (⟨"MonitorBoardModel", "simple", "(ZI)I"⟩, 79), (⟨"MonitorBoardModel", "literal", "()I"⟩, 79), (⟨"MonitorBoardModel", "wordOut", "(I)V"⟩, 79), (⟨"MonitorBoardModel", "byteOperand", "(I)V"⟩, 79), (⟨"MonitorBoardModel", "byteOut", "(II)V"⟩, 79), (⟨"MonitorBoardModel", "registerName", "()I"⟩, 79), (⟨"MonitorBoardModel", "pairName", "(II)I"⟩, 79), (⟨"MonitorBoardModel", "is", "(Ljava/lang/String;)Z"⟩, 79), (⟨"MonitorBoardModel", "mustComma", "()V"⟩, 79), (⟨"MonitorBoardModel", "comma", "()Z"⟩, 79), (⟨"MonitorBoardModel", "strict", "(I)I"⟩, 79), (⟨"MonitorBoardModel", "item", "()V"⟩, 79), (⟨"MonitorBoardModel", "quoted", "(Z)I"⟩, 79), (⟨"MonitorBoardModel", "addText", "(Ljava/lang/String;II)V"⟩, 79)]
theorem lw_r17 : ∀ q ∈ lw_privs_17, lw_okq q := List.forall_mem_cons.mpr ⟨lw_p256, List.forall_mem_cons.mpr ⟨lw_p257, List.forall_mem_cons.mpr ⟨lw_p258, List.forall_mem_cons.mpr ⟨lw_p259, List.forall_mem_cons.mpr ⟨lw_p260, List.forall_mem_cons.mpr ⟨lw_p261, List.forall_mem_cons.mpr ⟨lw_p262, List.forall_mem_cons.mpr ⟨lw_p263, List.forall_mem_cons.mpr ⟨lw_p264, List.forall_mem_cons.mpr ⟨lw_p265, List.forall_mem_cons.mpr ⟨lw_p266, List.forall_mem_cons.mpr ⟨lw_p267, List.forall_mem_cons.mpr ⟨lw_p268, List.forall_mem_cons.mpr ⟨lw_p269, List.forall_mem_cons.mpr ⟨lw_p270, List.forall_mem_cons.mpr ⟨lw_p271, fun _ h => absurd h List.not_mem_nil⟩⟩⟩⟩⟩⟩⟩⟩⟩⟩⟩⟩⟩⟩⟩⟩
theorem lw_p272 : lw_okq (⟨"MonitorBoardModel", "add", "(I)V"⟩, 79) := ⟨⟨by decide +kernel, by decide +kernel⟩, List.mem_of_getElem? (i := 1650) (by decide +kernel), List.mem_of_getElem? (i := 2550) (by decide +kernel), List.mem_of_getElem? (i := 2551) (by decide +kernel)⟩
theorem lw_p273 : lw_okq (⟨"MonitorBoardModel", "operands", "(III)V"⟩, 79) := ⟨⟨by decide +kernel, by decide +kernel⟩, List.mem_of_getElem? (i := 1650) (by decide +kernel), List.mem_of_getElem? (i := 2554) (by decide +kernel), List.mem_of_getElem? (i := 2555) (by decide +kernel)⟩
theorem lw_p274 : lw_okq (⟨"MonitorBoardModel", "addHex", "(II)V"⟩, 79) := ⟨⟨by decide +kernel, by decide +kernel⟩, List.mem_of_getElem? (i := 1650) (by decide +kernel), List.mem_of_getElem? (i := 2558) (by decide +kernel), List.mem_of_getElem? (i := 2559) (by decide +kernel)⟩
theorem lw_p275 : lw_okq (⟨"MonitorBoardModel", "addRegister", "(I)V"⟩, 79) := ⟨⟨by decide +kernel, by decide +kernel⟩, List.mem_of_getElem? (i := 1650) (by decide +kernel), List.mem_of_getElem? (i := 2562) (by decide +kernel), List.mem_of_getElem? (i := 2563) (by decide +kernel)⟩
theorem lw_p276 : lw_okq (⟨"MonitorBoardModel", "addPair", "(IZ)V"⟩, 79) := ⟨⟨by decide +kernel, by decide +kernel⟩, List.mem_of_getElem? (i := 1650) (by decide +kernel), List.mem_of_getElem? (i := 2566) (by decide +kernel), List.mem_of_getElem? (i := 2567) (by decide +kernel)⟩
theorem lw_p277 : lw_okq (⟨"MonitorBoardModel", "addPairOf", "(I)V"⟩, 79) := ⟨⟨by decide +kernel, by decide +kernel⟩, List.mem_of_getElem? (i := 1650) (by decide +kernel), List.mem_of_getElem? (i := 2576) (by decide +kernel), List.mem_of_getElem? (i := 2577) (by decide +kernel)⟩
def lw_privs_18 : List (MethodName × Nat) := [(⟨"MonitorBoardModel", "add", "(I)V"⟩, 79), (⟨"MonitorBoardModel", "operands", "(III)V"⟩, 79), (⟨"MonitorBoardModel", "addHex", "(II)V"⟩, 79), (⟨"MonitorBoardModel", "addRegister", "(I)V"⟩, 79), (⟨"MonitorBoardModel", "addPair", "(IZ)V"⟩, 79), (⟨"MonitorBoardModel", "addPairOf", "(I)V"⟩, 79)]
theorem lw_r18 : ∀ q ∈ lw_privs_18, lw_okq q := List.forall_mem_cons.mpr ⟨lw_p272, List.forall_mem_cons.mpr ⟨lw_p273, List.forall_mem_cons.mpr ⟨lw_p274, List.forall_mem_cons.mpr ⟨lw_p275, List.forall_mem_cons.mpr ⟨lw_p276, List.forall_mem_cons.mpr ⟨lw_p277, fun _ h => absurd h List.not_mem_nil⟩⟩⟩⟩⟩⟩
def lw_privs : List (MethodName × Nat) := lw_privs_1 ++ (lw_privs_2 ++ (lw_privs_3 ++ (lw_privs_4 ++ (lw_privs_5 ++ (lw_privs_6 ++ (lw_privs_7 ++ (lw_privs_8 ++ (lw_privs_9 ++ (lw_privs_10 ++ (lw_privs_11 ++ (lw_privs_12 ++ (lw_privs_13 ++ (lw_privs_14 ++ (lw_privs_15 ++ (lw_privs_16 ++ (lw_privs_17 ++ (lw_privs_18)))))))))))))))))
def lw_tbl : List Cond := k2_sels lw_privs ++ tables_1
theorem lw_privs_ok : ∀ q ∈ lw_privs, lw_okq q := by
  show ∀ q ∈ lw_privs_1 ++ (lw_privs_2 ++ (lw_privs_3 ++ (lw_privs_4 ++ (lw_privs_5 ++ (lw_privs_6 ++ (lw_privs_7 ++ (lw_privs_8 ++ (lw_privs_9 ++ (lw_privs_10 ++ (lw_privs_11 ++ (lw_privs_12 ++ (lw_privs_13 ++ (lw_privs_14 ++ (lw_privs_15 ++ (lw_privs_16 ++ (lw_privs_17 ++ (lw_privs_18))))))))))))))))), lw_okq q
  exact List.forall_mem_append.mpr ⟨lw_r1, List.forall_mem_append.mpr ⟨lw_r2, List.forall_mem_append.mpr ⟨lw_r3, List.forall_mem_append.mpr ⟨lw_r4, List.forall_mem_append.mpr ⟨lw_r5, List.forall_mem_append.mpr ⟨lw_r6, List.forall_mem_append.mpr ⟨lw_r7, List.forall_mem_append.mpr ⟨lw_r8, List.forall_mem_append.mpr ⟨lw_r9, List.forall_mem_append.mpr ⟨lw_r10, List.forall_mem_append.mpr ⟨lw_r11, List.forall_mem_append.mpr ⟨lw_r12, List.forall_mem_append.mpr ⟨lw_r13, List.forall_mem_append.mpr ⟨lw_r14, List.forall_mem_append.mpr ⟨lw_r15, List.forall_mem_append.mpr ⟨lw_r16, List.forall_mem_append.mpr ⟨lw_r17, lw_r18⟩⟩⟩⟩⟩⟩⟩⟩⟩⟩⟩⟩⟩⟩⟩⟩⟩
-- ===== end of PART A; then your names; then what follows =====
end
section
/-! classes and their fields, by program (wip/whole/names.py) -/
def fwT : List Cond := lw_tbl.filter goodWord
theorem fwT_mem {w : Cond} (h : w ∈ lw_tbl) (hg : goodWord w = true) : w ∈ fwT := List.mem_filter.mpr ⟨h, hg⟩
theorem fwT_all {ws : List Cond} (ps : List Nat) (hp : ws = ps.filterMap (fun i => lw_tbl[i]?)) (h : ws.all goodWord = true) : ∀ w ∈ ws, w ∈ fwT := by
  intro w hw
  have h1 := List.all_eq_true.mp h w hw
  rw [hp] at hw
  obtain ⟨i, -, hi⟩ := List.mem_filterMap.mp hw
  exact fwT_mem (List.mem_of_getElem? hi) h1
/-- what the machine must know of a class -/
def fwCk (q : vw_C) (ty : Nat → FieldType) : Prop := (∀ w ∈ u_ws q.1 q.2.1 q.2.2, w ∈ fwT) ∧ (∀ a, a < q.2.2 → ∀ b, b < q.2.2 → a ≠ b → (q.2.1 a).2.1 ≠ (q.2.1 b).2.1) ∧ (∀ k, k < q.2.2 → parseFieldDescriptor (q.2.1 k).2.2.1 = some (ty k))
def fwR_0 : String := "MonitorBoard"
def fwF_0 : List (String × String × String × Bool) := [("MonitorBoard", "tape", "[B", true), ("MonitorBoard", "result", "[B", true), ("MonitorBoard", "hexSource", "[B", true), ("MonitorBoard", "terminal", "LMonitorBoard$Console;", true), ("MonitorBoard", "processor", "LMonitorBoard$Processor;", true), ("MonitorBoard", "files", "LMonitorBoard$Files;", true), ("MonitorBoard", "monitor", "LMonitorBoard$Monitor;", true), ("MonitorBoard", "shell", "LMonitorBoard$Shell;", true), ("MonitorBoard", "assembler", "LMonitorBoard$Assembler;", true), ("MonitorBoard", "lister", "LMonitorBoard$Lister;", true), ("MonitorBoard", "tapeCount", "I", false), ("MonitorBoard", "resultCount", "I", false)]
def fwTy_0 : List FieldType := [.array .byte, .array .byte, .array .byte, .object "MonitorBoard$Console", .object "MonitorBoard$Processor", .object "MonitorBoard$Files", .object "MonitorBoard$Monitor", .object "MonitorBoard$Shell", .object "MonitorBoard$Assembler", .object "MonitorBoard$Lister", .int, .int]
abbrev fwC_0 : vw_C := (fwR_0, fun k => fwF_0.getD k ("", "", "", false), 12)
theorem fwCk_0 : fwCk fwC_0 (fun k => fwTy_0.getD k .int) := ⟨fwT_all [892, 894, 896, 898, 900, 902, 904, 906, 908, 910, 912, 914] (by decide +kernel) (by decide +kernel), by decide +kernel, by decide +kernel⟩
def fwR_1 : String := "MonitorBoardModel"
def fwF_1 : List (String × String × String × Bool) := [("MonitorBoardModel", "mem", "[B", true), ("MonitorBoardModel", "disks", "[B", true), ("MonitorBoardModel", "tape", "[B", true), ("MonitorBoardModel", "keys", "[B", true), ("MonitorBoardModel", "told", "[B", true), ("MonitorBoardModel", "outs", "[B", true), ("MonitorBoardModel", "length", "I", false), ("MonitorBoardModel", "keysFrom", "I", false), ("MonitorBoardModel", "keysMany", "I", false), ("MonitorBoardModel", "toldFrom", "I", false), ("MonitorBoardModel", "toldMany", "I", false), ("MonitorBoardModel", "outMany", "I", false), ("MonitorBoardModel", "reg", "[I", true), ("MonitorBoardModel", "flags", "I", false), ("MonitorBoardModel", "sp", "I", false), ("MonitorBoardModel", "pc", "I", false), ("MonitorBoardModel", "used", "J", false), ("MonitorBoardModel", "stopped", "Z", false), ("MonitorBoardModel", "commands", "Z", false), ("MonitorBoardModel", "mine", "[B", true), ("MonitorBoardModel", "boots", "Z", false), ("MonitorBoardModel", "drive", "I", false), ("MonitorBoardModel", "user", "I", false), ("MonitorBoardModel", "data", "I", false), ("MonitorBoardModel", "chosen", "I", false), ("MonitorBoardModel", "track", "I", false), ("MonitorBoardModel", "sector", "I", false), ("MonitorBoardModel", "logged", "I", false), ("MonitorBoardModel", "readOnly", "I", false), ("MonitorBoardModel", "inUse", "[Z", true), ("MonitorBoardModel", "diskWords", "[I", true), ("MonitorBoardModel", "searching", "Z", false), ("MonitorBoardModel", "sought", "[I", true), ("MonitorBoardModel", "soughtDrive", "I", false), ("MonitorBoardModel", "soughtNext", "I", false), ("MonitorBoardModel", "lineMany", "I", false), ("MonitorBoardModel", "lineBytes", "[B", true), ("MonitorBoardModel", "lineAt", "I", false), ("MonitorBoardModel", "lineMost", "I", false), ("MonitorBoardModel", "failed", "Z", false), ("MonitorBoardModel", "which", "[Z", true), ("MonitorBoardModel", "lineEnd", "I", false), ("MonitorBoardModel", "wordEnd", "I", false), ("MonitorBoardModel", "file", "[I", true), ("MonitorBoardModel", "fileDrive", "I", false), ("MonitorBoardModel", "fileAny", "I", false), ("MonitorBoardModel", "fileEnd", "I", false), ("MonitorBoardModel", "fileBad", "Z", false), ("MonitorBoardModel", "fileNamed", "Z", false), ("MonitorBoardModel", "walkDrive", "I", false), ("MonitorBoardModel", "walkFcb", "I", false), ("MonitorBoardModel", "walkExtent", "I", false), ("MonitorBoardModel", "walkEntry", "I", false), ("MonitorBoardModel", "walkRecord", "I", false), ("MonitorBoardModel", "image", "[B", true), ("MonitorBoardModel", "imageEnd", "I", false), ("MonitorBoardModel", "hexRecord", "I", false), ("MonitorBoardModel", "hexAt", "I", false), ("MonitorBoardModel", "hexSum", "I", false), ("MonitorBoardModel", "labels", "[B", true), ("MonitorBoardModel", "labelSizes", "[I", true), ("MonitorBoardModel", "labelValues", "[I", true), ("MonitorBoardModel", "labelMany", "I", false), ("MonitorBoardModel", "here", "I", false), ("MonitorBoardModel", "top", "I", false), ("MonitorBoardModel", "p", "I", false), ("MonitorBoardModel", "lineStop", "I", false), ("MonitorBoardModel", "textEnd", "I", false), ("MonitorBoardModel", "bad", "I", false), ("MonitorBoardModel", "second", "Z", false), ("MonitorBoardModel", "word0", "[B", true), ("MonitorBoardModel", "wordSize", "I", false), ("MonitorBoardModel", "wordAt", "I", false), ("MonitorBoardModel", "codeKind", "I", false), ("MonitorBoardModel", "codeByte", "I", false), ("MonitorBoardModel", "opAt", "I", false), ("MonitorBoardModel", "lineHere", "I", false), ("MonitorBoardModel", "depth", "I", false), ("MonitorBoardModel", "lineSum", "I", false)]
def fwTy_1 : List FieldType := [.array .byte, .array .byte, .array .byte, .array .byte, .array .byte, .array .byte, .int, .int, .int, .int, .int, .int, .array .int, .int, .int, .int, .long, .boolean, .boolean, .array .byte, .boolean, .int, .int, .int, .int, .int, .int, .int, .int, .array .boolean, .array .int, .boolean, .array .int, .int, .int, .int, .array .byte, .int, .int, .boolean, .array .boolean, .int, .int, .array .int, .int, .int, .int, .boolean, .boolean, .int, .int, .int, .int, .int, .array .byte, .int, .int, .int, .int, .array .byte, .array .int, .array .int, .int, .int, .int, .int, .int, .int, .int, .boolean, .array .byte, .int, .int, .int, .int, .int, .int, .int, .int]
abbrev fwC_1 : vw_C := (fwR_1, fun k => fwF_1.getD k ("", "", "", false), 79)
theorem fwCk_1 : fwCk fwC_1 (fun k => fwTy_1.getD k .int) := ⟨fwT_all [2083, 2085, 2087, 2089, 2091, 2093, 2095, 2097, 2099, 2101, 2103, 2105, 2107, 2109, 2111, 2113, 2115, 2117, 2119, 2121, 2123, 2125, 2127, 2129, 2131, 2133, 2135, 2137, 2139, 2141, 2143, 2145, 2147, 2149, 2151, 2153, 2155, 2157, 2159, 2161, 2163, 2165, 2167, 2169, 2171, 2173, 2175, 2177, 2179, 2181, 2183, 2185, 2187, 2189, 2191, 2193, 2195, 2197, 2199, 2201, 2203, 2205, 2207, 2209, 2211, 2213, 2215, 2217, 2219, 2221, 2223, 2225, 2227, 2229, 2231, 2233, 2235, 2237, 2239] (by decide +kernel) (by decide +kernel), by decide +kernel, by decide +kernel⟩
def fwR_2 : String := "MonitorBoard$Assembler"
def fwF_2 : List (String × String × String × Bool) := [("MonitorBoard$Assembler", "text", "[B", true), ("MonitorBoard$Assembler", "image", "[B", true), ("MonitorBoard$Assembler", "names", "[J", true), ("MonitorBoard$Assembler", "capitals", "[I", true), ("MonitorBoard$Assembler", "labels", "[J", true), ("MonitorBoard$Assembler", "values", "[I", true), ("MonitorBoard$Assembler", "outside", "[I", true), ("MonitorBoard$Assembler", "labelCount", "I", false), ("MonitorBoard$Assembler", "label", "J", false), ("MonitorBoard$Assembler", "length", "I", false), ("MonitorBoard$Assembler", "at", "I", false), ("MonitorBoard$Assembler", "fault", "I", false), ("MonitorBoard$Assembler", "address", "I", false), ("MonitorBoard$Assembler", "top", "I", false), ("MonitorBoard$Assembler", "lineAddress", "I", false), ("MonitorBoard$Assembler", "labelValue", "I", false), ("MonitorBoard$Assembler", "secondPass", "Z", false), ("MonitorBoard$Assembler", "ended", "Z", false), ("MonitorBoard$Assembler", "word", "J", false), ("MonitorBoard$Assembler", "wordFrom", "I", false), ("MonitorBoard$Assembler", "wordLength", "I", false)]
def fwTy_2 : List FieldType := [.array .byte, .array .byte, .array .long, .array .int, .array .long, .array .int, .array .int, .int, .long, .int, .int, .int, .int, .int, .int, .int, .boolean, .boolean, .long, .int, .int]
abbrev fwC_2 : vw_C := (fwR_2, fun k => fwF_2.getD k ("", "", "", false), 21)
theorem fwCk_2 : fwCk fwC_2 (fun k => fwTy_2.getD k .int) := ⟨fwT_all [750, 752, 754, 756, 758, 760, 762, 764, 766, 768, 770, 772, 774, 776, 778, 780, 782, 784, 786, 788, 790] (by decide +kernel) (by decide +kernel), by decide +kernel, by decide +kernel⟩
def fwR_3 : String := "MonitorBoard$Console"
def fwF_3 : List (String × String × String × Bool) := [("MonitorBoard$Console", "told", "[B", true), ("MonitorBoard$Console", "waiting", "[B", true), ("MonitorBoard$Console", "line", "[I", true), ("MonitorBoard$Console", "toldFrom", "I", false), ("MonitorBoard$Console", "toldCount", "I", false), ("MonitorBoard$Console", "keyFrom", "I", false), ("MonitorBoard$Console", "keyCount", "I", false), ("MonitorBoard$Console", "lineCount", "I", false), ("MonitorBoard$Console", "lineMost", "I", false), ("MonitorBoard$Console", "lineOpen", "Z", false)]
def fwTy_3 : List FieldType := [.array .byte, .array .byte, .array .int, .int, .int, .int, .int, .int, .int, .boolean]
abbrev fwC_3 : vw_C := (fwR_3, fun k => fwF_3.getD k ("", "", "", false), 10)
theorem fwCk_3 : fwCk fwC_3 (fun k => fwTy_3.getD k .int) := ⟨fwT_all [333, 335, 337, 339, 341, 343, 345, 347, 349, 351] (by decide +kernel) (by decide +kernel), by decide +kernel, by decide +kernel⟩
def fwR_4 : String := "MonitorBoard$Files"
def fwF_4 : List (String × String × String × Bool) := [("MonitorBoard$Files", "surface", "[B", true), ("MonitorBoard$Files", "recordAt", "[I", true), ("MonitorBoard$Files", "used", "[Z", true), ("MonitorBoard$Files", "fcb", "[I", true), ("MonitorBoard$Files", "record", "[B", true), ("MonitorBoard$Files", "sought", "[I", true), ("MonitorBoard$Files", "soughtDrive", "I", false), ("MonitorBoard$Files", "soughtNext", "I", false), ("MonitorBoard$Files", "soughtOnce", "Z", false), ("MonitorBoard$Files", "logged", "I", false), ("MonitorBoard$Files", "shut", "I", false), ("MonitorBoard$Files", "hand", "I", false), ("MonitorBoard$Files", "user", "I", false), ("MonitorBoard$Files", "drive", "I", false), ("MonitorBoard$Files", "fetched", "Z", false)]
def fwTy_4 : List FieldType := [.array .byte, .array .int, .array .boolean, .array .int, .array .byte, .array .int, .int, .int, .boolean, .int, .int, .int, .int, .int, .boolean]
abbrev fwC_4 : vw_C := (fwR_4, fun k => fwF_4.getD k ("", "", "", false), 15)
theorem fwCk_4 : fwCk fwC_4 (fun k => fwTy_4.getD k .int) := ⟨fwT_all [456, 458, 460, 462, 464, 466, 468, 470, 472, 474, 476, 478, 480, 482, 484] (by decide +kernel) (by decide +kernel), by decide +kernel, by decide +kernel⟩
def fwR_5 : String := "MonitorBoard$HexText"
def fwF_5 : List (String × String × String × Bool) := [("MonitorBoard$HexText", "image", "[B", true), ("MonitorBoard$HexText", "state", "I", false), ("MonitorBoard$HexText", "high", "I", false), ("MonitorBoard$HexText", "index", "I", false), ("MonitorBoard$HexText", "count", "I", false), ("MonitorBoard$HexText", "address", "I", false), ("MonitorBoard$HexText", "kind", "I", false), ("MonitorBoard$HexText", "sum", "I", false), ("MonitorBoard$HexText", "top", "I", false)]
def fwTy_5 : List FieldType := [.array .byte, .int, .int, .int, .int, .int, .int, .int, .int]
abbrev fwC_5 : vw_C := (fwR_5, fun k => fwF_5.getD k ("", "", "", false), 9)
theorem fwCk_5 : fwCk fwC_5 (fun k => fwTy_5.getD k .int) := ⟨fwT_all [552, 554, 556, 558, 560, 562, 564, 566, 568] (by decide +kernel) (by decide +kernel), by decide +kernel, by decide +kernel⟩
def fwR_6 : String := "MonitorBoard$Lister"
def fwF_6 : List (String × String × String × Bool) := [("MonitorBoard$Lister", "store", "[B", true), ("MonitorBoard$Lister", "text", "[B", true), ("MonitorBoard$Lister", "count", "I", false)]
def fwTy_6 : List FieldType := [.array .byte, .array .byte, .int]
abbrev fwC_6 : vw_C := (fwR_6, fun k => fwF_6.getD k ("", "", "", false), 3)
theorem fwCk_6 : fwCk fwC_6 (fun k => fwTy_6.getD k .int) := ⟨fwT_all [802, 804, 806] (by decide +kernel) (by decide +kernel), by decide +kernel, by decide +kernel⟩
def fwR_7 : String := "MonitorBoard$Monitor"
def fwF_7 : List (String × String × String × Bool) := [("MonitorBoard$Monitor", "processor", "LMonitorBoard$Processor;", true), ("MonitorBoard$Monitor", "console", "LMonitorBoard$Console;", true), ("MonitorBoard$Monitor", "files", "LMonitorBoard$Files;", true), ("MonitorBoard$Monitor", "before", "[I", true), ("MonitorBoard$Monitor", "data", "I", false), ("MonitorBoard$Monitor", "drive", "I", false), ("MonitorBoard$Monitor", "track", "I", false), ("MonitorBoard$Monitor", "sector", "I", false), ("MonitorBoard$Monitor", "atCommand", "Z", false)]
def fwTy_7 : List FieldType := [.object "MonitorBoard$Processor", .object "MonitorBoard$Console", .object "MonitorBoard$Files", .array .int, .int, .int, .int, .int, .boolean]
abbrev fwC_7 : vw_C := (fwR_7, fun k => fwF_7.getD k ("", "", "", false), 9)
theorem fwCk_7 : fwCk fwC_7 (fun k => fwTy_7.getD k .int) := ⟨fwT_all [510, 512, 514, 516, 518, 520, 522, 524, 526] (by decide +kernel) (by decide +kernel), by decide +kernel, by decide +kernel⟩
def fwR_8 : String := "MonitorBoard$Processor"
def fwF_8 : List (String × String × String × Bool) := [("MonitorBoard$Processor", "store", "[B", true), ("MonitorBoard$Processor", "\x72", "[I", true), ("MonitorBoard$Processor", "console", "LMonitorBoard$Console;", true), ("MonitorBoard$Processor", "flags", "I", false), ("MonitorBoard$Processor", "sp", "I", false), ("MonitorBoard$Processor", "pc", "I", false), ("MonitorBoard$Processor", "spent", "J", false), ("MonitorBoard$Processor", "stopped", "Z", false)]
def fwTy_8 : List FieldType := [.array .byte, .array .int, .object "MonitorBoard$Console", .int, .int, .int, .long, .boolean]
abbrev fwC_8 : vw_C := (fwR_8, fun k => fwF_8.getD k ("", "", "", false), 8)
theorem fwCk_8 : fwCk fwC_8 (fun k => fwTy_8.getD k .int) := ⟨fwT_all [387, 389, 391, 393, 395, 397, 399, 401] (by decide +kernel) (by decide +kernel), by decide +kernel, by decide +kernel⟩
def fwR_9 : String := "MonitorBoard$Reader"
def fwF_9 : List (String × String × String × Bool) := [("MonitorBoard$Reader", "files", "LMonitorBoard$Files;", true), ("MonitorBoard$Reader", "file", "[I", true), ("MonitorBoard$Reader", "record", "[B", true), ("MonitorBoard$Reader", "drive", "I", false), ("MonitorBoard$Reader", "extent", "I", false), ("MonitorBoard$Reader", "entry", "I", false), ("MonitorBoard$Reader", "next", "I", false), ("MonitorBoard$Reader", "count", "I", false)]
def fwTy_9 : List FieldType := [.object "MonitorBoard$Files", .array .int, .array .byte, .int, .int, .int, .int, .int]
abbrev fwC_9 : vw_C := (fwR_9, fun k => fwF_9.getD k ("", "", "", false), 8)
theorem fwCk_9 : fwCk fwC_9 (fun k => fwTy_9.getD k .int) := ⟨fwT_all [642, 644, 646, 648, 650, 652, 654, 656] (by decide +kernel) (by decide +kernel), by decide +kernel, by decide +kernel⟩
def fwR_10 : String := "MonitorBoard$Shell"
def fwF_10 : List (String × String × String × Bool) := [("MonitorBoard$Shell", "monitor", "LMonitorBoard$Monitor;", true), ("MonitorBoard$Shell", "processor", "LMonitorBoard$Processor;", true), ("MonitorBoard$Shell", "console", "LMonitorBoard$Console;", true), ("MonitorBoard$Shell", "files", "LMonitorBoard$Files;", true), ("MonitorBoard$Shell", "reader", "LMonitorBoard$Reader;", true), ("MonitorBoard$Shell", "hexText", "LMonitorBoard$HexText;", true), ("MonitorBoard$Shell", "names", "[J", true), ("MonitorBoard$Shell", "line", "[I", true), ("MonitorBoard$Shell", "wordFrom", "[I", true), ("MonitorBoard$Shell", "wordTo", "[I", true), ("MonitorBoard$Shell", "first", "[I", true), ("MonitorBoard$Shell", "second", "[I", true), ("MonitorBoard$Shell", "lineCount", "I", false), ("MonitorBoard$Shell", "firstFrom", "I", false), ("MonitorBoard$Shell", "firstTo", "I", false), ("MonitorBoard$Shell", "words", "I", false), ("MonitorBoard$Shell", "signsOfEqual", "I", false), ("MonitorBoard$Shell", "aheadOfEqual", "I", false), ("MonitorBoard$Shell", "starred", "Z", false)]
def fwTy_10 : List FieldType := [.object "MonitorBoard$Monitor", .object "MonitorBoard$Processor", .object "MonitorBoard$Console", .object "MonitorBoard$Files", .object "MonitorBoard$Reader", .object "MonitorBoard$HexText", .array .long, .array .int, .array .int, .array .int, .array .int, .array .int, .int, .int, .int, .int, .int, .int, .boolean]
abbrev fwC_10 : vw_C := (fwR_10, fun k => fwF_10.getD k ("", "", "", false), 19)
theorem fwCk_10 : fwCk fwC_10 (fun k => fwTy_10.getD k .int) := ⟨fwT_all [679, 681, 683, 685, 687, 689, 691, 693, 695, 697, 699, 701, 703, 705, 707, 709, 711, 713, 715] (by decide +kernel) (by decide +kernel), by decide +kernel, by decide +kernel⟩
abbrev fwCl : List vw_C := [fwC_0, fwC_1, fwC_2, fwC_3, fwC_4, fwC_5, fwC_6, fwC_7, fwC_8, fwC_9, fwC_10]
def fwTyOf (ci : Nat) : Nat → FieldType := fun k => (([fwTy_0, fwTy_1, fwTy_2, fwTy_3, fwTy_4, fwTy_5, fwTy_6, fwTy_7, fwTy_8, fwTy_9, fwTy_10] : List (List FieldType)).getD ci []).getD k .int
theorem fwCl_ok : ∀ (ci : Nat) (q : vw_C), fwCl[ci]? = some q → fwCk q (fwTyOf ci)
  | 0, _, h => by cases h; exact fwCk_0
  | 1, _, h => by cases h; exact fwCk_1
  | 2, _, h => by cases h; exact fwCk_2
  | 3, _, h => by cases h; exact fwCk_3
  | 4, _, h => by cases h; exact fwCk_4
  | 5, _, h => by cases h; exact fwCk_5
  | 6, _, h => by cases h; exact fwCk_6
  | 7, _, h => by cases h; exact fwCk_7
  | 8, _, h => by cases h; exact fwCk_8
  | 9, _, h => by cases h; exact fwCk_9
  | 10, _, h => by cases h; exact fwCk_10
  | n + 11, _, h => by simp [fwCl] at h
/-- the array types there are -/
def fwAT : List FieldType := [.byte, .int, .boolean, .long]
end
section
/-! texts and tables, by program (wip/whole/consts.py) -/
def fwNs : Nat := 51
def fwSl : List Nat := [49, 327, 3, 0, 10, 2, 3, 16, 3, 3, 12, 8, 5, 10, 7, 8, 11, 7, 8, 8, 3, 3, 3, 2, 1, 2, 13, 3, 3, 3, 8, 3, 4, 4, 4, 4, 4, 7, 4, 6, 541, 1, 1, 1, 3, 3, 3, 2, 2, 2, 11]
def fwSb : List (List Int32) := [[68, 73, 82, 32, 69, 82, 65, 32, 82, 69, 78, 32, 84, 89, 80, 69, 32, 83, 65, 86, 69, 32, 85, 83, 69, 82, 32, 68, 85, 77, 80, 32, 83, 84, 65, 84, 32, 67, 79, 80, 89, 32, 72, 69, 88, 76, 79, 65, 68],
  [72, 76, 84, 32, 77, 79, 86, 32, 77, 86, 73, 32, 76, 88, 73, 32, 73, 78, 88, 32, 68, 67, 88, 32, 68, 65, 68, 32, 83, 84, 65, 88, 32, 76, 68, 65, 88, 32, 83, 72, 76, 68, 32, 76, 72, 76, 68, 32, 83, 84, 65, 32, 76, 68, 65, 32, 73, 78, 82, 32, 68, 67, 82, 32, 65, 68, 68, 32, 65, 68, 67, 32, 83, 85, 66, 32, 83, 66, 66, 32, 65, 78, 65, 32, 88, 82, 65, 32, 79, 82, 65, 32, 67, 77, 80, 32, 65, 68, 73, 32, 65, 67, 73, 32, 83, 85, 73, 32, 83, 66, 73, 32, 65, 78, 73, 32, 88, 82, 73, 32, 79, 82, 73, 32, 67, 80, 73, 32, 82, 76, 67, 32, 82, 82, 67, 32, 82, 65, 76, 32, 82, 65, 82, 32, 68, 65, 65, 32, 67, 77, 65, 32, 83, 84, 67, 32, 67, 77, 67, 32, 74, 77, 80, 32, 74, 78, 90, 32, 74, 90, 32, 74, 78, 67, 32, 74, 67, 32, 74, 80, 79, 32, 74, 80, 69, 32, 74, 80, 32, 74, 77, 32, 67, 65, 76, 76, 32, 67, 78, 90, 32, 67, 90, 32, 67, 78, 67, 32, 67, 67, 32, 67, 80, 79, 32, 67, 80, 69, 32, 67, 80, 32, 67, 77, 32, 82, 69, 84, 32, 82, 78, 90, 32, 82, 90, 32, 82, 78, 67, 32, 82, 67, 32, 82, 80, 79, 32, 82, 80, 69, 32, 82, 80, 32, 82, 77, 32, 82, 83, 84, 32, 80, 85, 83, 72, 32, 80, 79, 80, 32, 88, 84, 72, 76, 32, 88, 67, 72, 71, 32, 80, 67, 72, 76, 32, 83, 80, 72, 76, 32, 79, 85, 84, 32, 73, 78, 32, 68, 73, 32, 69, 73, 32, 78, 79, 80, 32, 79, 82, 71, 32, 69, 81, 85, 32, 68, 66, 32, 68, 87, 32, 68, 83, 32, 69, 78, 68],
  [54, 50, 75],
  [],
  [46, 58, 59, 44, 61, 60, 62, 42, 91, 93],
  [58, 32],
  [32, 58, 32],
  [48, 49, 50, 51, 52, 53, 54, 55, 56, 57, 65, 66, 67, 68, 69, 70],
  [72, 69, 88],
  [67, 79, 77],
  [66, 100, 111, 115, 32, 69, 114, 114, 32, 79, 110, 32],
  [58, 32, 83, 101, 108, 101, 99, 116],
  [58, 32, 82, 47, 79],
  [58, 32, 70, 105, 108, 101, 32, 82, 47, 79],
  [78, 111, 32, 102, 105, 108, 101],
  [78, 111, 32, 115, 112, 97, 99, 101],
  [70, 105, 108, 101, 32, 101, 120, 105, 115, 116, 115],
  [66, 97, 100, 32, 104, 101, 120],
  [66, 97, 100, 32, 108, 111, 97, 100],
  [66, 67, 68, 69, 72, 76, 77, 65],
  [66, 68, 72],
  [68, 66, 32],
  [80, 83, 87],
  [83, 80],
  [58],
  [13, 10],
  [58, 48, 48, 48, 48, 48, 48, 48, 49, 70, 70, 13, 10],
  [68, 73, 82],
  [69, 82, 65],
  [82, 47, 79],
  [70, 105, 108, 101, 32, 82, 47, 79],
  [82, 69, 78],
  [84, 89, 80, 69],
  [83, 65, 86, 69],
  [68, 85, 77, 80],
  [83, 84, 65, 84],
  [67, 79, 80, 89],
  [72, 69, 88, 76, 79, 65, 68],
  [85, 83, 69, 82],
  [83, 101, 108, 101, 99, 116],
  [78, 79, 80, 110, 48, 48, 32, 82, 76, 67, 110, 48, 55, 32, 82, 82, 67, 110, 48, 70, 32, 82, 65, 76, 110, 49, 55, 32, 82, 65, 82, 110, 49, 70, 32, 68, 65, 65, 110, 50, 55, 32, 67, 77, 65, 110, 50, 70, 32, 83, 84, 67, 110, 51, 55, 32, 67, 77, 67, 110, 51, 70, 32, 72, 76, 84, 110, 55, 54, 32, 82, 69, 84, 110, 67, 57, 32, 88, 84, 72, 76, 110, 69, 51, 32, 88, 67, 72, 71, 110, 69, 66, 32, 80, 67, 72, 76, 110, 69, 57, 32, 83, 80, 72, 76, 110, 70, 57, 32, 68, 73, 110, 70, 51, 32, 69, 73, 110, 70, 66, 32, 82, 78, 90, 110, 67, 48, 32, 82, 90, 110, 67, 56, 32, 82, 78, 67, 110, 68, 48, 32, 82, 67, 110, 68, 56, 32, 82, 80, 79, 110, 69, 48, 32, 82, 80, 69, 110, 69, 56, 32, 82, 80, 110, 70, 48, 32, 82, 77, 110, 70, 56, 32, 74, 77, 80, 119, 67, 51, 32, 67, 65, 76, 76, 119, 67, 68, 32, 83, 72, 76, 68, 119, 50, 50, 32, 76, 72, 76, 68, 119, 50, 65, 32, 83, 84, 65, 119, 51, 50, 32, 76, 68, 65, 119, 51, 65, 32, 74, 78, 90, 119, 67, 50, 32, 74, 90, 119, 67, 65, 32, 74, 78, 67, 119, 68, 50, 32, 74, 67, 119, 68, 65, 32, 74, 80, 79, 119, 69, 50, 32, 74, 80, 69, 119, 69, 65, 32, 74, 80, 119, 70, 50, 32, 74, 77, 119, 70, 65, 32, 67, 78, 90, 119, 67, 52, 32, 67, 90, 119, 67, 67, 32, 67, 78, 67, 119, 68, 52, 32, 67, 67, 119, 68, 67, 32, 67, 80, 79, 119, 69, 52, 32, 67, 80, 69, 119, 69, 67, 32, 67, 80, 119, 70, 52, 32, 67, 77, 119, 70, 67, 32, 65, 68, 73, 98, 67, 54, 32, 65, 67, 73, 98, 67, 69, 32, 83, 85, 73, 98, 68, 54, 32, 83, 66, 73, 98, 68, 69, 32, 65, 78, 73, 98, 69, 54, 32, 88, 82, 73, 98, 69, 69, 32, 79, 82, 73, 98, 70, 54, 32, 67, 80, 73, 98, 70, 69, 32, 79, 85, 84, 98, 68, 51, 32, 73, 78, 98, 68, 66, 32, 65, 68, 68, 115, 56, 48, 32, 65, 68, 67, 115, 56, 56, 32, 83, 85, 66, 115, 57, 48, 32, 83, 66, 66, 115, 57, 56, 32, 65, 78, 65, 115, 65, 48, 32, 88, 82, 65, 115, 65, 56, 32, 79, 82, 65, 115, 66, 48, 32, 67, 77, 80, 115, 66, 56, 32, 73, 78, 82, 100, 48, 52, 32, 68, 67, 82, 100, 48, 53, 32, 73, 78, 88, 112, 48, 51, 32, 68, 67, 88, 112, 48, 66, 32, 68, 65, 68, 112, 48, 57, 32, 80, 85, 83, 72, 113, 67, 53, 32, 80, 79, 80, 113, 67, 49, 32, 83, 84, 65, 88, 120, 48, 50, 32, 76, 68, 65, 88, 120, 48, 65, 32, 77, 79, 86, 118, 52, 48, 32, 77, 86, 73, 105, 48, 54, 32, 76, 88, 73, 108, 48, 49, 32, 82, 83, 84, 114, 67, 55, 32],
  [66],
  [68],
  [72],
  [69, 78, 68],
  [79, 82, 71],
  [69, 81, 85],
  [68, 83],
  [68, 66],
  [68, 87],
  [58, 48, 48, 48, 48, 48, 48, 48, 49, 70, 70]]
/-- where a text stands: class, entry, text, its number -/
def fwSr : List (String × Nat × String × Nat) := [("MonitorBoard$Shell", 18, "DIR ERA REN TYPE SAVE USER DUMP STAT COPY HEXLOAD", 0), ("MonitorBoard$Assembler", 11, "HLT MOV MVI LXI INX DCX DAD STAX LDAX SHLD LHLD STA LDA INR DCR ADD ADC SUB SBB ANA XRA ORA CMP ADI ACI SUI SBI ANI XRI ORI CPI RLC RRC RAL RAR DAA CMA STC CMC JMP JNZ JZ JNC JC JPO JPE JP JM CALL CNZ CZ CNC CC CPO CPE CP CM RET RNZ RZ RNC RC RPO RPE RP RM RST PUSH POP XTHL XCHG PCHL SPHL OUT IN DI EI NOP ORG EQU DB DW DS END", 1), ("MonitorBoard$Monitor", 75, "62K", 2), ("MonitorBoard$Monitor", 111, "", 3), ("MonitorBoard$Shell", 209, ".:;,=<>*[]", 4), ("MonitorBoard$Shell", 136, "", 3), ("MonitorBoard$Shell", 269, ": ", 5), ("MonitorBoard$Shell", 274, " : ", 6), ("MonitorBoard$Console", 43, "0123456789ABCDEF", 7), ("MonitorBoard$Shell", 360, "HEX", 8), ("MonitorBoard$HexText", 45, "0123456789ABCDEF", 7), ("MonitorBoard$Shell", 382, "COM", 9), ("MonitorBoard$Monitor", 122, "Bdos Err On ", 10), ("MonitorBoard$Monitor", 125, ": Select", 11), ("MonitorBoard$Monitor", 130, ": R/O", 12), ("MonitorBoard$Monitor", 132, ": File R/O", 13), ("MonitorBoard$Shell", 148, "No file", 14), ("MonitorBoard$Shell", 150, "No space", 15), ("MonitorBoard$Shell", 152, "File exists", 16), ("MonitorBoard$Shell", 154, "Bad hex", 17), ("MonitorBoard$Shell", 156, "Bad load", 18), ("MonitorBoard$Assembler", 178, "BCDEHLMA", 19), ("MonitorBoard$Assembler", 187, "BDH", 20), ("MonitorBoard$Lister", 78, "HLT MOV MVI LXI INX DCX DAD STAX LDAX SHLD LHLD STA LDA INR DCR ADD ADC SUB SBB ANA XRA ORA CMP ADI ACI SUI SBI ANI XRI ORI CPI RLC RRC RAL RAR DAA CMA STC CMC JMP JNZ JZ JNC JC JPO JPE JP JM CALL CNZ CZ CNC CC CPO CPE CP CM RET RNZ RZ RNC RC RPO RPE RP RM RST PUSH POP XTHL XCHG PCHL SPHL OUT IN DI EI NOP ORG EQU DB DW DS END", 1), ("MonitorBoard$Lister", 72, "DB ", 21), ("MonitorBoard$Lister", 80, "BCDEHLMA", 19), ("MonitorBoard$Lister", 91, "0123456789ABCDEF", 7), ("MonitorBoard$Lister", 82, "BDH", 20), ("MonitorBoard$Lister", 84, "PSW", 22), ("MonitorBoard$Lister", 86, "SP", 23), ("MonitorBoard", 208, ":", 24), ("MonitorBoard", 215, "0123456789ABCDEF", 7), ("MonitorBoard", 213, "\r\n", 25), ("MonitorBoard", 202, ":00000001FF\r\n", 26), ("MonitorBoardModel", 262, "62K", 2), ("MonitorBoardModel", 466, "DIR", 27), ("MonitorBoardModel", 325, ": ", 5), ("MonitorBoardModel", 529, " : ", 6), ("MonitorBoardModel", 464, "No file", 14), ("MonitorBoardModel", 475, "ERA", 28), ("MonitorBoardModel", 333, "R/O", 29), ("MonitorBoardModel", 323, "Bdos Err On ", 10), ("MonitorBoardModel", 343, "File R/O", 30), ("MonitorBoardModel", 480, "REN", 31), ("MonitorBoardModel", 534, "File exists", 16), ("MonitorBoardModel", 485, "TYPE", 32), ("MonitorBoardModel", 490, "SAVE", 33), ("MonitorBoardModel", 570, "No space", 15), ("MonitorBoardModel", 495, "DUMP", 34), ("MonitorBoardModel", 500, "STAT", 35), ("MonitorBoardModel", 505, "COPY", 36), ("MonitorBoardModel", 510, "HEXLOAD", 37), ("MonitorBoardModel", 594, "Bad hex", 17), ("MonitorBoardModel", 515, "USER", 38), ("MonitorBoardModel", 596, "Bad load", 18), ("MonitorBoardModel", 327, "Select", 39), ("MonitorBoardModel", 666, "NOPn00 RLCn07 RRCn0F RALn17 RARn1F DAAn27 CMAn2F STCn37 CMCn3F HLTn76 RETnC9 XTHLnE3 XCHGnEB PCHLnE9 SPHLnF9 DInF3 EInFB RNZnC0 RZnC8 RNCnD0 RCnD8 RPOnE0 RPEnE8 RPnF0 RMnF8 JMPwC3 CALLwCD SHLDw22 LHLDw2A STAw32 LDAw3A JNZwC2 JZwCA JNCwD2 JCwDA JPOwE2 JPEwEA JPwF2 JMwFA CNZwC4 CZwCC CNCwD4 CCwDC CPOwE4 CPEwEC CPwF4 CMwFC ADIbC6 ACIbCE SUIbD6 SBIbDE ANIbE6 XRIbEE ORIbF6 CPIbFE OUTbD3 INbDB ADDs80 ADCs88 SUBs90 SBBs98 ANAsA0 XRAsA8 ORAsB0 CMPsB8 INRd04 DCRd05 INXp03 DCXp0B DADp09 PUSHqC5 POPqC1 STAXx02 LDAXx0A MOVv40 MVIi06 LXIl01 RSTrC7 ", 40), ("MonitorBoardModel", 728, "BCDEHLMA", 19), ("MonitorBoardModel", 730, "B", 41), ("MonitorBoardModel", 732, "D", 42), ("MonitorBoardModel", 734, "H", 43), ("MonitorBoardModel", 736, "SP", 23), ("MonitorBoardModel", 738, "PSW", 22), ("MonitorBoardModel", 689, "END", 44), ("MonitorBoardModel", 695, "ORG", 45), ("MonitorBoardModel", 700, "EQU", 46), ("MonitorBoardModel", 702, "DS", 47), ("MonitorBoardModel", 704, "DB", 48), ("MonitorBoardModel", 712, "DW", 49), ("MonitorBoardModel", 776, "BDH", 20), ("MonitorBoardModel", 789, "DB ", 21), ("MonitorBoardModel", 806, ":00000001FF", 50)]
/-- tables: class, name, number, contents -/
def fwTb : List (String × String × Nat × List Int32) := [("MonitorBoard$Codes", "CODES", 51, [118, 64, 6, 1, 3, 11, 9, 2, 10, 34, 42, 50, 58, 4, 5, 128, 136, 144, 152, 160, 168, 176, 184, 198, 206, 214, 222, 230, 238, 246, 254, 7, 15, 23, 31, 39, 47, 55, 63, 195, 194, 202, 210, 218, 226, 234, 242, 250, 205, 196, 204, 212, 220, 228, 236, 244, 252, 201, 192, 200, 208, 216, 224, 232, 240, 248, 199, 197, 193, 227, 235, 233, 249, 211, 219, 243, 251, 0, 0, 0, 0, 0, 0, 0]),
  ("MonitorBoard$Codes", "KINDS", 52, [0, 1, 2, 3, 4, 4, 4, 5, 5, 6, 6, 6, 6, 7, 7, 8, 8, 8, 8, 8, 8, 8, 8, 9, 9, 9, 9, 9, 9, 9, 9, 0, 0, 0, 0, 0, 0, 0, 0, 6, 6, 6, 6, 6, 6, 6, 6, 6, 6, 6, 6, 6, 6, 6, 6, 6, 6, 0, 0, 0, 0, 0, 0, 0, 0, 0, 10, 11, 11, 0, 0, 0, 0, 9, 9, 0, 0, 0, 12, 13, 14, 15, 16, 17]),
  ("MonitorBoard$Codes", "MASKS", 53, [255, 192, 199, 207, 207, 239, 255, 199, 248, 255, 199, 207]),
  ("MonitorBoard$Codes", "SIZES", 54, [1, 1, 2, 3, 1, 1, 3, 1, 1, 2, 1, 1]),
  ("MonitorBoard$Monitor", "DISK_FACTS", 55, [26, 0, 3, 7, 0, 242, 0, 63, 0, 192, 0, 16, 0, 2, 0])]
/-- statics that are numbers: class, name, descriptor, value -/
def fwSi : List (String × String × String × Int32) := [("java/lang/String", "COMPACT_STRINGS", "Z", 1), ("java/lang/StringUTF16", "$assertionsDisabled", "Z", 1), ("java/lang/StringUTF16", "HI_BYTE_SHIFT", "I", 0), ("java/lang/StringUTF16", "LO_BYTE_SHIFT", "I", 8)]
/-- links of tables, of such statics, of String.value (0) and String.coder (1): class, entry, which -/
def fwSg : List (String × Nat × Nat) := [("MonitorBoard$Monitor", 271, 4), ("MonitorBoard$Assembler", 129, 1), ("MonitorBoard$Assembler", 145, 0), ("MonitorBoard$Assembler", 166, 3), ("MonitorBoard$Lister", 59, 1), ("MonitorBoard$Lister", 63, 2), ("MonitorBoard$Lister", 66, 0)]
def fwSn : List (String × Nat × Nat) := [("java/lang/String", 38, 0), ("java/lang/StringUTF16", 44, 1), ("java/lang/StringUTF16", 59, 2), ("java/lang/StringUTF16", 63, 3)]
def fwSf : List (String × Nat × Nat) := [("java/lang/String", 9, 0), ("java/lang/String", 15, 1)]
theorem fwSg_in : ∀ w ∈ fwSg.map (fun q => Cond.fieldLink q.1 q.2.1 (fwTb.getD q.2.2 ("", "", 0, [])).1 (fwTb.getD q.2.2 ("", "", 0, [])).2.1 "[I"), w ∈ fwT := fwT_all [1473, 1722, 1794, 1822, 1858, 1859, 1861] (by decide +kernel) (by decide +kernel)
theorem fwSn_in : ∀ w ∈ fwSn.map (fun q => Cond.fieldLink q.1 q.2.1 (fwSi.getD q.2.2 ("", "", "", 0)).1 (fwSi.getD q.2.2 ("", "", "", 0)).2.1 (fwSi.getD q.2.2 ("", "", "", 0)).2.2.1), w ∈ fwT := fwT_all [583, 617, 619, 621] (by decide +kernel) (by decide +kernel)
theorem fwSf_in : ∀ w ∈ fwSf.map (fun q => Cond.fieldLink q.1 q.2.1 "java/lang/String" (if q.2.2 = 0 then "value" else "coder") (if q.2.2 = 0 then "[B" else "B")), w ∈ fwT := fwT_all [2858, 2859] (by decide +kernel) (by decide +kernel)
theorem fwSf_01 : ∀ q ∈ fwSf, q.2.2 = 0 ∨ q.2.2 = 1 := by decide +kernel
theorem fwSg_lt : ∀ q ∈ fwSg, q.2.2 < fwTb.length := by decide +kernel
theorem fwSn_lt : ∀ q ∈ fwSn, q.2.2 < fwSi.length := by decide +kernel
/-- links to private members of a nest: class, entry, method, host -/
def fwNl : List (String × Nat × MethodName × String) := [("MonitorBoard", 22, ⟨"MonitorBoard$Console", "<init>", "()V"⟩, "MonitorBoard"), ("MonitorBoard$Shell", 11, ⟨"MonitorBoard$HexText", "<init>", "()V"⟩, "MonitorBoard"), ("MonitorBoard$Shell", 20, ⟨"MonitorBoard", "packedWords", "(Ljava/lang/String;I)[J"⟩, "MonitorBoard"), ("MonitorBoard$Assembler", 13, ⟨"MonitorBoard", "packedWords", "(Ljava/lang/String;I)[J"⟩, "MonitorBoard"), ("MonitorBoard$Assembler", 43, ⟨"MonitorBoard", "capital", "(I)I"⟩, "MonitorBoard"), ("MonitorBoard$Shell", 169, ⟨"MonitorBoard", "capital", "(I)I"⟩, "MonitorBoard"), ("MonitorBoard$Shell", 192, ⟨"MonitorBoard", "packed", "(JI)J"⟩, "MonitorBoard"), ("MonitorBoard$Shell", 196, ⟨"MonitorBoard", "indexOfWord", "([JIJ)I"⟩, "MonitorBoard"), ("MonitorBoard$Assembler", 118, ⟨"MonitorBoard", "indexOfWord", "([JIJ)I"⟩, "MonitorBoard")]
end
section
/-! links of fields, and constants, by program (wip/whole/links.py) -/
/-- class, entry, the number of the field's class, its slot -/
def fwFl : List (String × Nat × Nat × Nat) := [("MonitorBoard$Console", 9, 3, 0), ("MonitorBoard$Console", 15, 3, 1), ("MonitorBoard$Console", 18, 3, 2), ("MonitorBoard$Shell", 168, 3, 2), ("MonitorBoard$Monitor", 245, 3, 2), ("MonitorBoard$Console", 22, 3, 3), ("MonitorBoard$Console", 26, 3, 4), ("MonitorBoard$Console", 54, 3, 5), ("MonitorBoard$Monitor", 70, 3, 6), ("MonitorBoard", 91, 3, 6), ("MonitorBoard$Console", 51, 3, 6), ("MonitorBoard$Shell", 161, 3, 7), ("MonitorBoard$Console", 60, 3, 7), ("MonitorBoard$Monitor", 242, 3, 7), ("MonitorBoard$Console", 57, 3, 8), ("MonitorBoard$Console", 63, 3, 9), ("MonitorBoard", 157, 3, 9), ("MonitorBoard$Monitor", 236, 3, 9), ("MonitorBoard$Processor", 10, 8, 0), ("MonitorBoard", 72, 8, 0), ("MonitorBoard$Monitor", 30, 8, 0), ("MonitorBoard$Shell", 378, 8, 0), ("MonitorBoard$Processor", 16, 8, 1), ("MonitorBoard$Monitor", 142, 8, 1), ("MonitorBoard", 143, 8, 1), ("MonitorBoard$Processor", 24, 8, 2), ("MonitorBoard$Processor", 20, 8, 3), ("MonitorBoard", 128, 8, 3), ("MonitorBoard$Processor", 34, 8, 4), ("MonitorBoard", 131, 8, 4), ("MonitorBoard$Shell", 400, 8, 4), ("MonitorBoard$Monitor", 105, 8, 5), ("MonitorBoard", 115, 8, 5), ("MonitorBoard$Processor", 74, 8, 5), ("MonitorBoard$Shell", 406, 8, 5), ("MonitorBoard$Monitor", 134, 8, 6), ("MonitorBoard", 103, 8, 6), ("MonitorBoard$Processor", 63, 8, 6), ("MonitorBoard$Shell", 310, 8, 6), ("MonitorBoard$Monitor", 45, 8, 7), ("MonitorBoard", 99, 8, 7), ("MonitorBoard$Processor", 91, 8, 7), ("MonitorBoard$Files", 10, 4, 0), ("MonitorBoard$Reader", 58, 4, 0), ("MonitorBoard$Monitor", 202, 4, 0), ("MonitorBoard$Shell", 232, 4, 0), ("MonitorBoard", 193, 4, 0), ("MonitorBoard$Files", 16, 4, 1), ("MonitorBoard$Reader", 71, 4, 1), ("MonitorBoard$Files", 20, 4, 2), ("MonitorBoard$Monitor", 266, 4, 2), ("MonitorBoard$Files", 24, 4, 3), ("MonitorBoard$Monitor", 208, 4, 3), ("MonitorBoard$Shell", 276, 4, 3), ("MonitorBoard$Files", 27, 4, 4), ("MonitorBoard$Monitor", 211, 4, 4), ("MonitorBoard$Shell", 341, 4, 4), ("MonitorBoard$Files", 30, 4, 5), ("MonitorBoard$Files", 147, 4, 6), ("MonitorBoard$Files", 150, 4, 7), ("MonitorBoard$Files", 52, 4, 8), ("MonitorBoard$Files", 48, 4, 9), ("MonitorBoard$Monitor", 254, 4, 9), ("MonitorBoard$Monitor", 49, 4, 10), ("MonitorBoard$Files", 128, 4, 10), ("MonitorBoard$Monitor", 55, 4, 11), ("MonitorBoard", 134, 4, 11), ("MonitorBoard$Files", 121, 4, 11), ("MonitorBoard$Shell", 227, 4, 11), ("MonitorBoard$Monitor", 58, 4, 12), ("MonitorBoard", 137, 4, 12), ("MonitorBoard$Files", 64, 4, 12), ("MonitorBoard$Shell", 322, 4, 12), ("MonitorBoard$Monitor", 124, 4, 13), ("MonitorBoard$Files", 111, 4, 13), ("MonitorBoard$Files", 67, 4, 14), ("MonitorBoard$Monitor", 217, 4, 14), ("MonitorBoard$Monitor", 15, 7, 0), ("MonitorBoard$Shell", 48, 7, 0), ("MonitorBoard$Monitor", 19, 7, 1), ("MonitorBoard$Shell", 55, 7, 1), ("MonitorBoard$Monitor", 23, 7, 2), ("MonitorBoard$Shell", 60, 7, 2), ("MonitorBoard$Monitor", 11, 7, 3), ("MonitorBoard$Monitor", 99, 7, 4), ("MonitorBoard", 140, 7, 4), ("MonitorBoard$Shell", 409, 7, 4), ("MonitorBoard$Monitor", 61, 7, 5), ("MonitorBoard$Monitor", 64, 7, 6), ("MonitorBoard$Monitor", 67, 7, 7), ("MonitorBoard$Monitor", 108, 7, 8), ("MonitorBoard", 108, 7, 8), ("MonitorBoard$Shell", 412, 7, 8), ("MonitorBoard$HexText", 10, 5, 0), ("MonitorBoard$Shell", 375, 5, 0), ("MonitorBoard$HexText", 22, 5, 1), ("MonitorBoard$HexText", 36, 5, 2), ("MonitorBoard$HexText", 39, 5, 3), ("MonitorBoard$HexText", 56, 5, 4), ("MonitorBoard$HexText", 59, 5, 5), ("MonitorBoard$HexText", 62, 5, 6), ("MonitorBoard$HexText", 42, 5, 7), ("MonitorBoard$HexText", 26, 5, 8), ("MonitorBoard$Reader", 19, 9, 0), ("MonitorBoard$Reader", 9, 9, 1), ("MonitorBoard$Reader", 15, 9, 2), ("MonitorBoard$Shell", 307, 9, 2), ("MonitorBoard$Reader", 29, 9, 3), ("MonitorBoard$Reader", 45, 9, 4), ("MonitorBoard$Reader", 42, 9, 5), ("MonitorBoard$Reader", 48, 9, 6), ("MonitorBoard$Reader", 51, 9, 7), ("MonitorBoard$Shell", 44, 10, 0), ("MonitorBoard$Shell", 54, 10, 1), ("MonitorBoard$Shell", 59, 10, 2), ("MonitorBoard$Shell", 64, 10, 3), ("MonitorBoard$Shell", 70, 10, 4), ("MonitorBoard$Shell", 12, 10, 5), ("MonitorBoard$Shell", 24, 10, 6), ("MonitorBoard$Shell", 28, 10, 7), ("MonitorBoard$Shell", 32, 10, 8), ("MonitorBoard$Shell", 35, 10, 9), ("MonitorBoard$Shell", 38, 10, 10), ("MonitorBoard$Shell", 41, 10, 11), ("MonitorBoard$Shell", 123, 10, 12), ("MonitorBoard$Shell", 119, 10, 13), ("MonitorBoard$Shell", 142, 10, 14), ("MonitorBoard$Shell", 179, 10, 15), ("MonitorBoard$Shell", 182, 10, 16), ("MonitorBoard$Shell", 185, 10, 17), ("MonitorBoard$Shell", 188, 10, 18), ("MonitorBoard$Assembler", 36, 2, 0), ("MonitorBoard$Assembler", 40, 2, 1), ("MonitorBoard$Assembler", 17, 2, 2), ("MonitorBoard$Assembler", 23, 2, 3), ("MonitorBoard$Assembler", 27, 2, 4), ("MonitorBoard$Assembler", 30, 2, 5), ("MonitorBoard$Assembler", 33, 2, 6), ("MonitorBoard$Assembler", 57, 2, 7), ("MonitorBoard$Assembler", 94, 2, 8), ("MonitorBoard$Assembler", 53, 2, 9), ("MonitorBoard$Assembler", 67, 2, 10), ("MonitorBoard$Assembler", 60, 2, 11), ("MonitorBoard$Assembler", 70, 2, 12), ("MonitorBoard$Assembler", 73, 2, 13), ("MonitorBoard$Assembler", 88, 2, 14), ("MonitorBoard$Assembler", 91, 2, 15), ("MonitorBoard$Assembler", 63, 2, 16), ("MonitorBoard$Assembler", 76, 2, 17), ("MonitorBoard$Assembler", 105, 2, 18), ("MonitorBoard$Assembler", 111, 2, 19), ("MonitorBoard$Assembler", 108, 2, 20), ("MonitorBoard$Lister", 9, 6, 0), ("MonitorBoard$Lister", 15, 6, 1), ("MonitorBoard$Lister", 18, 6, 2), ("MonitorBoard", 9, 0, 0), ("MonitorBoard", 14, 0, 1), ("MonitorBoard", 17, 0, 2), ("MonitorBoard", 23, 0, 3), ("MonitorBoard", 32, 0, 4), ("MonitorBoard", 39, 0, 5), ("MonitorBoard", 48, 0, 6), ("MonitorBoard", 57, 0, 7), ("MonitorBoard", 66, 0, 8), ("MonitorBoard", 76, 0, 9), ("MonitorBoard", 83, 0, 10), ("MonitorBoard", 164, 0, 11), ("MonitorBoardModel", 10, 1, 0), ("MonitorBoardModel", 15, 1, 1), ("MonitorBoardModel", 18, 1, 2), ("MonitorBoardModel", 21, 1, 3), ("MonitorBoardModel", 24, 1, 4), ("MonitorBoardModel", 28, 1, 5), ("MonitorBoardModel", 80, 1, 6), ("MonitorBoardModel", 86, 1, 7), ("MonitorBoardModel", 83, 1, 8), ("MonitorBoardModel", 132, 1, 9), ("MonitorBoardModel", 126, 1, 10), ("MonitorBoardModel", 129, 1, 11), ("MonitorBoardModel", 31, 1, 12), ("MonitorBoardModel", 93, 1, 13), ("MonitorBoardModel", 96, 1, 14), ("MonitorBoardModel", 99, 1, 15), ("MonitorBoardModel", 89, 1, 16), ("MonitorBoardModel", 120, 1, 17), ("MonitorBoardModel", 116, 1, 18), ("MonitorBoardModel", 35, 1, 19), ("MonitorBoardModel", 233, 1, 20), ("MonitorBoardModel", 102, 1, 21), ("MonitorBoardModel", 105, 1, 22), ("MonitorBoardModel", 108, 1, 23), ("MonitorBoardModel", 250, 1, 24), ("MonitorBoardModel", 253, 1, 25), ("MonitorBoardModel", 256, 1, 26), ("MonitorBoardModel", 272, 1, 27), ("MonitorBoardModel", 247, 1, 28), ("MonitorBoardModel", 38, 1, 29), ("MonitorBoardModel", 42, 1, 30), ("MonitorBoardModel", 278, 1, 31), ("MonitorBoardModel", 45, 1, 32), ("MonitorBoardModel", 355, 1, 33), ("MonitorBoardModel", 358, 1, 34), ("MonitorBoardModel", 48, 1, 35), ("MonitorBoardModel", 52, 1, 36), ("MonitorBoardModel", 311, 1, 37), ("MonitorBoardModel", 314, 1, 38), ("MonitorBoardModel", 320, 1, 39), ("MonitorBoardModel", 55, 1, 40), ("MonitorBoardModel", 413, 1, 41), ("MonitorBoardModel", 425, 1, 42), ("MonitorBoardModel", 58, 1, 43), ("MonitorBoardModel", 431, 1, 44), ("MonitorBoardModel", 434, 1, 45), ("MonitorBoardModel", 443, 1, 46), ("MonitorBoardModel", 437, 1, 47), ("MonitorBoardModel", 452, 1, 48), ("MonitorBoardModel", 536, 1, 49), ("MonitorBoardModel", 539, 1, 50), ("MonitorBoardModel", 542, 1, 51), ("MonitorBoardModel", 545, 1, 52), ("MonitorBoardModel", 548, 1, 53), ("MonitorBoardModel", 62, 1, 54), ("MonitorBoardModel", 588, 1, 55), ("MonitorBoardModel", 572, 1, 56), ("MonitorBoardModel", 575, 1, 57), ("MonitorBoardModel", 581, 1, 58), ("MonitorBoardModel", 65, 1, 59), ("MonitorBoardModel", 68, 1, 60), ("MonitorBoardModel", 71, 1, 61), ("MonitorBoardModel", 620, 1, 62), ("MonitorBoardModel", 630, 1, 63), ("MonitorBoardModel", 633, 1, 64), ("MonitorBoardModel", 599, 1, 65), ("MonitorBoardModel", 602, 1, 66), ("MonitorBoardModel", 614, 1, 67), ("MonitorBoardModel", 605, 1, 68), ("MonitorBoardModel", 624, 1, 69), ("MonitorBoardModel", 74, 1, 70), ("MonitorBoardModel", 642, 1, 71), ("MonitorBoardModel", 639, 1, 72), ("MonitorBoardModel", 668, 1, 73), ("MonitorBoardModel", 674, 1, 74), ("MonitorBoardModel", 677, 1, 75), ("MonitorBoardModel", 680, 1, 76), ("MonitorBoardModel", 627, 1, 77), ("MonitorBoardModel", 800, 1, 78)]
def fwFlW (q : String × Nat × Nat × Nat) : Cond := .fieldLink q.1 q.2.1 (fwCl.getD q.2.2.1 fwC_0).1 ((fwCl.getD q.2.2.1 fwC_0).2.1 q.2.2.2).2.1 ((fwCl.getD q.2.2.1 fwC_0).2.1 q.2.2.2).2.2.1
theorem fwFl_in : ∀ w ∈ fwFl.map fwFlW, w ∈ fwT := fwT_all [315, 316, 317, 318, 319, 320, 321, 322, 323, 324, 325, 326, 327, 328, 329, 330, 331, 332, 363, 364, 365, 366, 367, 368, 369, 370, 371, 372, 373, 374, 375, 376, 377, 378, 379, 380, 381, 382, 383, 384, 385, 386, 421, 422, 423, 424, 425, 426, 427, 428, 429, 430, 431, 432, 433, 434, 435, 436, 437, 438, 439, 440, 441, 442, 443, 444, 445, 446, 447, 448, 449, 450, 451, 452, 453, 454, 455, 494, 495, 496, 497, 498, 499, 500, 501, 502, 503, 504, 505, 506, 507, 508, 509, 542, 543, 544, 545, 546, 547, 548, 549, 550, 551, 633, 634, 635, 636, 637, 638, 639, 640, 641, 660, 661, 662, 663, 664, 665, 666, 667, 668, 669, 670, 671, 672, 673, 674, 675, 676, 677, 678, 729, 730, 731, 732, 733, 734, 735, 736, 737, 738, 739, 740, 741, 742, 743, 744, 745, 746, 747, 748, 749, 799, 800, 801, 880, 881, 882, 883, 884, 885, 886, 887, 888, 889, 890, 891, 2004, 2005, 2006, 2007, 2008, 2009, 2010, 2011, 2012, 2013, 2014, 2015, 2016, 2017, 2018, 2019, 2020, 2021, 2022, 2023, 2024, 2025, 2026, 2027, 2028, 2029, 2030, 2031, 2032, 2033, 2034, 2035, 2036, 2037, 2038, 2039, 2040, 2041, 2042, 2043, 2044, 2045, 2046, 2047, 2048, 2049, 2050, 2051, 2052, 2053, 2054, 2055, 2056, 2057, 2058, 2059, 2060, 2061, 2062, 2063, 2064, 2065, 2066, 2067, 2068, 2069, 2070, 2071, 2072, 2073, 2074, 2075, 2076, 2077, 2078, 2079, 2080, 2081, 2082] (by decide +kernel) (by decide +kernel)
theorem fwFl_lt : ∀ q ∈ fwFl, q.2.2.1 < fwCl.length ∧ q.2.2.2 < (fwCl.getD q.2.2.1 fwC_0).2.2 := by decide +kernel
def fwKc : List (String × Nat × Int32) := [("MonitorBoard", 13, 58112), ("MonitorBoard$Processor", 9, 65536), ("MonitorBoard$Files", 9, 512512), ("MonitorBoard$Files", 47, 256256), ("MonitorBoard$HexText", 9, 58112), ("MonitorBoard$Processor", 37, 65535), ("MonitorBoard$Monitor", 88, 60419), ("MonitorBoard$Monitor", 28, 60934), ("MonitorBoard", 98, 200000), ("MonitorBoard", 107, 1000000), ("java/lang/StringUTF16", 227, 65536), ("java/lang/Character", 110, 55232), ("java/lang/Character", 76, 56320), ("MonitorBoard$Shell", 303, 1000000), ("MonitorBoard$Reader", 70, 256256), ("MonitorBoard$HexText", 68, 58368), ("MonitorBoard$Shell", 381, 58112), ("MonitorBoard$Shell", 399, 58366), ("MonitorBoard$Monitor", 27, 60416), ("MonitorBoard$Monitor", 29, 60464), ("MonitorBoard$Monitor", 193, 61440), ("MonitorBoard$Monitor", 235, 65536), ("MonitorBoard$Monitor", 270, 61472), ("MonitorBoard$Monitor", 274, 61504), ("java/lang/Integer", 265, 1431655765), ("java/lang/Integer", 266, 858993459), ("java/lang/Integer", 267, 252645135), ("MonitorBoard", 147, 65536), ("MonitorBoard", 156, 65535), ("MonitorBoard$Assembler", 227, 65535), ("MonitorBoard$Assembler", 231, 65280), ("MonitorBoard$Assembler", 193, 58368), ("MonitorBoard$Lister", 46, 65535), ("MonitorBoardModel", 9, 65536), ("MonitorBoardModel", 14, 512512), ("MonitorBoardModel", 27, 70000), ("MonitorBoardModel", 61, 58368), ("MonitorBoardModel", 135, 1048576), ("MonitorBoardModel", 111, 65535), ("MonitorBoardModel", 271, 60419), ("MonitorBoardModel", 232, 60934), ("MonitorBoardModel", 225, 200000), ("MonitorBoardModel", 566, 1048744), ("MonitorBoardModel", 567, 1048745), ("MonitorBoardModel", 568, 1048577), ("MonitorBoardModel", 569, 1048616), ("MonitorBoardModel", 587, 58367), ("MonitorBoardModel", 598, 58366), ("MonitorBoardModel", 230, 60416), ("MonitorBoardModel", 231, 60464), ("MonitorBoardModel", 296, 61440), ("MonitorBoardModel", 382, 61472), ("MonitorBoardModel", 383, 61504), ("MonitorBoardModel", 623, 60000), ("MonitorBoardModel", 724, 65280)]
theorem fwKc_in : ∀ w ∈ fwKc.map (fun q => Cond.constant q.1 q.2.1 q.2.2), w ∈ fwT := fwT_all [308, 362, 410, 420, 541, 840, 841, 846, 945, 946, 1045, 1070, 1074, 1227, 1232, 1330, 1336, 1356, 1380, 1381, 1411, 1446, 1468, 1475, 1548, 1549, 1550, 1659, 1670, 1752, 1763, 1764, 1853, 1933, 1934, 1935, 1936, 1964, 1965, 1966, 1971, 2290, 2476, 2486, 2487, 2488, 2506, 2514, 2515, 2516, 2521, 2563, 2564, 2674, 2771] (by decide +kernel) (by decide +kernel)
def fwLc : List (String × Nat × Int64) := [("MonitorBoard", 230, 128), ("MonitorBoard$Monitor", 162, 50), ("MonitorBoard$Processor", 109, 10), ("MonitorBoard$Processor", 127, 16), ("MonitorBoard$Processor", 129, 13), ("MonitorBoard$Processor", 67, 7), ("MonitorBoard$Processor", 98, 5), ("MonitorBoard$Processor", 69, 4), ("MonitorBoard$Processor", 179, 11), ("MonitorBoard$Processor", 195, 18), ("MonitorBoard$Processor", 184, 17), ("MonitorBoard$Assembler", 152, 128), ("MonitorBoard$Assembler", 180, 127), ("MonitorBoard$Assembler", 189, 3418583), ("MonitorBoard$Assembler", 191, 27088), ("MonitorBoardModel", 242, 50), ("MonitorBoardModel", 765, 65535)]
theorem fwLc_in : ∀ w ∈ fwLc.map (fun q => Cond.constantLong q.1 q.2.1 q.2.2), w ∈ fwT := fwT_all [626, 1480, 1517, 1523, 1525, 1527, 1528, 1571, 1605, 1633, 1642, 1704, 1809, 1820, 1821, 2581, 2758] (by decide +kernel) (by decide +kernel)
end
section
/-! THE ABSTRACT MACHINE. A heap is a list of shapes (an array's type and length; an object's class and its fields, of which references are fixed in the shape) and a store of numbers. Reference i is the cell B + i; .retAddr c stands for constant c (a text, a table), which lies at kA c. -/
abbrev fwS : Type := (Nat → Nat → Int32) × (Nat → Nat → Int64)
def fwI (σ : fwS) (i k : Nat) (v : Int32) : fwS := (fun a b => if a = i ∧ b = k then v else σ.1 a b, σ.2)
def fwL (σ : fwS) (i k : Nat) (v : Int64) : fwS := (σ.1, fun a b => if a = i ∧ b = k then v else σ.2 a b)
def fwA (σ : fwS) (i : Nat) (f : Nat → Int32) : fwS := (fun a b => if a = i then f b else σ.1 a b, σ.2)
def fwAl (σ : fwS) (i : Nat) (f : Nat → Int64) : fwS := (σ.1, fun a b => if a = i then f b else σ.2 a b)
abbrev fwE : Type := (FieldType × Nat) ⊕ (Nat × List Value)
/-- where things lie: classes, slots, array classes, the first cell, the constants -/
abbrev fwZ : Type := (Nat → ClassId) × (Nat → Nat → Nat) × (FieldType → ClassId) × Nat × (Nat → Nat)
abbrev fwZ.B (Z : fwZ) : Nat := Z.2.2.2.1
abbrev fwZ.D (Z : fwZ) : va_G := (Z.1, Z.2.1)
def fwV (Z : fwZ) (v : Value) : Value := match v with
  | .ref i => .ref (Z.2.2.2.1 + i)
  | .retAddr c => .ref (Z.2.2.2.2 c)
  | .int x => .int x
  | .long x => .long x
  | .float x => .float x
  | .double x => .double x
  | .null => .null
theorem fwV_cat (Z : fwZ) (v : Value) : (fwV Z v).category = v.category := by cases v <;> rfl
def fwFv (Z : fwZ) (σ : fwS) (i k : Nat) (v : Value) : Value := match v with
  | .int _ => .int (σ.1 i k)
  | .long _ => .long (σ.2 i k)
  | v => fwV Z v
/-- a field's value in the machine's own words -/
def fwGv (σ : fwS) (i k : Nat) (v : Value) : Value := match v with
  | .int _ => .int (σ.1 i k)
  | .long _ => .long (σ.2 i k)
  | v => v
theorem fwFv_eq (Z : fwZ) (σ : fwS) (i k : Nat) (v : Value) : fwFv Z σ i k v = fwV Z (fwGv σ i k v) := by cases v <;> rfl
def fwX (Z : fwZ) (σ : fwS) (i : Nat) (e : fwE) : va_E := match e with
  | .inl (ty, n) => .inl (Z.2.2.1 ty, n, match ty with | .long => .inr (.inl (σ.2 i)) | _ => .inl (σ.1 i))
  | .inr (ci, ts) => .inr (ci, ts.mapIdx (fun k v => fwFv Z σ i k v))
def fwW (Z : fwZ) (sh : List fwE) (σ : fwS) : va_W := sh.mapIdx (fun i e => (Z.B + i, fwX Z σ i e))
theorem fwW_get (Z : fwZ) (sh : List fwE) (σ : fwS) (i : Nat) : (fwW Z sh σ)[i]? = (sh[i]?).map (fun e => (Z.B + i, fwX Z σ i e)) := by
  unfold fwW
  rw [List.getElem?_mapIdx]
theorem fwW_at {Z : fwZ} {sh : List fwE} {σ : fwS} {i : Nat} {e : fwE} (h : sh[i]? = some e) : (fwW Z sh σ)[i]? = some (Z.B + i, fwX Z σ i e) := by
  rw [fwW_get, h]; rfl
theorem fwW_D (Z : fwZ) (sh : List fwE) (σ : fwS) : va_D (fun q => Z.B ≤ q) (fwW Z sh σ) := by
  refine ⟨fun i j p q hi hj hpq => ?_, fun k q hk => ?_⟩
  · rw [fwW_get] at hi hj
    cases h1 : sh[i]? with
    | none => rw [h1] at hi; cases hi
    | some e =>
      cases h2 : sh[j]? with
      | none => rw [h2] at hj; cases hj
      | some f =>
        rw [h1] at hi; rw [h2] at hj
        cases hi; cases hj
        have h3 : Z.B + i = Z.B + j := hpq
        omega
  · rw [fwW_get] at hk
    cases h1 : sh[k]? with
    | none => rw [h1] at hk; cases hk
    | some e =>
      rw [h1] at hk
      cases hk
      exact Nat.le_add_right _ _
/-- what the store's change at one cell does to the world -/
theorem fwW_set {Z : fwZ} {sh sh' : List fwE} {σ σ' : fwS} {i : Nat} {x : va_E} (hl : sh'.length = sh.length) (hi : i < sh.length) (hx : ∀ e', sh'[i]? = some e' → fwX Z σ' i e' = x) (ho : ∀ j, j ≠ i → sh'[j]? = sh[j]? ∧ ∀ e', sh[j]? = some e' → fwX Z σ' j e' = fwX Z σ j e') : (fwW Z sh σ).set i (Z.B + i, x) = fwW Z sh' σ' := by
  apply List.ext_getElem?
  intro j
  by_cases hj : j = i
  · subst hj
    rw [List.getElem?_set_self (by unfold fwW; rw [List.length_mapIdx]; exact hi), fwW_get]
    have : j < sh'.length := by omega
    rw [List.getElem?_eq_getElem this]
    show some (Z.B + j, x) = some (Z.B + j, fwX Z σ' j _)
    rw [hx _ (List.getElem?_eq_getElem this)]
  · rw [List.getElem?_set_ne (Ne.symm hj), fwW_get, fwW_get]
    obtain ⟨h1, h2⟩ := ho j hj
    rw [h1]
    cases h3 : sh[j]? with
    | none => rfl
    | some e' =>
      show some (Z.B + j, fwX Z σ j e') = some (Z.B + j, fwX Z σ' j e')
      rw [h2 e' h3]
theorem fwI_ne {σ : fwS} {i k j b : Nat} {v : Int32} (h : j ≠ i) : (fwI σ i k v).1 j b = σ.1 j b := by
  show (if j = i ∧ b = k then v else σ.1 j b) = _
  rw [if_neg (fun q => h q.1)]
theorem fwI_ne2 {σ : fwS} {i k b : Nat} {v : Int32} (h : b ≠ k) : (fwI σ i k v).1 i b = σ.1 i b := by
  show (if i = i ∧ b = k then v else σ.1 i b) = _
  rw [if_neg (fun q => h q.2)]
theorem fwI_eq {σ : fwS} {i k : Nat} {v : Int32} : (fwI σ i k v).1 i k = v := by
  show (if i = i ∧ k = k then v else σ.1 i k) = _
  rw [if_pos ⟨rfl, rfl⟩]
theorem fwL_ne {σ : fwS} {i k j b : Nat} {v : Int64} (h : j ≠ i) : (fwL σ i k v).2 j b = σ.2 j b := by
  show (if j = i ∧ b = k then v else σ.2 j b) = _
  rw [if_neg (fun q => h q.1)]
theorem fwL_ne2 {σ : fwS} {i k b : Nat} {v : Int64} (h : b ≠ k) : (fwL σ i k v).2 i b = σ.2 i b := by
  show (if i = i ∧ b = k then v else σ.2 i b) = _
  rw [if_neg (fun q => h q.2)]
theorem fwL_eq {σ : fwS} {i k : Nat} {v : Int64} : (fwL σ i k v).2 i k = v := by
  show (if i = i ∧ k = k then v else σ.2 i k) = _
  rw [if_pos ⟨rfl, rfl⟩]
/-- a cell's picture depends on the store at that cell alone -/
theorem fwX_congr {Z : fwZ} {σ σ' : fwS} {j : Nat} (h1 : ∀ b, σ'.1 j b = σ.1 j b) (h2 : ∀ b, σ'.2 j b = σ.2 j b) (e : fwE) : fwX Z σ' j e = fwX Z σ j e := by
  have g1 : σ'.1 j = σ.1 j := funext h1
  have g2 : σ'.2 j = σ.2 j := funext h2
  rcases e with ⟨ty, n⟩ | ⟨ci, ts⟩
  · simp only [fwX, g1, g2]
  · show Sum.inr _ = Sum.inr _
    congr 2
    apply List.ext_getElem?
    intro k
    rw [List.getElem?_mapIdx, List.getElem?_mapIdx]
    cases ts[k]? with
    | none => rfl
    | some v => cases v <;> simp [fwFv, h1, h2]
/-- an int field is put -/
theorem fwW_putI {Z : fwZ} {sh : List fwE} {σ : fwS} {i k ci : Nat} {ts : List Value} {x0 v : Int32} (hs : sh[i]? = some (.inr (ci, ts))) (hk : ts[k]? = some (.int x0)) : (fwW Z sh σ).set i (Z.B + i, .inr (ci, (ts.mapIdx (fun k v => fwFv Z σ i k v)).set k (.int v))) = fwW Z sh (fwI σ i k v) := by
  have hi : i < sh.length := (List.getElem?_eq_some_iff.mp hs).1
  refine fwW_set rfl hi (fun e' he => ?_) (fun j hj => ⟨rfl, fun e' _ => fwX_congr (σ := σ) (σ' := fwI σ i k v) (fun b => fwI_ne hj) (fun b => rfl) e'⟩)
  rw [hs] at he
  cases he
  show Sum.inr _ = Sum.inr _
  congr 2
  apply List.ext_getElem?
  intro q
  have hlen : k < ts.length := (List.getElem?_eq_some_iff.mp hk).1
  by_cases hq : q = k
  · subst hq
    rw [List.getElem?_set_self (by rw [List.length_mapIdx]; exact hlen), List.getElem?_mapIdx, hk]
    show some (Value.int ((fwI σ i q v).1 i q)) = _
    rw [fwI_eq]
  · rw [List.getElem?_set_ne (Ne.symm hq), List.getElem?_mapIdx, List.getElem?_mapIdx]
    cases ts[q]? with
    | none => rfl
    | some w => cases w <;> simp [fwFv, fwI_ne2 hq] <;> rfl
/-- a long field is put -/
theorem fwW_putL {Z : fwZ} {sh : List fwE} {σ : fwS} {i k ci : Nat} {ts : List Value} {x0 v : Int64} (hs : sh[i]? = some (.inr (ci, ts))) (hk : ts[k]? = some (.long x0)) : (fwW Z sh σ).set i (Z.B + i, .inr (ci, (ts.mapIdx (fun k v => fwFv Z σ i k v)).set k (.long v))) = fwW Z sh (fwL σ i k v) := by
  have hi : i < sh.length := (List.getElem?_eq_some_iff.mp hs).1
  refine fwW_set rfl hi (fun e' he => ?_) (fun j hj => ⟨rfl, fun e' _ => fwX_congr (σ := σ) (σ' := fwL σ i k v) (fun b => rfl) (fun b => fwL_ne hj) e'⟩)
  rw [hs] at he
  cases he
  show Sum.inr _ = Sum.inr _
  congr 2
  apply List.ext_getElem?
  intro q
  have hlen : k < ts.length := (List.getElem?_eq_some_iff.mp hk).1
  by_cases hq : q = k
  · subst hq
    rw [List.getElem?_set_self (by rw [List.length_mapIdx]; exact hlen), List.getElem?_mapIdx, hk]
    show some (Value.long ((fwL σ i q v).2 i q)) = _
    rw [fwL_eq]
  · rw [List.getElem?_set_ne (Ne.symm hq), List.getElem?_mapIdx, List.getElem?_mapIdx]
    cases ts[q]? with
    | none => rfl
    | some w => cases w <;> simp [fwFv, fwL_ne2 hq] <;> rfl
/-- a reference field is put: the shape changes -/
theorem fwW_putR {Z : fwZ} {sh : List fwE} {σ : fwS} {i k ci : Nat} {ts : List Value} {v : Value} (hs : sh[i]? = some (.inr (ci, ts))) (hv : fwFv Z σ i k v = fwV Z v) : (fwW Z sh σ).set i (Z.B + i, .inr (ci, (ts.mapIdx (fun k v => fwFv Z σ i k v)).set k (fwV Z v))) = fwW Z (sh.set i (.inr (ci, ts.set k v))) σ := by
  have hi : i < sh.length := (List.getElem?_eq_some_iff.mp hs).1
  refine fwW_set (by rw [List.length_set]) hi (fun e' he => ?_) (fun j hj => ⟨List.getElem?_set_ne (Ne.symm hj), fun e' _ => rfl⟩)
  rw [List.getElem?_set_self hi] at he
  cases he
  show Sum.inr _ = Sum.inr _
  congr 2
  apply List.ext_getElem?
  intro q
  rw [List.getElem?_mapIdx]
  by_cases hq : q = k
  · subst hq
    by_cases hl : q < ts.length
    · rw [List.getElem?_set_self hl, List.getElem?_set_self (by rw [List.length_mapIdx]; exact hl)]
      show some (fwFv Z σ i q v) = _
      rw [hv]
    · rw [List.getElem?_eq_none (by rw [List.length_set]; omega), List.getElem?_eq_none (by rw [List.length_set, List.length_mapIdx]; omega)]
      rfl
  · rw [List.getElem?_set_ne (Ne.symm hq), List.getElem?_set_ne (Ne.symm hq), List.getElem?_mapIdx]
/-- an array of small numbers gets an element -/
theorem fwW_arr {Z : fwZ} {sh : List fwE} {σ : fwS} {i n : Nat} {ty : FieldType} {f : Nat → Int32} (hs : sh[i]? = some (.inl (ty, n))) (ht : ty ≠ .long) : (fwW Z sh σ).set i (Z.B + i, .inl (Z.2.2.1 ty, n, .inl f)) = fwW Z sh (fwA σ i f) := by
  have hi : i < sh.length := (List.getElem?_eq_some_iff.mp hs).1
  refine fwW_set rfl hi (fun e' he => ?_) (fun j hj => ⟨rfl, fun e' _ => fwX_congr (σ := σ) (σ' := fwA σ i f) (fun b => ?_) (fun b => rfl) e'⟩)
  · rw [hs] at he
    cases he
    have g : (fwA σ i f).1 i = f := funext (fun b => if_pos rfl)
    cases ty <;> first | (exact absurd rfl ht) | (simp only [fwX, g])
  · show (if j = i then f b else σ.1 j b) = _
    rw [if_neg hj]
theorem fwW_arrL {Z : fwZ} {sh : List fwE} {σ : fwS} {i n : Nat} {f : Nat → Int64} (hs : sh[i]? = some (.inl (.long, n))) : (fwW Z sh σ).set i (Z.B + i, .inl (Z.2.2.1 .long, n, .inr (.inl f))) = fwW Z sh (fwAl σ i f) := by
  have hi : i < sh.length := (List.getElem?_eq_some_iff.mp hs).1
  refine fwW_set rfl hi (fun e' he => ?_) (fun j hj => ⟨rfl, fun e' _ => fwX_congr (σ := σ) (σ' := fwAl σ i f) (fun b => rfl) (fun b => ?_) e'⟩)
  · rw [hs] at he
    cases he
    have g : (fwAl σ i f).2 i = f := funext (fun b => if_pos rfl)
    simp only [fwX, g]
  · show (if j = i then f b else σ.2 j b) = _
    rw [if_neg hj]
theorem fwA_upd (σ : fwS) (i k : Nat) (v : Int32) : fwA σ i (upd (σ.1 i) k v) = fwI σ i k v := by
  refine Prod.ext (funext fun a => funext fun b => ?_) rfl
  show (if a = i then (if b = k then v else σ.1 i b) else σ.1 a b) = if a = i ∧ b = k then v else σ.1 a b
  by_cases ha : a = i
  · subst ha
    by_cases hb : b = k
    · rw [if_pos rfl, if_pos hb, if_pos ⟨rfl, hb⟩]
    · rw [if_pos rfl, if_neg hb, if_neg (fun q => hb q.2)]
  · rw [if_neg ha, if_neg (fun q => ha q.1)]
theorem fwAl_upd (σ : fwS) (i k : Nat) (v : Int64) : fwAl σ i (vp_updL (σ.2 i) k v) = fwL σ i k v := by
  refine Prod.ext rfl (funext fun a => funext fun b => ?_)
  show (if a = i then (if b = k then v else σ.2 i b) else σ.2 a b) = if a = i ∧ b = k then v else σ.2 a b
  by_cases ha : a = i
  · subst ha
    by_cases hb : b = k
    · rw [if_pos rfl, if_pos hb, if_pos ⟨rfl, hb⟩]
    · rw [if_pos rfl, if_neg hb, if_neg (fun q => hb q.2)]
  · rw [if_neg ha, if_neg (fun q => ha q.1)]
end
section
/-! THE JUDGEMENT fwG over the abstract machine: from pc with locals ls, stack st, shapes sh and store σ, the method M comes to its end with Post -/
/-- a method: its name, its code, its locals, its answer's type -/
abbrev fwM : Type := MethodName × ByteArray × Nat × Option FieldType
def fwWs (M : fwM) : List Cond := .code M.1 M.2.1 M.2.2.1 M.2.2.2 :: fwT
def fwRm (d mc ms : Nat) : Room := { frames := d, cells := mc, slots := ms, locals := 64 * d }
def fwTys (Z : fwZ) : List (ClassId × FieldType) := fwAT.map (fun t => (Z.2.2.1 t, t))
abbrev fwAq (Z : fwZ) : Nat → Prop := fun q => Z.2.2.2.1 ≤ q
theorem fwTys_at (Z : fwZ) {t : FieldType} (h : t ∈ fwAT) : ∃ t0 : Nat, (fwTys Z)[t0]? = some (Z.2.2.1 t, t) := by
  obtain ⟨i, hi⟩ := List.getElem?_of_mem h
  exact ⟨i, by unfold fwTys; rw [List.getElem?_map, hi]; rfl⟩
def fwFit (sh : List fwE) (σ : fwS) : Prop := ∀ (i n : Nat), sh[i]? = some (.inl (.byte, n)) → ∀ j, fits .byte (.int (σ.1 i j)) = true
def fwOk (Z : fwZ) (sh : List fwE) (σ : fwS) (H : Heap) : Prop := va_P Z.D fwCl (fwW Z sh σ) H ∧ H.size = Z.2.2.2.1 + sh.length ∧ fwFit sh σ
/-- locals by their places; none: not told -/
def fwLv (Z : fwZ) (Ls : Array Slot) (nL : Nat) (ls : List (Option Value)) : Prop := lv_has Ls nL [] ∧ ls.length = nL ∧ ∀ (i : Nat) (v : Value), ls[i]? = some (some v) → Ls[i]? = some (.val (fwV Z v))
def fwPl (Z : fwZ) (ls : List (Option Value)) : List (Nat × Value) := (List.range ls.length).filterMap (fun i => (ls.getD i none).map (fun v => (i, fwV Z v)))
theorem fwPl_mem {Z : fwZ} {ls : List (Option Value)} {q : Nat × Value} : q ∈ fwPl Z ls ↔ ∃ v, ls[q.1]? = some (some v) ∧ q.2 = fwV Z v := by
  unfold fwPl
  rw [List.mem_filterMap]
  constructor
  · rintro ⟨i, hi, h⟩
    rw [List.mem_range] at hi
    rw [List.getD_eq_getElem?_getD, List.getElem?_eq_getElem hi] at h
    cases hv : ls[i] with
    | none => simp [hv] at h
    | some v =>
      simp [hv] at h
      subst h
      exact ⟨v, by rw [List.getElem?_eq_getElem hi, hv], rfl⟩
  · rintro ⟨v, h1, h2⟩
    obtain ⟨hi, h3⟩ := List.getElem?_eq_some_iff.mp h1
    refine ⟨q.1, List.mem_range.mpr hi, ?_⟩
    rw [List.getD_eq_getElem?_getD, h1]
    show some (q.1, fwV Z v) = some q
    rw [← h2]
theorem fwLv.has {Z : fwZ} {Ls : Array Slot} {nL : Nat} {ls : List (Option Value)} (h : fwLv Z Ls nL ls) : lv_has Ls nL (fwPl Z ls) := by
  refine ⟨h.1.1, h.1.2.1, fun q hq => ?_⟩
  obtain ⟨v, h1, h2⟩ := fwPl_mem.mp hq
  rw [h2]
  exact h.2.2 q.1 v h1
def fwKill (ls : List (Option Value)) (i : Nat) : List (Option Value) := match i with
  | 0 => ls
  | j + 1 => match ls[j]? with
    | some (some (.long _)) => ls.set j none
    | some (some (.double _)) => ls.set j none
    | _ => ls
def fwSet1 (ls : List (Option Value)) (i : Nat) (v : Value) : List (Option Value) := (fwKill ls i).set i (some v)
def fwSet2 (ls : List (Option Value)) (i : Nat) (v : Value) : List (Option Value) := ((fwKill ls i).set i (some v)).set (i + 1) none
theorem fwKill_len (ls : List (Option Value)) (i : Nat) : (fwKill ls i).length = ls.length := by
  unfold fwKill
  split
  · rfl
  · split <;> simp
theorem fwKill_some {ls : List (Option Value)} {i j : Nat} {v : Value} (h : (fwKill ls i)[j]? = some (some v)) : ls[j]? = some (some v) ∧ ¬ (j + 1 = i ∧ v.category = 2) := by
  cases i with
  | zero => exact ⟨h, fun q => by omega⟩
  | succ k =>
    have key : ∀ w : Value, ls[k]? = some (some w) → w.category = 2 → (fwKill ls (k + 1)) = ls.set k none := by
      intro w hw hc
      cases w <;> simp [Value.category] at hc <;> simp [fwKill, hw]
    by_cases hk : ∃ w : Value, ls[k]? = some (some w) ∧ w.category = 2
    · obtain ⟨w, hw, hc⟩ := hk
      rw [key w hw hc] at h
      by_cases hj : j = k
      · subst hj
        rw [List.getElem?_set_self (List.getElem?_eq_some_iff.mp hw).1] at h
        cases h
      · rw [List.getElem?_set_ne (Ne.symm hj)] at h
        exact ⟨h, fun q => hj (by omega)⟩
    · have he : fwKill ls (k + 1) = ls := by
        cases hl : ls[k]? with
        | none => simp [fwKill, hl]
        | some o =>
          cases o with
          | none => simp [fwKill, hl]
          | some w =>
            cases w with
            | long x => exact absurd ⟨_, hl, rfl⟩ hk
            | double x => exact absurd ⟨_, hl, rfl⟩ hk
            | _ => simp [fwKill, hl]
      rw [he] at h
      refine ⟨h, fun q => hk ⟨v, ?_, q.2⟩⟩
      have : j = k := by omega
      subst this
      exact h
theorem fwLv_set1 {Z : fwZ} {Ls' : Array Slot} {nL i : Nat} {ls : List (Option Value)} {v : Value} (h0 : ls.length = nL) (hi : i < ls.length) (h : lv_has Ls' nL ((i, fwV Z v) :: (fwPl Z ls).filter (fun q => !(q.1 == i) && !(q.1 + 1 == i && q.2.category == 2)))) : fwLv Z Ls' nL (fwSet1 ls i v) := by
  refine ⟨⟨h.1, h.2.1, fun q hq => by cases hq⟩, by rw [← h0]; unfold fwSet1; rw [List.length_set, fwKill_len], fun j w hw => ?_⟩
  unfold fwSet1 at hw
  by_cases hj : j = i
  · subst hj
    have hlen : j < (fwKill ls j).length := by
      unfold fwKill
      split
      · exact hi
      · split <;> simp <;> omega
    rw [List.getElem?_set_self hlen] at hw
    cases hw
    exact h.2.2 (j, fwV Z v) List.mem_cons_self
  · rw [List.getElem?_set_ne (Ne.symm hj)] at hw
    obtain ⟨h1, h2⟩ := fwKill_some hw
    refine h.2.2 (j, fwV Z w) (List.mem_cons_of_mem _ (List.mem_filter.mpr ⟨fwPl_mem.mpr ⟨w, h1, rfl⟩, ?_⟩))
    simp only [Bool.and_eq_true, Bool.not_eq_true', Bool.and_eq_false_iff, beq_eq_false_iff_ne, ne_eq]
    refine ⟨hj, ?_⟩
    by_cases hc : j + 1 = i
    · right
      intro q
      rw [fwV_cat] at q
      exact h2 ⟨hc, q⟩
    · left
      exact hc
theorem fwLv_set2 {Z : fwZ} {Ls' : Array Slot} {nL i : Nat} {ls : List (Option Value)} {v : Value} (h0 : ls.length = nL) (hi : i + 1 < ls.length) (h : lv_has Ls' nL ((i, fwV Z v) :: (fwPl Z ls).filter (fun q => !(q.1 == i) && (!(q.1 == i + 1) && !(q.1 + 1 == i && q.2.category == 2))))) : fwLv Z Ls' nL (fwSet2 ls i v) := by
  refine ⟨⟨h.1, h.2.1, fun q hq => by cases hq⟩, by rw [← h0]; unfold fwSet2; rw [List.length_set, List.length_set, fwKill_len], fun j w hw => ?_⟩
  unfold fwSet2 at hw
  have hlen : (fwKill ls i).length = ls.length := by
    unfold fwKill
    split
    · rfl
    · split <;> simp
  by_cases hj : j = i
  · subst hj
    rw [List.getElem?_set_ne (by omega), List.getElem?_set_self (by omega)] at hw
    cases hw
    exact h.2.2 (j, fwV Z v) List.mem_cons_self
  · by_cases hj2 : j = i + 1
    · subst hj2
      rw [List.getElem?_set_self (by rw [List.length_set]; omega)] at hw
      cases hw
    · rw [List.getElem?_set_ne (Ne.symm hj2), List.getElem?_set_ne (Ne.symm hj)] at hw
      obtain ⟨h1, h2⟩ := fwKill_some hw
      refine h.2.2 (j, fwV Z w) (List.mem_cons_of_mem _ (List.mem_filter.mpr ⟨fwPl_mem.mpr ⟨w, h1, rfl⟩, ?_⟩))
      simp only [Bool.and_eq_true, Bool.not_eq_true', Bool.and_eq_false_iff, beq_eq_false_iff_ne, ne_eq]
      refine ⟨hj, hj2, ?_⟩
      by_cases hc : j + 1 = i
      · right
        intro q
        rw [fwV_cat] at q
        exact h2 ⟨hc, q⟩
      · left
        exact hc
end
section
/-! texts and tables in the heap; the judgement; entry and ends -/
/-- a static of the JDK's of which only 'a reference or null' is known -/
def fwSv (Z : fwZ) : Value := if Z.2.2.2.2 5001 = 0 then .null else .retAddr 5000
def fwCn (Z : fwZ) (U : State) (H : Heap) : Prop := vk_S fwNs fwSl fwSb Z.2.2.2.2 (fun i => Z.2.2.2.2 (i + 1000)) (fwAq Z) U H ∧ (∀ q ∈ fwSr, vk_R q.1 q.2.1 q.2.2.1 (Z.2.2.2.2 q.2.2.2) U) ∧ (∀ q ∈ fwTb, va_Z q.1 q.2.1 "[I" (.ref (Z.2.2.2.2 q.2.2.1)) (fwAq Z) U H ∧ va_T .int (Z.2.2.2.2 q.2.2.1) q.2.2.2.length (fun j => .int (q.2.2.2.getD j 0)) (fwAq Z) U H) ∧ (∀ q ∈ fwNl, va_Nw (.methodLinkNest q.1 q.2.1 q.2.2.1 q.2.2.2) U) ∧ (∀ q ∈ fwSi, va_Z q.1 q.2.1 q.2.2.1 (.int q.2.2.2) (fwAq Z) U H) ∧ va_Z "jdk/internal/util/Preconditions" "SIOOBE_FORMATTER" "Ljava/util/function/BiFunction;" (fwV Z (fwSv Z)) (fwAq Z) U H
theorem fwCn.to {Z : fwZ} {s U : State} {H : Heap} (h : fwCn Z s s.heap) (hW : s.WarmedH U.vm) (hq : ∀ a : Nat, a < s.heap.size → ¬ fwAq Z a → H[a]? = s.heap[a]?) : fwCn Z U H := by
  obtain ⟨h1, h2, h3, h4, h5, h6⟩ := h
  refine ⟨(h1.moved hW.alike).kept hq, fun q hq => (h2 q hq).warm hW, fun q hm => ⟨((h3 q hm).1.moved hW.alike).kept hq, ((h3 q hm).2.moved hW.alike).kept hq⟩, fun q hm => va_Nw.warmM hW (h4 q hm), fun q hm => ((h5 q hm).moved hW.alike).kept hq, (h6.moved hW.alike).kept hq⟩
/-- what stays through a method: the machine, its code, the tables' words, the classes, texts and tables -/
def fwEnv (Z : fwZ) (M : fwM) (p : Program) (s : State) (m : MethodId) (args : Array Value) (meth : Method) (c : Code) : Prop :=
  p.tables.exec = Jvm.exec ∧ c.code = M.2.1 ∧ meth.sig.returnType = M.2.2.2 ∧ c.maxLocals = M.2.2.1 ∧ s.vm.findClass M.1.cls = some m.cls ∧ (∀ w ∈ fwWs M, w.before args s = true) ∧ meth.locks = false ∧ va_K Z.D fwCl (fwTys Z) s ∧ Z.2.2.2.1 ≤ s.heap.size ∧ fwCn Z s s.heap ∧ meth.name = M.1.name
abbrev fwPost : Type := Option Value → List fwE → fwS → Prop
def fwQ (Z : fwZ) (Post : fwPost) : Array Value → State → Outcome → State → Prop := fun _ st o t => (∃ (v : Option Value) (sh : List fwE) (σ : fwS), o = .returned (v.map (fwV Z)) ∧ Post v sh σ ∧ fwOk Z sh σ t.heap) ∧ va_F (fwAq Z) st t
def fwG (l : Launch) (Z : fwZ) (M : fwM) (d mc ms : Nat) (Post : fwPost) (nc ns pc : Nat) (ls : List (Option Value)) (st : List Value) (sh : List fwE) (σ : fwS) : Prop :=
  ∀ (p : Program) (e : Env) (s : State) (m : MethodId) (args : Array Value) (below : List Frame) (meth : Method) (c : Code) (H : Heap) (locs : List Loc) (Ls : Array Slot), fwEnv Z M p s m args meth c → fwOk Z sh σ H → va_S (fwAq Z) s.heap H locs → fwLv Z Ls M.2.2.1 ls → W p l e (headSpec (fwWs M) (fwRm d mc ms)).room s m args below meth c H locs nc ns (MQ below (fwQ Z Post) args s mc ms (fwAq Z)) (F0 m pc Ls (st.map (fwV Z)))
/-- a method's contract -/
def fwC (l : Launch) (Z : fwZ) (M : fwM) (d mc ms : Nat) (as : List Value) (sh : List fwE) (σ : fwS) (Post : fwPost) : Prop :=
  Met l M.1 (fwWs M) (fwRm d mc ms) (va_Pc (as.map (fwV Z)) (fun U => fwOk Z sh σ U.heap ∧ va_K Z.D fwCl (fwTys Z) U ∧ fwCn Z U U.heap)) (fwQ Z Post) mc ms (fwAq Z)
/-- the locals at a method's entry -/
def fwIni (nL : Nat) (as : List Value) : List (Option Value) := (List.range nL).map (fun i => (lv_args 0 as).lookup i)
theorem fw_lookup {α : Type} {i : Nat} {v : α} : ∀ {l : List (Nat × α)}, l.lookup i = some v → (i, v) ∈ l := by
  intro l
  induction l with
  | nil => intro h; cases h
  | cons q l ih =>
    intro h
    obtain ⟨j, w⟩ := q
    rw [List.lookup_cons] at h
    by_cases hj : i = j
    · subst hj
      simp at h
      subst h
      exact List.mem_cons_self
    · have hb : (i == j) = false := by simpa using hj
      rw [hb] at h
      exact List.mem_cons_of_mem _ (ih h)
theorem fw_args (Z : fwZ) : ∀ (as : List Value) (i : Nat), lv_args i (as.map (fwV Z)) = (lv_args i as).map (fun q => (q.1, fwV Z q.2)) := by
  intro as
  induction as with
  | nil => intro i; rfl
  | cons v as ih =>
    intro i
    show (i, fwV Z v) :: lv_args (if (fwV Z v).category = 2 then i + 2 else i + 1) (as.map (fwV Z)) = _
    rw [fwV_cat, ih]
    rfl
theorem fwC_of {l : Launch} {Z : fwZ} {M : fwM} {d mc ms : Nat} {as : List Value} {sh : List fwE} {σ : fwS} {Post : fwPost} {ls : List (Option Value)} (hy : plainFor M.1 = true) (hl : fwIni M.2.2.1 as = ls) (hn : (lg_sl (as.map (fwV Z))).length ≤ M.2.2.1)
    (h : fwG l Z M d mc ms Post 0 0 0 ls [] sh σ) : fwC l Z M d mc ms as sh σ Post := by
  refine va_MetF (cc := M.2.1) (maxL := M.2.2.1) (ret := M.2.2.2) hy rfl ?_
  intro p e s m args below meth c s₁ B hml hv
  obtain ⟨rfl, hO, hK, hC⟩ := hv
  have hE := lv_entry (as.map (fwV Z)) (n := M.2.2.1) hn
  rw [lg_entry_eq]
  refine h p e s m _ below meth c s.heap [] _ ⟨B.exec, B.bytes, B.returns, hml, findClass_of_methodNamed B.named, atoms_spec (ws := fwWs M) B.pre, B.notSynchronized, hK, by rw [hO.2.1]; omega, hC, (name_of_methodNamed B.named B.method).1⟩ hO va_S.rf ⟨⟨hE.1, hE.2.1, fun q hq => by cases hq⟩, by rw [← hl]; simp [fwIni], fun i v hi => ?_⟩
  rw [← hl] at hi
  unfold fwIni at hi
  rw [List.getElem?_map] at hi
  cases hr : (List.range M.2.2.1)[i]? with
  | none => rw [hr] at hi; cases hi
  | some j =>
    rw [hr] at hi
    have hj : j = i := by
      have := List.getElem?_eq_some_iff.mp hr
      obtain ⟨h1, h2⟩ := this
      simpa using h2.symm
    subst hj
    have h3 := fw_lookup (Option.some.inj hi)
    refine hE.2.2 (j, fwV Z v) ?_
    rw [fw_args]
    exact List.mem_map.mpr ⟨(j, v), h3, rfl⟩
section FWR
variable {l : Launch} {Z : fwZ} {M : fwM} {d mc ms : Nat} {Post : fwPost} {nc ns pc : Nat} {ls : List (Option Value)} {st : List Value} {sh : List fwE} {σ : fwS}
/-- an instruction that changes the frame's stack alone -/
theorem fwg_s {pc' : Nat} {st' : List Value} (h : ∀ {p : Program} {e : Env} {R : Room} {s : State} {m : MethodId} {args : Array Value} {below : List Frame} {meth : Method} {c : Code} {H : Heap} {locs : List Loc} {cells slots : Nat} {Q : State → Prop} {Ls : Array Slot}, p.tables.exec = Jvm.exec → c.code = M.2.1 → W p l e R s m args below meth c H locs cells slots Q (F0 m pc' Ls (st'.map (fwV Z))) → W p l e R s m args below meth c H locs cells slots Q (F0 m pc Ls (st.map (fwV Z)))) (k : fwG l Z M d mc ms Post nc ns pc' ls st' sh σ) : fwG l Z M d mc ms Post nc ns pc ls st sh σ :=
  fun p e s m args below meth c H locs Ls hE hO hS hL => h hE.1 hE.2.1 (k p e s m args below meth c H locs Ls hE hO hS hL)
/-- fewer locals told -/
theorem fwg_ls {ls' : List (Option Value)} (hn : ls'.length = ls.length) (h : ∀ (i : Nat) (v : Value), ls'[i]? = some (some v) → ls[i]? = some (some v)) (k : fwG l Z M d mc ms Post nc ns pc ls' st sh σ) : fwG l Z M d mc ms Post nc ns pc ls st sh σ :=
  fun p e s m args below meth c H locs Ls hE hO hS hL => k p e s m args below meth c H locs Ls hE hO hS ⟨hL.1, hn.trans hL.2.1, fun i v hv => hL.2.2 i v (h i v hv)⟩
theorem fwg_drop (i : Nat) (k : fwG l Z M d mc ms Post nc ns pc (ls.set i none) st sh σ) : fwG l Z M d mc ms Post nc ns pc ls st sh σ := by
  refine fwg_ls (by simp) (fun j v hv => ?_) k
  by_cases hj : j = i
  · subst hj
    by_cases hl : j < ls.length
    · rw [List.getElem?_set_self hl] at hv
      cases hv
    · rw [List.getElem?_eq_none (by rw [List.length_set]; omega)] at hv
      cases hv
  · rwa [List.getElem?_set_ne (Ne.symm hj)] at hv
theorem fwg_iret {x : Int32} (hr : M.2.2.2 = some .int) (hc : nc ≤ mc) (hs : ns ≤ ms) (hp : Post (some (.int x)) sh σ) (hd : decode M.2.1 pc = .ok (.ireturn, 1)) : fwG l Z M d mc ms Post nc ns pc ls [.int x] sh σ := by
  intro p e s m args below meth c H locs Ls hE hO hS hL
  obtain ⟨hx, hb, hrt, -, -, -, hlk, -⟩ := hE
  refine W.widen hc hs ?_
  exact W.iret hx hb (by rw [hrt, hr]) (fun t ht _ => ⟨⟨some (.int x), sh, σ, rfl, hp, by rw [ht]; exact hO⟩, hS.F ht⟩) (fun q hq => hS.2.2 q hq) hd
theorem fwg_zret {x : Int32} {ty : FieldType} (hr : M.2.2.2 = some ty) (hn : narrow ty (.int x) = .int x) (hc : nc ≤ mc) (hs : ns ≤ ms) (hp : Post (some (.int x)) sh σ) (hd : decode M.2.1 pc = .ok (.ireturn, 1)) : fwG l Z M d mc ms Post nc ns pc ls [.int x] sh σ := by
  intro p e s m args below meth c H locs Ls hE hO hS hL
  obtain ⟨hx, hb, hrt, -, -, -, hlk, -⟩ := hE
  refine W.widen hc hs ?_
  exact W.zret hx hb (by rw [hrt, hr]) hn (fun t ht _ => ⟨⟨some (.int x), sh, σ, rfl, hp, by rw [ht]; exact hO⟩, hS.F ht⟩) (fun q hq => hS.2.2 q hq) hd
theorem fwg_lret {x : Int64} (hr : M.2.2.2 = some .long) (hc : nc ≤ mc) (hs : ns ≤ ms) (hp : Post (some (.long x)) sh σ) (hd : decode M.2.1 pc = .ok (.lreturn, 1)) : fwG l Z M d mc ms Post nc ns pc ls [.long x] sh σ := by
  intro p e s m args below meth c H locs Ls hE hO hS hL
  obtain ⟨hx, hb, hrt, -, -, -, hlk, -⟩ := hE
  refine W.widen hc hs ?_
  exact W.lret hx hb (by rw [hrt, hr]) (fun t ht _ => ⟨⟨some (.long x), sh, σ, rfl, hp, by rw [ht]; exact hO⟩, hS.F ht⟩) (fun q hq => hS.2.2 q hq) hd
theorem fwg_vret (hr : M.2.2.2 = none) (hc : nc ≤ mc) (hs : ns ≤ ms) (hp : Post none sh σ) (hd : decode M.2.1 pc = .ok (.return_, 1)) : fwG l Z M d mc ms Post nc ns pc ls [] sh σ := by
  intro p e s m args below meth c H locs Ls hE hO hS hL
  obtain ⟨hx, hb, hrt, -, -, -, hlk, -⟩ := hE
  refine W.widen hc hs ?_
  exact W.vret hx hb (by rw [hrt, hr]) (fun t ht _ => ⟨⟨none, sh, σ, rfl, hp, by rw [ht]; exact hO⟩, hS.F ht⟩) (fun q hq => hS.2.2 q hq) hd
end FWR
end
section
/-! ONE INSTRUCTION as a function of the abstract machine, and what it does to the judgement -/
/-- an instruction: itself, two numbers (a field's class and slot), a constant -/
abbrev fwO : Type := Instr × Nat × Nat × Value
abbrev fwRes : Type := Option (List Prop × List (Option Value) × List Value × List fwE × fwS)
def fwAll : List Prop → Prop
  | [] => True
  | [a] => a
  | a :: b :: l => a ∧ fwAll (b :: l)
theorem fwAll_cons {a : Prop} {l : List Prop} (h : fwAll (a :: l)) : a ∧ fwAll l := by
  cases l with
  | nil => exact ⟨h, trivial⟩
  | cons b l => exact h
theorem fwAll_app : ∀ {a b : List Prop}, fwAll (a ++ b) → fwAll a ∧ fwAll b := by
  intro a
  induction a with
  | nil => intro b h; exact ⟨trivial, h⟩
  | cons x a ih =>
    intro b h
    obtain ⟨h1, h2⟩ := fwAll_cons h
    obtain ⟨h3, h4⟩ := ih h2
    refine ⟨?_, h4⟩
    cases a with
    | nil => exact h1
    | cons y a => exact ⟨h1, h3⟩
/-- an element of a table of constants -/
def fwTv (c : Nat) (j : Nat) : Int32 := match fwTb.find? (fun q => q.2.2.1 == c) with
  | some q => q.2.2.2.getD j 0
  | none => 0
def fwTn (c : Nat) : Nat := match fwTb.find? (fun q => q.2.2.1 == c) with
  | some q => q.2.2.2.length
  | none => 0
def fwStep (o : fwO) (ls : List (Option Value)) (st : List Value) (sh : List fwE) (σ : fwS) : fwRes := match o.1 with
  | .iconst _ => some ([], ls, o.2.2.2 :: st, sh, σ)
  | .bipush _ => some ([], ls, o.2.2.2 :: st, sh, σ)
  | .sipush _ => some ([], ls, o.2.2.2 :: st, sh, σ)
  | .lconst _ => some ([], ls, o.2.2.2 :: st, sh, σ)
  | .ldc _ => some ([], ls, o.2.2.2 :: st, sh, σ)
  | .ldc2_w _ => some ([], ls, o.2.2.2 :: st, sh, σ)
  | .iload_n k => (match ls[k.val]? with | some (some (.int x)) => some ([], ls, .int x :: st, sh, σ) | _ => none)
  | .iload k => (match ls[k]? with | some (some (.int x)) => some ([], ls, .int x :: st, sh, σ) | _ => none)
  | .lload_n k => (match ls[k.val]? with | some (some (.long x)) => some ([], ls, .long x :: st, sh, σ) | _ => none)
  | .lload k => (match ls[k]? with | some (some (.long x)) => some ([], ls, .long x :: st, sh, σ) | _ => none)
  | .aload_n k => (match ls[k.val]? with | some (some (.ref x)) => some ([], ls, .ref x :: st, sh, σ) | some (some (.retAddr x)) => some ([], ls, .retAddr x :: st, sh, σ) | _ => none)
  | .aload k => (match ls[k]? with | some (some (.ref x)) => some ([], ls, .ref x :: st, sh, σ) | some (some (.retAddr x)) => some ([], ls, .retAddr x :: st, sh, σ) | _ => none)
  | .istore_n k => (match st with | .int x :: r => if k.val < ls.length then some ([], fwSet1 ls k.val (.int x), r, sh, σ) else none | _ => none)
  | .istore k => (match st with | .int x :: r => if k < ls.length then some ([], fwSet1 ls k (.int x), r, sh, σ) else none | _ => none)
  | .lstore_n k => (match st with | .long x :: r => if k.val + 1 < ls.length then some ([], fwSet2 ls k.val (.long x), r, sh, σ) else none | _ => none)
  | .lstore k => (match st with | .long x :: r => if k + 1 < ls.length then some ([], fwSet2 ls k (.long x), r, sh, σ) else none | _ => none)
  | .astore_n k => (match st with | .ref x :: r => if k.val < ls.length then some ([], fwSet1 ls k.val (.ref x), r, sh, σ) else none | .retAddr x :: r => if k.val < ls.length then some ([], fwSet1 ls k.val (.retAddr x), r, sh, σ) else none | _ => none)
  | .astore k => (match st with | .ref x :: r => if k < ls.length then some ([], fwSet1 ls k (.ref x), r, sh, σ) else none | .retAddr x :: r => if k < ls.length then some ([], fwSet1 ls k (.retAddr x), r, sh, σ) else none | _ => none)
  | .iinc k _ => (match ls[k]?, o.2.2.2 with | some (some (.int x)), .int v => some ([], fwSet1 ls k (.int (x + v)), st, sh, σ) | _, _ => none)
  | .iadd => (match st with | .int y :: .int x :: r => some ([], ls, .int (x + y) :: r, sh, σ) | _ => none)
  | .isub => (match st with | .int y :: .int x :: r => some ([], ls, .int (x - y) :: r, sh, σ) | _ => none)
  | .imul => (match st with | .int y :: .int x :: r => some ([], ls, .int (x * y) :: r, sh, σ) | _ => none)
  | .iand => (match st with | .int y :: .int x :: r => some ([], ls, .int (x &&& y) :: r, sh, σ) | _ => none)
  | .ior => (match st with | .int y :: .int x :: r => some ([], ls, .int (x ||| y) :: r, sh, σ) | _ => none)
  | .ixor => (match st with | .int y :: .int x :: r => some ([], ls, .int (x ^^^ y) :: r, sh, σ) | _ => none)
  | .idiv => (match st with | .int y :: .int x :: r => some ([¬ y = 0], ls, .int (x / y) :: r, sh, σ) | _ => none)
  | .irem => (match st with | .int y :: .int x :: r => some ([¬ y = 0], ls, .int (x - x / y * y) :: r, sh, σ) | _ => none)
  | .ineg => (match st with | .int x :: r => some ([], ls, .int (-x) :: r, sh, σ) | _ => none)
  | .ishl => (match st with | .int y :: .int x :: r => some ([], ls, .int (x <<< (y &&& 31)) :: r, sh, σ) | _ => none)
  | .ishr => (match st with | .int y :: .int x :: r => some ([], ls, .int (x >>> (y &&& 31)) :: r, sh, σ) | _ => none)
  | .ladd => (match st with | .long y :: .long x :: r => some ([], ls, .long (x + y) :: r, sh, σ) | _ => none)
  | .lmul => (match st with | .long y :: .long x :: r => some ([], ls, .long (x * y) :: r, sh, σ) | _ => none)
  | .lcmp => (match st with | .long y :: .long x :: r => some ([], ls, .int (lg_cmp x y) :: r, sh, σ) | _ => none)
  | .i2l => (match st with | .int x :: r => some ([], ls, .long x.toInt64 :: r, sh, σ) | _ => none)
  | .l2i => (match st with | .long x :: r => some ([], ls, .int x.toInt32 :: r, sh, σ) | _ => none)
  | .i2b => (match st with | .int x :: r => some ([], ls, .int x.toInt8.toInt32 :: r, sh, σ) | _ => none)
  | .i2c => (match st with | .int x :: r => some ([], ls, .int (x.toUInt32 % 65536).toInt32 :: r, sh, σ) | _ => none)
  | .dup => (match st with | v :: r => if v.category = 1 then some ([], ls, v :: v :: r, sh, σ) else none | _ => none)
  | .dup_x1 => (match st with | v :: w :: r => if v.category = 1 ∧ w.category = 1 then some ([], ls, v :: w :: v :: r, sh, σ) else none | _ => none)
  | .dup2 => (match st with | v :: w :: r => if v.category = 1 ∧ w.category = 1 then some ([], ls, v :: w :: v :: w :: r, sh, σ) else none | _ => none)
  | .pop => (match st with | v :: r => if v.category = 1 then some ([], ls, r, sh, σ) else none | _ => none)
  | .getstatic _ => some ([], ls, o.2.2.2 :: st, sh, σ)
  | .getfield _ => (match st with
    | .retAddr c :: r => if o.2.1 = 999 ∧ c < fwNs then (if o.2.2.1 = 0 then some ([], ls, .retAddr (c + 1000) :: r, sh, σ) else some ([], ls, .int 0 :: r, sh, σ)) else none
    | .ref i :: r => (match sh[i]? with
      | some (.inr (ci, ts)) => if ci = o.2.1 ∧ ¬ o.2.1 = 999 then (match ts[o.2.2.1]? with | some t => some ([], ls, fwGv σ i o.2.2.1 t :: r, sh, σ) | none => none) else none
      | _ => none)
    | _ => none)
  | .putfield _ => (match st with
    | .int x :: .ref i :: r => (match sh[i]? with
      | some (.inr (ci, ts)) => if ci = o.2.1 then (match ts[o.2.2.1]?, fwTyOf o.2.1 o.2.2.1 with
        | some (.int _), .int => some ([], ls, r, sh, fwI σ i o.2.2.1 x)
        | some (.int _), .boolean => some ([x = 0 ∨ x = 1], ls, r, sh, fwI σ i o.2.2.1 x)
        | _, _ => none) else none
      | _ => none)
    | .long x :: .ref i :: r => (match sh[i]? with
      | some (.inr (ci, ts)) => if ci = o.2.1 then (match ts[o.2.2.1]?, fwTyOf o.2.1 o.2.2.1 with
        | some (.long _), .long => some ([], ls, r, sh, fwL σ i o.2.2.1 x)
        | _, _ => none) else none
      | _ => none)
    | _ => none)
  | .arraylength => (match st with
    | .retAddr c :: r => if c < 1000 then none else if c - 1000 < fwNs then some ([], ls, .int (Int32.ofNat (fwSl.getD (c - 1000) 0)) :: r, sh, σ) else none
    | .ref i :: r => (match sh[i]? with
      | some (.inl (ty, n)) => if ty ∈ fwAT then some ([], ls, .int (Int32.ofNat n) :: r, sh, σ) else none
      | _ => none)
    | _ => none)
  | .iaload => (match st with
    | .int j :: .ref i :: r => (match sh[i]? with
      | some (.inl (.int, n)) => some ([vp_in j n], ls, .int (σ.1 i j.toNatClampNeg) :: r, sh, σ)
      | _ => none)
    | .int j :: .retAddr c :: r => some ([vp_in j (fwTn c)], ls, .int (fwTv c j.toNatClampNeg) :: r, sh, σ)
    | _ => none)
  | .baload => (match st with
    | .int j :: .retAddr c :: r => if c < 1000 then none else if c - 1000 < fwNs then some ([vp_in j (fwSl.getD (c - 1000) 0)], ls, .int ((fwSb.getD (c - 1000) []).getD j.toNatClampNeg 0) :: r, sh, σ) else none
    | .int j :: .ref i :: r => (match sh[i]? with
      | some (.inl (.byte, n)) => some ([vp_in j n], ls, .int (σ.1 i j.toNatClampNeg) :: r, sh, σ)
      | some (.inl (.boolean, n)) => some ([vp_in j n], ls, .int (σ.1 i j.toNatClampNeg) :: r, sh, σ)
      | _ => none)
    | _ => none)
  | .laload => (match st with
    | .int j :: .ref i :: r => (match sh[i]? with
      | some (.inl (.long, n)) => some ([vp_in j n], ls, .long (σ.2 i j.toNatClampNeg) :: r, sh, σ)
      | _ => none)
    | _ => none)
  | .iastore => (match st with
    | .int x :: .int j :: .ref i :: r => (match sh[i]? with
      | some (.inl (.int, n)) => some ([vp_in j n], ls, r, sh, fwI σ i j.toNatClampNeg x)
      | _ => none)
    | _ => none)
  | .bastore => (match st with
    | .int x :: .int j :: .ref i :: r => (match sh[i]? with
      | some (.inl (.byte, n)) => some ([vp_in j n], ls, r, sh, fwI σ i j.toNatClampNeg x.toInt8.toInt32)
      | some (.inl (.boolean, n)) => some ([vp_in j n], ls, r, sh, fwI σ i j.toNatClampNeg (x &&& 1))
      | _ => none)
    | _ => none)
  | .lastore => (match st with
    | .long x :: .int j :: .ref i :: r => (match sh[i]? with
      | some (.inl (.long, n)) => some ([vp_in j n], ls, r, sh, fwL σ i j.toNatClampNeg x)
      | _ => none)
    | _ => none)
  | _ => none
/-- how long an instruction is -/
def fwLen (i : Instr) : Nat := match i with
  | .bipush _ => 2 | .sipush _ => 3 | .ldc _ => 2 | .ldc2_w _ => 3
  | .iload _ => 2 | .lload _ => 2 | .aload _ => 2 | .istore _ => 2 | .lstore _ => 2 | .astore _ => 2 | .iinc _ _ => 3
  | .getfield _ => 3 | .putfield _ => 3 | .getstatic _ => 3
  | _ => 1
/-- what a program checks of an instruction: its constant, its field's link -/
def fwChk (own : String) (o : fwO) : Bool := match o.1 with
  | .iconst n => decide (o.2.2.2 = .int (Int32.ofInt n))
  | .bipush n => decide (o.2.2.2 = .int (Int8.ofInt n).toInt32)
  | .sipush n => decide (o.2.2.2 = .int (Int16.ofInt n).toInt32)
  | .lconst n => decide (o.2.2.2 = .long (Int64.ofNat n.val))
  | .iinc _ n => decide (o.2.2.2 = .int (Int32.ofInt n))
  | .ldc i => (match o.2.2.2 with
    | .int v => decide (fwKc[o.2.1]? = some (own, i, v))
    | .retAddr c => (match fwSr[o.2.1]? with | some q => decide (q.1 = own ∧ q.2.1 = i ∧ q.2.2.2 = c) | none => false)
    | _ => false)
  | .ldc2_w i => (match o.2.2.2 with
    | .long v => decide (fwLc[o.2.1]? = some (own, i, v))
    | _ => false)
  | .getfield i => (match o.2.2.2 with | .retAddr p => if o.2.1 = 999 then decide (fwSf[p]? = some (own, i, o.2.2.1)) else decide (fwFl[p]? = some (own, i, o.2.1, o.2.2.1)) | _ => false)
  | .getstatic i => (match o.2.2.2 with
    | .retAddr c => decide (fwSg[o.2.1]? = some (own, i, o.2.2.1)) && decide ((fwTb.getD o.2.2.1 ("", "", 0, [])).2.2.1 = c)
    | .int v => decide (fwSn[o.2.1]? = some (own, i, o.2.2.1)) && decide ((fwSi.getD o.2.2.1 ("", "", "", 0)).2.2.2 = v)
    | _ => false)
  | .putfield i => (match o.2.2.2 with | .retAddr p => decide (fwFl[p]? = some (own, i, o.2.1, o.2.2.1)) && decide (((fwCl.getD o.2.1 fwC_0).2.1 o.2.2.1).2.2.2 = false) | _ => false)
  | _ => true
end
section
/-! each instruction of fwStep, over the kit's rows (laid by wip/whole/mkstep.py) -/
theorem fwCl_own : ∀ q ∈ fwCl, ∀ k, k < q.2.2 → (q.2.1 k).1 = q.1 := by decide +kernel
theorem fwOk_set {Z : fwZ} {sh : List fwE} {σ σ' : fwS} {H H1 : Heap} {i : Nat} {e : fwE} (hO : fwOk Z sh σ H) (hs : sh[i]? = some e) (hx : va_at Z.D fwCl (Z.B + i, fwX Z σ' i e) H1) (ho : ∀ j, j ≠ i → ∀ b, σ'.1 j b = σ.1 j b ∧ σ'.2 j b = σ.2 j b) (hz : H1.size = H.size) (oq : ∀ q : Nat, q ≠ Z.B + i → H1[q]? = H[q]?) (hf : fwFit sh σ') : fwOk Z sh σ' H1 := by
  refine ⟨fun k q hk => ?_, by rw [hz]; exact hO.2.1, hf⟩
  rw [fwW_get] at hk
  cases h1 : sh[k]? with
  | none => rw [h1] at hk; cases hk
  | some e' =>
    rw [h1] at hk
    cases hk
    by_cases hki : k = i
    · subst hki
      rw [hs] at h1
      cases h1
      exact hx
    · have h2 := hO.1 k (Z.B + k, fwX Z σ k e') (fwW_at h1)
      show va_at Z.D fwCl (Z.B + k, fwX Z σ' k e') H1
      rw [fwX_congr (fun b => (ho k hki b).1) (fun b => (ho k hki b).2) e']
      exact h2.kept (oq _ (by show Z.B + k ≠ Z.B + i; omega))
theorem fwFit_I {sh : List fwE} {σ : fwS} {i k : Nat} {x : Int32} (h : fwFit sh σ) (hx : ∀ n, sh[i]? = some (.inl (.byte, n)) → fits .byte (.int x) = true) : fwFit sh (fwI σ i k x) := by
  intro j n hj b
  by_cases hji : j = i
  · subst hji
    by_cases hb : b = k
    · subst hb
      rw [fwI_eq]
      exact hx n hj
    · rw [fwI_ne2 hb]
      exact h j n hj b
  · rw [fwI_ne hji]
    exact h j n hj b
theorem fwFit_L {sh : List fwE} {σ : fwS} {i k : Nat} {x : Int64} (h : fwFit sh σ) : fwFit sh (fwL σ i k x) := h
section FWS
variable {l : Launch} {Z : fwZ} {M : fwM} {d mc ms : Nat} {Post : fwPost} {nc ns pc : Nat} {ls : List (Option Value)} {st r : List Value} {sh : List fwE} {σ : fwS}
abbrev fwIn (x : Int32) : Value := .int x
theorem fwg_ldc {own : String} {i : Nat} {v : Int32} (ho : M.1.cls = own) (hm : (own, i, v) ∈ fwKc) (hd : decode M.2.1 pc = .ok (.ldc i, 2)) (k : fwG l Z M d mc ms Post nc ns (pc + 2) ls (.int v :: st) sh σ) : fwG l Z M d mc ms Post nc ns pc ls st sh σ := by
  intro p e s m args below meth c H locs Ls hE hO hS hL
  subst ho
  exact lv_ldc hE.1 hE.2.1 hE.2.2.2.2.1 (hE.2.2.2.2.2.1 _ (List.mem_cons_of_mem _ (fwKc_in _ (List.mem_map.mpr ⟨_, hm, rfl⟩)))) hd (k p e s m args below meth c H locs Ls hE hO hS hL)
theorem fwg_ldc2 {own : String} {i : Nat} {v : Int64} (ho : M.1.cls = own) (hm : (own, i, v) ∈ fwLc) (hd : decode M.2.1 pc = .ok (.ldc2_w i, 3)) (k : fwG l Z M d mc ms Post nc ns (pc + 3) ls (.long v :: st) sh σ) : fwG l Z M d mc ms Post nc ns pc ls st sh σ := by
  intro p e s m args below meth c H locs Ls hE hO hS hL
  subst ho
  exact lv_ldc2 hE.1 hE.2.1 hE.2.2.2.2.1 (hE.2.2.2.2.2.1 _ (List.mem_cons_of_mem _ (fwLc_in _ (List.mem_map.mpr ⟨_, hm, rfl⟩)))) hd (k p e s m args below meth c H locs Ls hE hO hS hL)
theorem fwg_ldcS {q : String × Nat × String × Nat} (ho : M.1.cls = q.1) (hm : q ∈ fwSr) (hd : decode M.2.1 pc = .ok (.ldc q.2.1, 2)) (k : fwG l Z M d mc ms Post nc ns (pc + 2) ls (.retAddr q.2.2.2 :: st) sh σ) : fwG l Z M d mc ms Post nc ns pc ls st sh σ := by
  intro p e s m args below meth c H locs Ls hE hO hS hL
  have hown : s.vm.findClass q.1 = some m.cls := by rw [← ho]; exact hE.2.2.2.2.1
  exact va_ldcS hE.1 hE.2.1 hown (hE.2.2.2.2.2.2.2.2.2.1.2.1 q hm) hd (k p e s m args below meth c H locs Ls hE hO hS hL)
theorem fwg_iinc {i : Nat} {n : Int} {x v : Int32} (hl : ls[i]? = some (some (.int x))) (hv : Int32.ofInt n = v) (hd : decode M.2.1 pc = .ok (.iinc i n, 3)) (k : fwG l Z M d mc ms Post nc ns (pc + 3) (fwSet1 ls i (.int (x + v))) st sh σ) : fwG l Z M d mc ms Post nc ns pc ls st sh σ := by
  intro p e s m args below meth c H locs Ls hE hO hS hL
  subst hv
  have hm : (i, Value.int x) ∈ fwPl Z ls := fwPl_mem.mpr ⟨.int x, hl, rfl⟩
  obtain ⟨j, hj⟩ := List.getElem?_of_mem hm
  have hlt : i < ls.length := (List.getElem?_eq_some_iff.mp hl).1
  exact lv_iinc hE.1 hE.2.1 hd hL.has hj rfl (by rw [← hL.2.1]; exact hlt) rfl (fun Ls' hL' => k p e s m args below meth c H locs Ls' hE hO hS (fwLv_set1 hL.2.1 hlt hL'))
theorem fwg_get {i ci kk : Nat} {idx : Nat} {ts : List Value} {t : Value} (hs : sh[i]? = some (.inr (ci, ts))) (ht : ts[kk]? = some t) (hm : (M.1.cls, idx, ci, kk) ∈ fwFl) (hd : decode M.2.1 pc = .ok (.getfield idx, 3)) (k : fwG l Z M d mc ms Post nc ns (pc + 3) ls (fwGv σ i kk t :: r) sh σ) : fwG l Z M d mc ms Post nc ns pc ls (.ref i :: r) sh σ := by
  intro p e s m args below meth c H locs Ls hE hO hS hL
  obtain ⟨hlt1, hlt2⟩ := fwFl_lt _ hm
  have hcl : fwCl[ci]? = some (fwCl.getD ci fwC_0) := by
    rw [List.getD_eq_getElem?_getD, List.getElem?_eq_getElem hlt1]; rfl
  have hck := fwCl_ok ci _ hcl
  have hin : ∀ w ∈ u_ws (fwCl.getD ci fwC_0).1 (fwCl.getD ci fwC_0).2.1 (fwCl.getD ci fwC_0).2.2, w ∈ fwWs M := fun w hw => List.mem_cons_of_mem _ (hck.1 w hw)
  have hlink := hE.2.2.2.2.2.1 _ (List.mem_cons_of_mem _ (fwFl_in _ (List.mem_map.mpr ⟨_, hm, rfl⟩)))
  have hown := fwCl_own _ (List.mem_of_getElem? hcl) kk hlt2
  refine va_get hE.1 hE.2.1 (C := (fwCl.getD ci fwC_0).1) (T := (fwCl.getD ci fwC_0).2.1) (N := (fwCl.getD ci fwC_0).2.2) hE.2.2.2.2.2.1 hin hE.2.2.2.2.1 hE.2.2.2.2.2.2.2.1 hO.1 i (fwW_at hs) hcl kk hlt2 hlink (fun x h => by rw [← hown]; exact h) (v := fwV Z (fwGv σ i kk t)) ?_ hd (k p e s m args below meth c H locs Ls hE hO hS hL)
  show (ts.mapIdx (fun k v => fwFv Z σ i k v))[kk]? = _
  rw [List.getElem?_mapIdx, ht]
  show some (fwFv Z σ i kk t) = _
  rw [fwFv_eq]
theorem fwg_alen {i n : Nat} {ty : FieldType} (hs : sh[i]? = some (.inl (ty, n))) (ht : ty ∈ fwAT) (hd : decode M.2.1 pc = .ok (.arraylength, 1)) (k : fwG l Z M d mc ms Post nc ns (pc + 1) ls (.int (Int32.ofNat n) :: r) sh σ) : fwG l Z M d mc ms Post nc ns pc ls (.ref i :: r) sh σ := by
  intro p e s m args below meth c H locs Ls hE hO hS hL
  obtain ⟨t0, ht0⟩ := fwTys_at Z ht
  exact va_alen hE.1 hE.2.1 hE.2.2.2.2.2.2.2.1 hO.1 i t0 (fwW_at hs) ht0 rfl hd (k p e s m args below meth c H locs Ls hE hO hS hL)

theorem fwg_ld_int {i n : Nat} {j : Int32} (hs : sh[i]? = some (.inl (.int, n))) (hin : vp_in j n) (hd : decode M.2.1 pc = .ok (.iaload, 1)) (k : fwG l Z M d mc ms Post nc ns (pc + 1) ls (.int (σ.1 i j.toNatClampNeg) :: r) sh σ) : fwG l Z M d mc ms Post nc ns pc ls (.int j :: .ref i :: r) sh σ := by
  intro p e s m args below meth c H locs Ls hE hO hS hL
  obtain ⟨t0, ht0⟩ := fwTys_at Z (t := .int) (by decide)
  exact va_iald hE.1 hE.2.1 hE.2.2.2.2.2.2.2.1 hO.1 i t0 (fwW_at hs) ht0 hin hd (k p e s m args below meth c H locs Ls hE hO hS hL)
theorem fwg_ld_byte {i n : Nat} {j : Int32} (hs : sh[i]? = some (.inl (.byte, n))) (hin : vp_in j n) (hd : decode M.2.1 pc = .ok (.baload, 1)) (k : fwG l Z M d mc ms Post nc ns (pc + 1) ls (.int (σ.1 i j.toNatClampNeg) :: r) sh σ) : fwG l Z M d mc ms Post nc ns pc ls (.int j :: .ref i :: r) sh σ := by
  intro p e s m args below meth c H locs Ls hE hO hS hL
  obtain ⟨t0, ht0⟩ := fwTys_at Z (t := .byte) (by decide)
  exact va_bald hE.1 hE.2.1 hE.2.2.2.2.2.2.2.1 hO.1 i t0 (fwW_at hs) ht0 hin hd (k p e s m args below meth c H locs Ls hE hO hS hL)
theorem fwg_ld_boolean {i n : Nat} {j : Int32} (hs : sh[i]? = some (.inl (.boolean, n))) (hin : vp_in j n) (hd : decode M.2.1 pc = .ok (.baload, 1)) (k : fwG l Z M d mc ms Post nc ns (pc + 1) ls (.int (σ.1 i j.toNatClampNeg) :: r) sh σ) : fwG l Z M d mc ms Post nc ns pc ls (.int j :: .ref i :: r) sh σ := by
  intro p e s m args below meth c H locs Ls hE hO hS hL
  obtain ⟨t0, ht0⟩ := fwTys_at Z (t := .boolean) (by decide)
  exact va_zald hE.1 hE.2.1 hE.2.2.2.2.2.2.2.1 hO.1 i t0 (fwW_at hs) ht0 hin hd (k p e s m args below meth c H locs Ls hE hO hS hL)
theorem fwg_ld_long {i n : Nat} {j : Int32} (hs : sh[i]? = some (.inl (.long, n))) (hin : vp_in j n) (hd : decode M.2.1 pc = .ok (.laload, 1)) (k : fwG l Z M d mc ms Post nc ns (pc + 1) ls (.long (σ.2 i j.toNatClampNeg) :: r) sh σ) : fwG l Z M d mc ms Post nc ns pc ls (.int j :: .ref i :: r) sh σ := by
  intro p e s m args below meth c H locs Ls hE hO hS hL
  obtain ⟨t0, ht0⟩ := fwTys_at Z (t := .long) (by decide)
  exact va_lald hE.1 hE.2.1 hE.2.2.2.2.2.2.2.1 hO.1 i t0 (fwW_at hs) ht0 hin hd (k p e s m args below meth c H locs Ls hE hO hS hL)
theorem fwg_st_int {i n : Nat} {j : Int32} {x : Int32} (hs : sh[i]? = some (.inl (.int, n))) (hin : vp_in j n) (hd : decode M.2.1 pc = .ok (.iastore, 1)) (k : fwG l Z M d mc ms Post nc ns (pc + 1) ls r sh (fwI σ i j.toNatClampNeg x)) : fwG l Z M d mc ms Post nc ns pc ls (.int x :: .int j :: .ref i :: r) sh σ := by
  intro p e s m args below meth c H locs Ls hE hO hS hL
  obtain ⟨t0, ht0⟩ := fwTys_at Z (t := .int) (by decide)
  have hK := hE.2.2.2.2.2.2.2.1
  refine W.iast hE.1 hE.2.1 (hO.1 i _ (fwW_at hs)) ((hK.2 t0 _ ht0).1 n (fun j => .int (σ.1 i j))) (fun q => by cases q) (by show ¬ (j < 0 ∨ (arrV _ _ _).slots.size ≤ _); rw [arrV_size]; exact hin) rfl rfl hd fun H1 e1 z oq => ?_
  refine k p e s m args below meth c H1 _ Ls hE (fwOk_set hO hs ?_ (fun j hj b => ⟨fwI_ne hj, rfl⟩) z oq (fwFit_I hO.2.2 (fun n hn => by rw [hs] at hn; cases hn))) (hS.put z oq (by show Z.2.2.2.1 ≤ Z.2.2.2.1 + i; omega)) hL
  show H1[Z.B + i]? = some (vp_cell (Z.2.2.1 .int) (n, .inl ((fwI σ i j.toNatClampNeg x).1 i)))
  rw [e1]
  show some ((arrV (Z.2.2.1 .int) n (fun q => .int (σ.1 i q))).setSlot _ _) = some (arrV (Z.2.2.1 .int) n (fun q => .int ((fwI σ i j.toNatClampNeg x).1 i q)))
  rw [arrV_store]
  congr 2
  funext q
  by_cases hq : q = j.toNatClampNeg
  · subst hq
    simp [updV, fwI, narrow]
  · simp [updV, hq, fwI]
theorem fwg_st_byte {i n : Nat} {j : Int32} {x : Int32} (hs : sh[i]? = some (.inl (.byte, n))) (hin : vp_in j n) (hd : decode M.2.1 pc = .ok (.bastore, 1)) (k : fwG l Z M d mc ms Post nc ns (pc + 1) ls r sh (fwI σ i j.toNatClampNeg x.toInt8.toInt32)) : fwG l Z M d mc ms Post nc ns pc ls (.int x :: .int j :: .ref i :: r) sh σ := by
  intro p e s m args below meth c H locs Ls hE hO hS hL
  obtain ⟨t0, ht0⟩ := fwTys_at Z (t := .byte) (by decide)
  have hK := hE.2.2.2.2.2.2.2.1
  refine W.bast hE.1 hE.2.1 (hO.1 i _ (fwW_at hs)) ((hK.2 t0 _ ht0).1 n (fun j => .int (σ.1 i j))) (fun q => by cases q) (by show ¬ (j < 0 ∨ (arrV _ _ _).slots.size ≤ _); rw [arrV_size]; exact hin) rfl rfl hd fun H1 e1 z oq => ?_
  refine k p e s m args below meth c H1 _ Ls hE (fwOk_set hO hs ?_ (fun j hj b => ⟨fwI_ne hj, rfl⟩) z oq (fwFit_I hO.2.2 (fun n hn => pk_fb x))) (hS.put z oq (by show Z.2.2.2.1 ≤ Z.2.2.2.1 + i; omega)) hL
  show H1[Z.B + i]? = some (vp_cell (Z.2.2.1 .byte) (n, .inl ((fwI σ i j.toNatClampNeg x.toInt8.toInt32).1 i)))
  rw [e1]
  show some ((arrV (Z.2.2.1 .byte) n (fun q => .int (σ.1 i q))).setSlot _ _) = some (arrV (Z.2.2.1 .byte) n (fun q => .int ((fwI σ i j.toNatClampNeg x.toInt8.toInt32).1 i q)))
  rw [arrV_store]
  congr 2
  funext q
  by_cases hq : q = j.toNatClampNeg
  · subst hq
    simp [updV, fwI, narrow]
  · simp [updV, hq, fwI]
theorem fwg_st_boolean {i n : Nat} {j : Int32} {x : Int32} (hs : sh[i]? = some (.inl (.boolean, n))) (hin : vp_in j n) (hd : decode M.2.1 pc = .ok (.bastore, 1)) (k : fwG l Z M d mc ms Post nc ns (pc + 1) ls r sh (fwI σ i j.toNatClampNeg (x &&& 1))) : fwG l Z M d mc ms Post nc ns pc ls (.int x :: .int j :: .ref i :: r) sh σ := by
  intro p e s m args below meth c H locs Ls hE hO hS hL
  obtain ⟨t0, ht0⟩ := fwTys_at Z (t := .boolean) (by decide)
  have hK := hE.2.2.2.2.2.2.2.1
  refine W.zast hE.1 hE.2.1 (hO.1 i _ (fwW_at hs)) ((hK.2 t0 _ ht0).1 n (fun j => .int (σ.1 i j))) (fun q => by cases q) (by show ¬ (j < 0 ∨ (arrV _ _ _).slots.size ≤ _); rw [arrV_size]; exact hin) rfl rfl hd fun H1 e1 z oq => ?_
  refine k p e s m args below meth c H1 _ Ls hE (fwOk_set hO hs ?_ (fun j hj b => ⟨fwI_ne hj, rfl⟩) z oq (fwFit_I hO.2.2 (fun n hn => by rw [hs] at hn; cases hn))) (hS.put z oq (by show Z.2.2.2.1 ≤ Z.2.2.2.1 + i; omega)) hL
  show H1[Z.B + i]? = some (vp_cell (Z.2.2.1 .boolean) (n, .inl ((fwI σ i j.toNatClampNeg (x &&& 1)).1 i)))
  rw [e1]
  show some ((arrV (Z.2.2.1 .boolean) n (fun q => .int (σ.1 i q))).setSlot _ _) = some (arrV (Z.2.2.1 .boolean) n (fun q => .int ((fwI σ i j.toNatClampNeg (x &&& 1)).1 i q)))
  rw [arrV_store]
  congr 2
  funext q
  by_cases hq : q = j.toNatClampNeg
  · subst hq
    simp [updV, fwI, narrow]
  · simp [updV, hq, fwI]
theorem fwg_st_long {i n : Nat} {j : Int32} {x : Int64} (hs : sh[i]? = some (.inl (.long, n))) (hin : vp_in j n) (hd : decode M.2.1 pc = .ok (.lastore, 1)) (k : fwG l Z M d mc ms Post nc ns (pc + 1) ls r sh (fwL σ i j.toNatClampNeg x)) : fwG l Z M d mc ms Post nc ns pc ls (.long x :: .int j :: .ref i :: r) sh σ := by
  intro p e s m args below meth c H locs Ls hE hO hS hL
  obtain ⟨t0, ht0⟩ := fwTys_at Z (t := .long) (by decide)
  have hK := hE.2.2.2.2.2.2.2.1
  refine W.last hE.1 hE.2.1 (hO.1 i _ (fwW_at hs)) ((hK.2 t0 _ ht0).1 n (fun j => .long (σ.2 i j))) (fun q => by cases q) (by show ¬ (j < 0 ∨ (arrV _ _ _).slots.size ≤ _); rw [arrV_size]; exact hin) rfl rfl hd fun H1 e1 z oq => ?_
  refine k p e s m args below meth c H1 _ Ls hE (fwOk_set hO hs ?_ (fun j hj b => ⟨rfl, fwL_ne hj⟩) z oq (fwFit_L hO.2.2)) (hS.put z oq (by show Z.2.2.2.1 ≤ Z.2.2.2.1 + i; omega)) hL
  show H1[Z.B + i]? = some (vp_cell (Z.2.2.1 .long) (n, .inr <| .inl ((fwL σ i j.toNatClampNeg x).2 i)))
  rw [e1]
  show some ((arrV (Z.2.2.1 .long) n (fun q => .long (σ.2 i q))).setSlot _ _) = some (arrV (Z.2.2.1 .long) n (fun q => .long ((fwL σ i j.toNatClampNeg x).2 i q)))
  rw [arrV_store]
  congr 2
  funext q
  by_cases hq : q = j.toNatClampNeg
  · subst hq
    simp [updV, fwL, narrow]
  · simp [updV, hq, fwL]
end FWS
end
section
/-! putfield; tables -/
section FWP
variable {idx : Nat} {l : Launch} {Z : fwZ} {M : fwM} {d mc ms : Nat} {Post : fwPost} {nc ns pc : Nat} {ls : List (Option Value)} {st r : List Value} {sh : List fwE} {σ : fwS}
theorem fw_putcore {p : Program} {e : Env} {R : Room} {s : State} {m : MethodId} {args : Array Value} {below : List Frame} {meth : Method} {c : Code} {H : Heap} {locs : List Loc} {cells slots : Nat} {Q : State → Prop} {Ls : Array Slot} {rest : List Value} {i ci kk idx : Nat} {fs : List Value} {v : Value}
    (hE : fwEnv Z M p s m args meth c) (hP : va_at Z.D fwCl (Z.B + i, .inr (ci, fs)) H) (hm : (M.1.cls, idx, ci, kk) ∈ fwFl) (hfin : ((fwCl.getD ci fwC_0).2.1 kk).2.2.2 = false) (hn : narrow (fwTyOf ci kk) v = v) (hfit : fits (fwTyOf ci kk) v = true) (hl : kk < fs.length) (hd : decode M.2.1 pc = .ok (.putfield idx, 3))
    (k : ∀ (H1 : Heap) (b : Nat), va_at Z.D fwCl (Z.B + i, .inr (ci, fs.set kk v)) H1 → H1.size = H.size → (∀ q : Nat, q ≠ Z.B + i → H1[q]? = H[q]?) → W p l e R s m args below meth c H1 (locs ++ [⟨Z.B + i, b⟩]) cells slots Q (F0 m (pc + 3) Ls rest)) : W p l e R s m args below meth c H locs cells slots Q (F0 m pc Ls (v :: .ref (Z.B + i) :: rest)) := by
  obtain ⟨hlt1, hlt2⟩ := fwFl_lt _ hm
  have hcl : fwCl[ci]? = some (fwCl.getD ci fwC_0) := by
    rw [List.getD_eq_getElem?_getD, List.getElem?_eq_getElem hlt1]; rfl
  obtain ⟨hck1, hck2, hck3⟩ := fwCl_ok ci _ hcl
  have hin : ∀ w ∈ u_ws (fwCl.getD ci fwC_0).1 (fwCl.getD ci fwC_0).2.1 (fwCl.getD ci fwC_0).2.2, w ∈ fwWs M := fun w hw => List.mem_cons_of_mem _ (hck1 w hw)
  obtain ⟨hx, hb, -, -, hown, hts, -, hK, -⟩ := hE
  have hlink := hts _ (List.mem_cons_of_mem _ (fwFl_in _ (List.mem_map.mpr ⟨_, hm, rfl⟩)))
  have hdecl := fwCl_own _ (List.mem_of_getElem? hcl) kk hlt2
  have hap := va_apart (own := M.1.cls) hts hin (fwTyOf ci) hck3 hck2 hK hcl
  obtain ⟨q, h1, cell, q1, q2, q3, q4⟩ := hP
  have hq : q = fwCl.getD ci fwC_0 := Option.some.inj (h1.symm.trans hcl)
  subst hq
  obtain ⟨hS, hfc, kC, hkC, hkind⟩ := hK.1 ci _ hcl
  obtain ⟨cf, kf, fi, f, hi, hsl⟩ := hS kk hlt2
  have hlay := hts _ (hin _ (u_in_lay hlt2))
  unfold u_lay at hlay
  rw [if_neg (by rw [hfin]; decide)] at hlay
  have hst := (u_facts hfc hkC (u_lays hts hin hlt2) hi).1
  have h6 := u_store hfc hkC hkind hlay hi (hck3 kk hlt2) hn hfit
  rw [hdecl] at hi
  refine W.putK hx hb (f := f) ⟨hown, hlink, ⟨_, _, _, hi⟩, hst⟩ (by rw [q2]; exact h6) q1 q3 (by rw [hsl]; exact k2_hasslot (q4 kk hlt2)) rfl rfl hd fun H' e1 e2 e3 => ?_
  rw [hsl] at e1 ⊢
  exact k H' _ ⟨_, hcl, t_OB.to (V := updV (vp_V fs) kk v) ⟨_, e1, q2, q3, t_set q4 hap hlt2 v⟩ (fun j _ => vp_updV_set hl v j)⟩ e2 e3
theorem fwX_putI {i kk ci : Nat} {ts : List Value} {x0 v : Int32} (hk : ts[kk]? = some (.int x0)) : fwX Z (fwI σ i kk v) i (.inr (ci, ts)) = .inr (ci, (ts.mapIdx (fun k v => fwFv Z σ i k v)).set kk (.int v)) := by
  show Sum.inr _ = Sum.inr _
  congr 2
  apply List.ext_getElem?
  intro q
  have hlen : kk < ts.length := (List.getElem?_eq_some_iff.mp hk).1
  by_cases hq : q = kk
  · subst hq
    rw [List.getElem?_set_self (by rw [List.length_mapIdx]; exact hlen), List.getElem?_mapIdx, hk]
    show some (Value.int ((fwI σ i q v).1 i q)) = _
    rw [fwI_eq]
  · rw [List.getElem?_set_ne (Ne.symm hq), List.getElem?_mapIdx, List.getElem?_mapIdx]
    cases ts[q]? with
    | none => rfl
    | some w => cases w <;> simp [fwFv, fwI_ne2 hq] <;> rfl
theorem fwX_putL {i kk ci : Nat} {ts : List Value} {x0 v : Int64} (hk : ts[kk]? = some (.long x0)) : fwX Z (fwL σ i kk v) i (.inr (ci, ts)) = .inr (ci, (ts.mapIdx (fun k v => fwFv Z σ i k v)).set kk (.long v)) := by
  show Sum.inr _ = Sum.inr _
  congr 2
  apply List.ext_getElem?
  intro q
  have hlen : kk < ts.length := (List.getElem?_eq_some_iff.mp hk).1
  by_cases hq : q = kk
  · subst hq
    rw [List.getElem?_set_self (by rw [List.length_mapIdx]; exact hlen), List.getElem?_mapIdx, hk]
    show some (Value.long ((fwL σ i q v).2 i q)) = _
    rw [fwL_eq]
  · rw [List.getElem?_set_ne (Ne.symm hq), List.getElem?_mapIdx, List.getElem?_mapIdx]
    cases ts[q]? with
    | none => rfl
    | some w => cases w <;> simp [fwFv, fwL_ne2 hq] <;> rfl
theorem fwg_putI {i ci kk idx : Nat} {ts : List Value} {x0 x : Int32} (hs : sh[i]? = some (.inr (ci, ts))) (ht : ts[kk]? = some (.int x0)) (hm : (M.1.cls, idx, ci, kk) ∈ fwFl) (hfin : ((fwCl.getD ci fwC_0).2.1 kk).2.2.2 = false) (hn : narrow (fwTyOf ci kk) (.int x) = .int x) (hfit : fits (fwTyOf ci kk) (.int x) = true) (hd : decode M.2.1 pc = .ok (.putfield idx, 3)) (k : fwG l Z M d mc ms Post nc ns (pc + 3) ls r sh (fwI σ i kk x)) : fwG l Z M d mc ms Post nc ns pc ls (.int x :: .ref i :: r) sh σ := by
  intro p e s m args below meth c H locs Ls hE hO hS hL
  have hlen : kk < ts.length := (List.getElem?_eq_some_iff.mp ht).1
  refine fw_putcore hE (hO.1 i _ (fwW_at hs)) hm hfin hn hfit (by rw [List.length_mapIdx]; exact hlen) hd fun H1 b hx z oq => ?_
  refine k p e s m args below meth c H1 _ Ls hE (fwOk_set hO hs (by rw [fwX_putI ht]; exact hx) (fun j hj b => ⟨fwI_ne hj, rfl⟩) z oq (fwFit_I hO.2.2 (fun n hn => by rw [hs] at hn; cases hn))) (hS.put z oq (by show Z.2.2.2.1 ≤ Z.2.2.2.1 + i; omega)) hL
theorem fwg_putL {i ci kk idx : Nat} {ts : List Value} {x0 x : Int64} (hs : sh[i]? = some (.inr (ci, ts))) (ht : ts[kk]? = some (.long x0)) (hm : (M.1.cls, idx, ci, kk) ∈ fwFl) (hfin : ((fwCl.getD ci fwC_0).2.1 kk).2.2.2 = false) (hty : fwTyOf ci kk = .long) (hd : decode M.2.1 pc = .ok (.putfield idx, 3)) (k : fwG l Z M d mc ms Post nc ns (pc + 3) ls r sh (fwL σ i kk x)) : fwG l Z M d mc ms Post nc ns pc ls (.long x :: .ref i :: r) sh σ := by
  intro p e s m args below meth c H locs Ls hE hO hS hL
  have hlen : kk < ts.length := (List.getElem?_eq_some_iff.mp ht).1
  refine fw_putcore hE (hO.1 i _ (fwW_at hs)) hm hfin (v := .long x) (by rw [hty]; rfl) (by rw [hty]; rfl) (by rw [List.length_mapIdx]; exact hlen) hd fun H1 b hx z oq => ?_
  refine k p e s m args below meth c H1 _ Ls hE (fwOk_set hO hs (by rw [fwX_putL ht]; exact hx) (fun j hj b => ⟨rfl, fwL_ne hj⟩) z oq (fwFit_L hO.2.2)) (hS.put z oq (by show Z.2.2.2.1 ≤ Z.2.2.2.1 + i; omega)) hL
theorem fwg_ld_tab {c : Nat} {j : Int32} (hin : vp_in j (fwTn c)) (hd : decode M.2.1 pc = .ok (.iaload, 1)) (k : fwG l Z M d mc ms Post nc ns (pc + 1) ls (.int (fwTv c j.toNatClampNeg) :: r) sh σ) : fwG l Z M d mc ms Post nc ns pc ls (.int j :: .retAddr c :: r) sh σ := by
  intro p e s m args below meth cc H locs Ls hE hO hS hL
  cases hf : fwTb.find? (fun q => q.2.2.1 == c) with
  | none =>
    have h0 : fwTn c = 0 := by unfold fwTn; rw [hf]
    rw [h0] at hin
    exact absurd (Or.inr (Nat.zero_le _)) hin
  | some q =>
    have hq : q.2.2.1 = c := by simpa using List.find?_some hf
    have hm : q ∈ fwTb := List.mem_of_find?_eq_some hf
    have h1 : fwTn c = q.2.2.2.length := by unfold fwTn; rw [hf]
    have h2 : ∀ j, fwTv c j = q.2.2.2.getD j 0 := fun j => by unfold fwTv; rw [hf]
    have hT := (hE.2.2.2.2.2.2.2.2.2.1.2.2.1 q hm).2
    rw [hq] at hT
    rw [h1] at hin
    exact va_ti hE.1 hE.2.1 hT hS hin (by rw [h2]; rfl) hd (k p e s m args below meth cc H locs Ls hE hO hS hL)
theorem fwg_getT {t : Nat} (hm : (M.1.cls, idx, t) ∈ fwSg) (hd : decode M.2.1 pc = .ok (.getstatic idx, 3)) (k : fwG l Z M d mc ms Post nc ns (pc + 3) ls (.retAddr (fwTb.getD t ("", "", 0, [])).2.2.1 :: st) sh σ) : fwG l Z M d mc ms Post nc ns pc ls st sh σ := by
  intro p e s m args below meth cc H locs Ls hE hO hS hL
  have hlt := fwSg_lt _ hm
  have hq : fwTb.getD t ("", "", 0, []) ∈ fwTb := by
    rw [List.getD_eq_getElem?_getD, List.getElem?_eq_getElem hlt]
    exact List.getElem_mem hlt
  exact va_gets hE.1 hE.2.1 (hE.2.2.2.2.2.2.2.2.2.1.2.2.1 _ hq).1 hS hE.2.2.2.2.1 (hE.2.2.2.2.2.1 _ (List.mem_cons_of_mem _ (fwSg_in _ (List.mem_map.mpr ⟨_, hm, rfl⟩)))) (fun x h => h) hd (k p e s m args below meth cc H locs Ls hE hO hS hL)
theorem fwg_getN {t : Nat} (hm : (M.1.cls, idx, t) ∈ fwSn) (hd : decode M.2.1 pc = .ok (.getstatic idx, 3)) (k : fwG l Z M d mc ms Post nc ns (pc + 3) ls (.int (fwSi.getD t ("", "", "", 0)).2.2.2 :: st) sh σ) : fwG l Z M d mc ms Post nc ns pc ls st sh σ := by
  intro p e s m args below meth cc H locs Ls hE hO hS hL
  have hlt := fwSn_lt _ hm
  have hq : fwSi.getD t ("", "", "", 0) ∈ fwSi := by
    rw [List.getD_eq_getElem?_getD, List.getElem?_eq_getElem hlt]
    exact List.getElem_mem hlt
  exact va_gets hE.1 hE.2.1 (hE.2.2.2.2.2.2.2.2.2.1.2.2.2.2.1 _ hq) hS hE.2.2.2.2.1 (hE.2.2.2.2.2.1 _ (List.mem_cons_of_mem _ (fwSn_in _ (List.mem_map.mpr ⟨_, hm, rfl⟩)))) (fun x h => h) hd (k p e s m args below meth cc H locs Ls hE hO hS hL)
theorem fwg_sval {c : Nat} (hc : c < fwNs) (hm : (M.1.cls, idx, 0) ∈ fwSf) (hd : decode M.2.1 pc = .ok (.getfield idx, 3)) (k : fwG l Z M d mc ms Post nc ns (pc + 3) ls (.retAddr (c + 1000) :: r) sh σ) : fwG l Z M d mc ms Post nc ns pc ls (.retAddr c :: r) sh σ := by
  intro p e s m args below meth cc H locs Ls hE hO hS hL
  exact vk_getf hE.1 hE.2.1 (hE.2.2.2.2.2.2.2.2.2.1.1.1 c hc).2.2.1 hS hE.2.2.2.2.1 (hE.2.2.2.2.2.1 _ (List.mem_cons_of_mem _ (fwSf_in _ (List.mem_map.mpr ⟨_, hm, rfl⟩)))) (fun x h => h) hd (k p e s m args below meth cc H locs Ls hE hO hS hL)
theorem fwg_scod {c : Nat} (hc : c < fwNs) (hm : (M.1.cls, idx, 1) ∈ fwSf) (hd : decode M.2.1 pc = .ok (.getfield idx, 3)) (k : fwG l Z M d mc ms Post nc ns (pc + 3) ls (.int 0 :: r) sh σ) : fwG l Z M d mc ms Post nc ns pc ls (.retAddr c :: r) sh σ := by
  intro p e s m args below meth cc H locs Ls hE hO hS hL
  exact vk_getf hE.1 hE.2.1 (hE.2.2.2.2.2.2.2.2.2.1.1.1 c hc).2.1 hS hE.2.2.2.2.1 (hE.2.2.2.2.2.1 _ (List.mem_cons_of_mem _ (fwSf_in _ (List.mem_map.mpr ⟨_, hm, rfl⟩)))) (fun x h => h) hd (k p e s m args below meth cc H locs Ls hE hO hS hL)
theorem fwg_slen {c : Nat} (h1 : ¬ c < 1000) (hc : c - 1000 < fwNs) (hd : decode M.2.1 pc = .ok (.arraylength, 1)) (k : fwG l Z M d mc ms Post nc ns (pc + 1) ls (.int (Int32.ofNat (fwSl.getD (c - 1000) 0)) :: r) sh σ) : fwG l Z M d mc ms Post nc ns pc ls (.retAddr c :: r) sh σ := by
  intro p e s m args below meth cc H locs Ls hE hO hS hL
  have hT := (hE.2.2.2.2.2.2.2.2.2.1.1.1 (c - 1000) hc).2.2.2
  have h2 : c - 1000 + 1000 = c := by omega
  dsimp only at hT
  rw [h2] at hT
  exact va_tlen hE.1 hE.2.1 hT hS rfl hd (k p e s m args below meth cc H locs Ls hE hO hS hL)
theorem fwg_sld {c : Nat} {j : Int32} (h1 : ¬ c < 1000) (hc : c - 1000 < fwNs) (hin : vp_in j (fwSl.getD (c - 1000) 0)) (hd : decode M.2.1 pc = .ok (.baload, 1)) (k : fwG l Z M d mc ms Post nc ns (pc + 1) ls (.int ((fwSb.getD (c - 1000) []).getD j.toNatClampNeg 0) :: r) sh σ) : fwG l Z M d mc ms Post nc ns pc ls (.int j :: .retAddr c :: r) sh σ := by
  intro p e s m args below meth cc H locs Ls hE hO hS hL
  have hT := (hE.2.2.2.2.2.2.2.2.2.1.1.1 (c - 1000) hc).2.2.2
  have h2 : c - 1000 + 1000 = c := by omega
  dsimp only at hT
  rw [h2] at hT
  exact va_tb hE.1 hE.2.1 hT hS hin rfl hd (k p e s m args below meth cc H locs Ls hE hO hS hL)
theorem fwg_getQ (hw : Cond.fieldLink M.1.cls idx "jdk/internal/util/Preconditions" "SIOOBE_FORMATTER" "Ljava/util/function/BiFunction;" ∈ fwT) (hd : decode M.2.1 pc = .ok (.getstatic idx, 3)) (k : fwG l Z M d mc ms Post nc ns (pc + 3) ls (fwSv Z :: st) sh σ) : fwG l Z M d mc ms Post nc ns pc ls st sh σ := by
  intro p e s m args below meth cc H locs Ls hE hO hS hL
  exact va_gets hE.1 hE.2.1 hE.2.2.2.2.2.2.2.2.2.1.2.2.2.2.2 hS hE.2.2.2.2.1 (hE.2.2.2.2.2.1 _ (List.mem_cons_of_mem _ hw)) (fun x h => h) hd (k p e s m args below meth cc H locs Ls hE hO hS hL)
end FWP
end
section
/-! fwStep is sound; a run of instructions (laid by wip/whole/mkok.py) -/
section FWK
variable {l : Launch} {Z : fwZ} {M : fwM} {d mc ms : Nat} {Post : fwPost} {nc ns pc : Nat}
set_option maxHeartbeats 4000000 in
theorem fwStep_ok {o : fwO} {ls ls' : List (Option Value)} {st st' : List Value} {sh sh' : List fwE} {σ σ' : fwS} {φs : List Prop} (hc : fwChk M.1.cls o = true) (hd : decode M.2.1 pc = .ok (o.1, fwLen o.1)) (ho : fwStep o ls st sh σ = some (φs, ls', st', sh', σ')) (hφ : fwAll φs) (k : fwG l Z M d mc ms Post nc ns (pc + fwLen o.1) ls' st' sh' σ') : fwG l Z M d mc ms Post nc ns pc ls st sh σ := by
  obtain ⟨i, a, b, v⟩ := o
  cases i with
  | iconst n =>
    cases ho
    have hv := of_decide_eq_true hc
    dsimp only at hv
    subst hv
    exact fwg_s (fun hx hb k => lv_iconst hx hb hd rfl k) k
  | bipush n =>
    cases ho
    have hv := of_decide_eq_true hc
    dsimp only at hv
    subst hv
    exact fwg_s (fun hx hb k => lv_bipush hx hb hd rfl k) k
  | sipush n =>
    cases ho
    have hv := of_decide_eq_true hc
    dsimp only at hv
    subst hv
    exact fwg_s (fun hx hb k => lv_sipush hx hb hd rfl k) k
  | lconst n =>
    cases ho
    have hv := of_decide_eq_true hc
    dsimp only at hv
    subst hv
    exact fwg_s (fun hx hb k => lv_lconst hx hb hd rfl k) k
  | ldc n =>
    cases ho
    dsimp only [fwChk] at hc
    split at hc
    · have hm := List.mem_of_getElem? (of_decide_eq_true hc)
      exact fwg_ldc rfl hm hd k
    · split at hc
      · rename_i q hq
        obtain ⟨h1, h2, h3⟩ := of_decide_eq_true hc
        subst h2
        subst h3
        exact fwg_ldcS h1.symm (List.mem_of_getElem? hq) hd k
      · cases hc
    · cases hc
  | ldc2_w n =>
    cases ho
    dsimp only [fwChk] at hc
    split at hc
    · have hm := List.mem_of_getElem? (of_decide_eq_true hc)
      exact fwg_ldc2 rfl hm hd k
    · cases hc
  | iload_n n =>
    dsimp only [fwStep] at ho
    split at ho
    · rename_i x heq
      cases ho
      intro p e s m args below meth c H locs Ls hE hO hS hL
      exact lv_iload_n hE.1 hE.2.1 hd rfl (hL.2.2 _ _ heq) (k p e s m args below meth c H locs Ls hE hO hS hL)
    · cases ho
  | iload n =>
    dsimp only [fwStep] at ho
    split at ho
    · rename_i x heq
      cases ho
      intro p e s m args below meth c H locs Ls hE hO hS hL
      exact lv_iload hE.1 hE.2.1 hd (hL.2.2 _ _ heq) (k p e s m args below meth c H locs Ls hE hO hS hL)
    · cases ho
  | lload_n n =>
    dsimp only [fwStep] at ho
    split at ho
    · rename_i x heq
      cases ho
      intro p e s m args below meth c H locs Ls hE hO hS hL
      exact lv_lload_n hE.1 hE.2.1 hd rfl (hL.2.2 _ _ heq) (k p e s m args below meth c H locs Ls hE hO hS hL)
    · cases ho
  | lload n =>
    dsimp only [fwStep] at ho
    split at ho
    · rename_i x heq
      cases ho
      intro p e s m args below meth c H locs Ls hE hO hS hL
      exact lv_lload hE.1 hE.2.1 hd (hL.2.2 _ _ heq) (k p e s m args below meth c H locs Ls hE hO hS hL)
    · cases ho
  | aload_n n =>
    dsimp only [fwStep] at ho
    split at ho
    · rename_i x heq
      cases ho
      intro p e s m args below meth c H locs Ls hE hO hS hL
      exact lv_aload_n hE.1 hE.2.1 hd rfl (hL.2.2 _ _ heq) (k p e s m args below meth c H locs Ls hE hO hS hL)
    · rename_i x heq
      cases ho
      intro p e s m args below meth c H locs Ls hE hO hS hL
      exact lv_aload_n hE.1 hE.2.1 hd rfl (hL.2.2 _ _ heq) (k p e s m args below meth c H locs Ls hE hO hS hL)
    · cases ho
  | aload n =>
    dsimp only [fwStep] at ho
    split at ho
    · rename_i x heq
      cases ho
      intro p e s m args below meth c H locs Ls hE hO hS hL
      exact lv_aload hE.1 hE.2.1 hd (hL.2.2 _ _ heq) (k p e s m args below meth c H locs Ls hE hO hS hL)
    · rename_i x heq
      cases ho
      intro p e s m args below meth c H locs Ls hE hO hS hL
      exact lv_aload hE.1 hE.2.1 hd (hL.2.2 _ _ heq) (k p e s m args below meth c H locs Ls hE hO hS hL)
    · cases ho
  | istore_n n =>
    dsimp only [fwStep] at ho
    split at ho
    · split at ho
      · rename_i hlt
        cases ho
        intro p e s m args below meth c H locs Ls hE hO hS hL
        exact lv_istore_n hE.1 hE.2.1 hd rfl hL.has (by rw [← hL.2.1]; exact hlt) rfl (fun Ls' hL' => k p e s m args below meth c H locs Ls' hE hO hS (fwLv_set1 hL.2.1 hlt hL'))
      · cases ho
    · cases ho
  | istore n =>
    dsimp only [fwStep] at ho
    split at ho
    · split at ho
      · rename_i hlt
        cases ho
        intro p e s m args below meth c H locs Ls hE hO hS hL
        exact lv_istore hE.1 hE.2.1 hd hL.has (by rw [← hL.2.1]; exact hlt) rfl (fun Ls' hL' => k p e s m args below meth c H locs Ls' hE hO hS (fwLv_set1 hL.2.1 hlt hL'))
      · cases ho
    · cases ho
  | lstore_n n =>
    dsimp only [fwStep] at ho
    split at ho
    · split at ho
      · rename_i hlt
        cases ho
        intro p e s m args below meth c H locs Ls hE hO hS hL
        exact lv_lstore_n hE.1 hE.2.1 hd rfl hL.has (by rw [← hL.2.1]; exact hlt) rfl (fun Ls' hL' => k p e s m args below meth c H locs Ls' hE hO hS (fwLv_set2 hL.2.1 hlt hL'))
      · cases ho
    · cases ho
  | lstore n =>
    dsimp only [fwStep] at ho
    split at ho
    · split at ho
      · rename_i hlt
        cases ho
        intro p e s m args below meth c H locs Ls hE hO hS hL
        exact lv_lstore hE.1 hE.2.1 hd hL.has (by rw [← hL.2.1]; exact hlt) rfl (fun Ls' hL' => k p e s m args below meth c H locs Ls' hE hO hS (fwLv_set2 hL.2.1 hlt hL'))
      · cases ho
    · cases ho
  | astore_n n =>
    dsimp only [fwStep] at ho
    split at ho
    · split at ho
      · rename_i hlt
        cases ho
        intro p e s m args below meth c H locs Ls hE hO hS hL
        exact lv_astore_n hE.1 hE.2.1 hd rfl hL.has (by rw [← hL.2.1]; exact hlt) rfl (fun Ls' hL' => k p e s m args below meth c H locs Ls' hE hO hS (fwLv_set1 hL.2.1 hlt hL'))
      · cases ho
    · split at ho
      · rename_i hlt
        cases ho
        intro p e s m args below meth c H locs Ls hE hO hS hL
        exact lv_astore_n hE.1 hE.2.1 hd rfl hL.has (by rw [← hL.2.1]; exact hlt) rfl (fun Ls' hL' => k p e s m args below meth c H locs Ls' hE hO hS (fwLv_set1 hL.2.1 hlt hL'))
      · cases ho
    · cases ho
  | astore n =>
    dsimp only [fwStep] at ho
    split at ho
    · split at ho
      · rename_i hlt
        cases ho
        intro p e s m args below meth c H locs Ls hE hO hS hL
        exact lv_astore hE.1 hE.2.1 hd hL.has (by rw [← hL.2.1]; exact hlt) rfl (fun Ls' hL' => k p e s m args below meth c H locs Ls' hE hO hS (fwLv_set1 hL.2.1 hlt hL'))
      · cases ho
    · split at ho
      · rename_i hlt
        cases ho
        intro p e s m args below meth c H locs Ls hE hO hS hL
        exact lv_astore hE.1 hE.2.1 hd hL.has (by rw [← hL.2.1]; exact hlt) rfl (fun Ls' hL' => k p e s m args below meth c H locs Ls' hE hO hS (fwLv_set1 hL.2.1 hlt hL'))
      · cases ho
    · cases ho
  | iinc n z =>
    dsimp only [fwStep] at ho
    split at ho
    · rename_i x w heq
      cases ho
      have hv := of_decide_eq_true hc
      dsimp only at hv
      cases hv
      exact fwg_iinc heq rfl hd k
    · cases ho
  | iadd =>
    dsimp only [fwStep] at ho
    split at ho
    · cases ho
      exact fwg_s (fun hx hb k => lv_iadd hx hb hd k) k
    · cases ho
  | isub =>
    dsimp only [fwStep] at ho
    split at ho
    · cases ho
      exact fwg_s (fun hx hb k => lv_isub hx hb hd k) k
    · cases ho
  | imul =>
    dsimp only [fwStep] at ho
    split at ho
    · cases ho
      exact fwg_s (fun hx hb k => lv_imul hx hb hd k) k
    · cases ho
  | iand =>
    dsimp only [fwStep] at ho
    split at ho
    · cases ho
      exact fwg_s (fun hx hb k => lv_iand hx hb hd k) k
    · cases ho
  | ior =>
    dsimp only [fwStep] at ho
    split at ho
    · cases ho
      exact fwg_s (fun hx hb k => lv_ior hx hb hd k) k
    · cases ho
  | ixor =>
    dsimp only [fwStep] at ho
    split at ho
    · cases ho
      exact fwg_s (fun hx hb k => lv_ixor hx hb hd k) k
    · cases ho
  | ineg =>
    dsimp only [fwStep] at ho
    split at ho
    · cases ho
      exact fwg_s (fun hx hb k => lv_ineg hx hb hd k) k
    · cases ho
  | ishl =>
    dsimp only [fwStep] at ho
    split at ho
    · cases ho
      exact fwg_s (fun hx hb k => lv_ishl hx hb hd k) k
    · cases ho
  | ishr =>
    dsimp only [fwStep] at ho
    split at ho
    · cases ho
      exact fwg_s (fun hx hb k => lv_ishr hx hb hd k) k
    · cases ho
  | ladd =>
    dsimp only [fwStep] at ho
    split at ho
    · cases ho
      exact fwg_s (fun hx hb k => lv_ladd hx hb hd k) k
    · cases ho
  | lmul =>
    dsimp only [fwStep] at ho
    split at ho
    · cases ho
      exact fwg_s (fun hx hb k => lv_lmul hx hb hd k) k
    · cases ho
  | idiv =>
    dsimp only [fwStep] at ho
    split at ho
    · cases ho
      exact fwg_s (fun hx hb k => lv_idiv hx hb hd hφ k) k
    · cases ho
  | irem =>
    dsimp only [fwStep] at ho
    split at ho
    · cases ho
      exact fwg_s (fun hx hb k => lv_irem hx hb hd hφ k) k
    · cases ho
  | lcmp =>
    dsimp only [fwStep] at ho
    split at ho
    · cases ho
      exact fwg_s (fun hx hb k => W.lcmp hx hb hd k) k
    · cases ho
  | i2l =>
    dsimp only [fwStep] at ho
    split at ho
    · cases ho
      exact fwg_s (fun hx hb k => lv_i2l hx hb hd rfl k) k
    · cases ho
  | l2i =>
    dsimp only [fwStep] at ho
    split at ho
    · cases ho
      exact fwg_s (fun hx hb k => lv_l2i hx hb hd rfl k) k
    · cases ho
  | i2b =>
    dsimp only [fwStep] at ho
    split at ho
    · cases ho
      exact fwg_s (fun hx hb k => lv_i2b hx hb hd rfl k) k
    · cases ho
  | i2c =>
    dsimp only [fwStep] at ho
    split at ho
    · cases ho
      exact fwg_s (fun hx hb k => lv_i2c hx hb hd rfl k) k
    · cases ho
  | dup =>
    dsimp only [fwStep] at ho
    split at ho
    · split at ho
      · rename_i hcat
        cases ho
        exact fwg_s (fun hx hb k => lv_dup hx hb hd (by rw [fwV_cat]; exact hcat) k) k
      · cases ho
    · cases ho
  | pop =>
    dsimp only [fwStep] at ho
    split at ho
    · split at ho
      · rename_i hcat
        cases ho
        exact fwg_s (fun hx hb k => lv_pop hx hb hd (by rw [fwV_cat]; exact hcat) k) k
      · cases ho
    · cases ho
  | dup_x1 =>
    dsimp only [fwStep] at ho
    split at ho
    · split at ho
      · rename_i hcat
        cases ho
        exact fwg_s (fun hx hb k => lv_dup_x1 hx hb hd (by rw [fwV_cat]; exact hcat.1) (by rw [fwV_cat]; exact hcat.2) k) k
      · cases ho
    · cases ho
  | dup2 =>
    dsimp only [fwStep] at ho
    split at ho
    · split at ho
      · rename_i hcat
        cases ho
        exact fwg_s (fun hx hb k => lv_dup2_11 hx hb hd (by rw [fwV_cat]; exact hcat.1) (by rw [fwV_cat]; exact hcat.2) k) k
      · cases ho
    · cases ho
  | getstatic n =>
    cases ho
    dsimp only [fwChk] at hc
    split at hc
    · rw [Bool.and_eq_true] at hc
      have hv := of_decide_eq_true hc.2
      subst hv
      exact fwg_getT (List.mem_of_getElem? (of_decide_eq_true hc.1)) hd k
    · rw [Bool.and_eq_true] at hc
      have hv := of_decide_eq_true hc.2
      subst hv
      exact fwg_getN (List.mem_of_getElem? (of_decide_eq_true hc.1)) hd k
    · cases hc
  | getfield n =>
    dsimp only [fwStep] at ho
    split at ho
    · split at ho
      · rename_i hcc
        dsimp only [fwChk] at hc
        split at hc
        · rw [if_pos hcc.1] at hc
          have hm := List.mem_of_getElem? (of_decide_eq_true hc)
          split at ho
          · rename_i hz
            cases ho
            subst hz
            exact fwg_sval hcc.2 hm hd k
          · rename_i hz
            cases ho
            rcases fwSf_01 _ hm with h | h
            · exact absurd h hz
            · dsimp only at h
              subst h
              exact fwg_scod hcc.2 hm hd k
        · cases hc
      · cases ho
    · split at ho
      · rename_i ci ts hs
        split at ho
        · rename_i hci
          obtain ⟨hci, h9⟩ := hci
          split at ho
          · rename_i t ht
            cases ho
            subst hci
            dsimp only [fwChk] at hc
            split at hc
            · rw [if_neg h9] at hc
              exact fwg_get hs ht (List.mem_of_getElem? (of_decide_eq_true hc)) hd k
            · cases hc
          · cases ho
        · cases ho
      · cases ho
    · cases ho
  | putfield n =>
    dsimp only [fwStep] at ho
    split at ho
    · split at ho
      · rename_i ci ts hs
        split at ho
        · rename_i hci
          subst hci
          dsimp only [fwChk] at hc
          split at hc
          · rw [Bool.and_eq_true] at hc
            have hm := List.mem_of_getElem? (of_decide_eq_true hc.1)
            have hf := of_decide_eq_true hc.2
            split at ho
            · rename_i z ht hty
              cases ho
              exact fwg_putI hs ht hm hf (by rw [hty]; rfl) (by rw [hty]; rfl) hd k
            · rename_i z ht hty
              cases ho
              have hx01 := hφ
              exact fwg_putI hs ht hm hf (by rw [hty]; rcases hx01 with h | h <;> rw [h] <;> rfl) (by rw [hty]; rcases hx01 with h | h <;> rw [h] <;> rfl) hd k
            · cases ho
          · cases hc
        · cases ho
      · cases ho
    · split at ho
      · rename_i ci ts hs
        split at ho
        · rename_i hci
          subst hci
          dsimp only [fwChk] at hc
          split at hc
          · rw [Bool.and_eq_true] at hc
            have hm := List.mem_of_getElem? (of_decide_eq_true hc.1)
            have hf := of_decide_eq_true hc.2
            split at ho
            · rename_i z ht hty
              cases ho
              exact fwg_putL hs ht hm hf hty hd k
            · cases ho
          · cases hc
        · cases ho
      · cases ho
    · cases ho
  | arraylength =>
    dsimp only [fwStep] at ho
    split at ho
    · split at ho
      · cases ho
      · rename_i h1
        split at ho
        · rename_i h2
          cases ho
          exact fwg_slen h1 h2 hd k
        · cases ho
    · split at ho
      · rename_i hs
        split at ho
        · rename_i ht
          cases ho
          exact fwg_alen hs ht hd k
        · cases ho
      · cases ho
    · cases ho
  | iaload =>
    dsimp only [fwStep] at ho
    split at ho
    · split at ho
      · rename_i hs
        cases ho
        exact fwg_ld_int hs hφ hd k
      · cases ho
    · cases ho
      exact fwg_ld_tab hφ hd k
    · cases ho
  | baload =>
    dsimp only [fwStep] at ho
    split at ho
    · split at ho
      · cases ho
      · rename_i h1
        split at ho
        · rename_i h2
          cases ho
          exact fwg_sld h1 h2 hφ hd k
        · cases ho
    · split at ho
      · rename_i hs
        cases ho
        exact fwg_ld_byte hs hφ hd k
      · rename_i hs
        cases ho
        exact fwg_ld_boolean hs hφ hd k
      · cases ho
    · cases ho
  | laload =>
    dsimp only [fwStep] at ho
    split at ho
    · split at ho
      · rename_i hs
        cases ho
        exact fwg_ld_long hs hφ hd k
      · cases ho
    · cases ho
  | iastore =>
    dsimp only [fwStep] at ho
    split at ho
    · split at ho
      · rename_i hs
        cases ho
        exact fwg_st_int hs hφ hd k
      · cases ho
    · cases ho
  | bastore =>
    dsimp only [fwStep] at ho
    split at ho
    · split at ho
      · rename_i hs
        cases ho
        exact fwg_st_byte hs hφ hd k
      · rename_i hs
        cases ho
        exact fwg_st_boolean hs hφ hd k
      · cases ho
    · cases ho
  | lastore =>
    dsimp only [fwStep] at ho
    split at ho
    · split at ho
      · rename_i hs
        cases ho
        exact fwg_st_long hs hφ hd k
      · cases ho
    · cases ho
  | _ => cases ho
def fwRun : List fwO → List (Option Value) → List Value → List fwE → fwS → fwRes
  | [], ls, st, sh, σ => some ([], ls, st, sh, σ)
  | o :: os, ls, st, sh, σ => match fwStep o ls st sh σ with
    | none => none
    | some (φ, ls1, st1, sh1, σ1) => match fwRun os ls1 st1 sh1 σ1 with
      | none => none
      | some (ψ, q) => some (φ ++ ψ, q)
/-- the instructions from pc on are these, and the next one is at e -/
def fwChain (own : String) (cc : ByteArray) : Nat → List fwO → Nat → Bool
  | pc, [], e => pc == e
  | pc, o :: os, e => fwChk own o && (match decode cc pc with | .ok (i, n) => decide (i = o.1) && (n == fwLen o.1) | _ => false) && fwChain own cc (pc + fwLen o.1) os e
theorem fwRun_ok {os : List fwO} : ∀ {pc e : Nat} {ls ls' : List (Option Value)} {st st' : List Value} {sh sh' : List fwE} {σ σ' : fwS} {φs : List Prop}, fwChain M.1.cls M.2.1 pc os e = true → fwRun os ls st sh σ = some (φs, ls', st', sh', σ') → fwAll φs → fwG l Z M d mc ms Post nc ns e ls' st' sh' σ' → fwG l Z M d mc ms Post nc ns pc ls st sh σ := by
  induction os with
  | nil =>
    intro pc e ls ls' st st' sh sh' σ σ' φs hc hr hφ k
    cases hr
    have : pc = e := by simpa [fwChain] using hc
    subst this
    exact k
  | cons o os ih =>
    intro pc e ls ls' st st' sh sh' σ σ' φs hc hr hφ k
    dsimp only [fwChain] at hc
    rw [Bool.and_eq_true, Bool.and_eq_true] at hc
    obtain ⟨⟨h1, h2⟩, h3⟩ := hc
    dsimp only [fwRun] at hr
    split at hr
    · cases hr
    · rename_i φ ls1 st1 sh1 σ1 hs1
      split at hr
      · cases hr
      · rename_i ψ q hs2
        cases hr
        obtain ⟨ha, hb⟩ := fwAll_app hφ
        refine fwStep_ok h1 ?_ hs1 ha (ih h3 hs2 hb k)
        split at h2
        · rename_i i n hdec
          rw [Bool.and_eq_true] at h2
          have e1 := of_decide_eq_true h2.1
          have e2 : n = fwLen o.1 := by simpa using h2.2
          rw [hdec, e1, e2]
        · cases h2
end FWK
end
section
/-! branches -/
def fwIf (c : ClassFile.Cond) (x : Int32) : Prop := match c with
  | .eq => x = 0 | .ne => ¬ x = 0 | .lt => x < 0 | .ge => 0 ≤ x | .gt => 0 < x | .le => x ≤ 0
def fwCmp (c : ClassFile.Cond) (x y : Int32) : Prop := match c with
  | .eq => x = y | .ne => ¬ x = y | .lt => x < y | .ge => y ≤ x | .gt => y < x | .le => x ≤ y
section FWB
variable {l : Launch} {Z : fwZ} {M : fwM} {d mc ms : Nat} {Post : fwPost} {nc ns pc : Nat} {ls : List (Option Value)} {st : List Value} {sh : List fwE} {σ : fwS}
theorem fwg_if {c : ClassFile.Cond} {off : Int} {x : Int32} (tgt : Nat) (hd : decode M.2.1 pc = .ok (.ifCond c off, 3)) (ht : (pc : Int) + off = (tgt : Int)) (kt : fwIf c x → fwG l Z M d mc ms Post nc ns tgt ls st sh σ) (kf : ¬ fwIf c x → fwG l Z M d mc ms Post nc ns (pc + 3) ls st sh σ) : fwG l Z M d mc ms Post nc ns pc ls (.int x :: st) sh σ := by
  intro p e s m args below meth cc H locs Ls hE hO hS hL
  cases c
  · exact lv_if_eq hE.1 hE.2.1 hd ht (fun h => kt h p e s m args below meth cc H locs Ls hE hO hS hL) (fun h => kf h p e s m args below meth cc H locs Ls hE hO hS hL)
  · exact lv_if_ne hE.1 hE.2.1 hd ht (fun h => kt h p e s m args below meth cc H locs Ls hE hO hS hL) (fun h => kf (fun q => q h) p e s m args below meth cc H locs Ls hE hO hS hL)
  · exact lv_if_lt hE.1 hE.2.1 hd ht (fun h => kt h p e s m args below meth cc H locs Ls hE hO hS hL) (fun h => kf h p e s m args below meth cc H locs Ls hE hO hS hL)
  · exact lv_if_ge hE.1 hE.2.1 hd ht (fun h => kt h p e s m args below meth cc H locs Ls hE hO hS hL) (fun h => kf h p e s m args below meth cc H locs Ls hE hO hS hL)
  · exact lv_if_gt hE.1 hE.2.1 hd ht (fun h => kt h p e s m args below meth cc H locs Ls hE hO hS hL) (fun h => kf h p e s m args below meth cc H locs Ls hE hO hS hL)
  · exact lv_if_le hE.1 hE.2.1 hd ht (fun h => kt h p e s m args below meth cc H locs Ls hE hO hS hL) (fun h => kf h p e s m args below meth cc H locs Ls hE hO hS hL)
theorem fwg_cmp {c : ClassFile.Cond} {off : Int} {x y : Int32} (tgt : Nat) (hd : decode M.2.1 pc = .ok (.if_icmp c off, 3)) (ht : (pc : Int) + off = (tgt : Int)) (kt : fwCmp c x y → fwG l Z M d mc ms Post nc ns tgt ls st sh σ) (kf : ¬ fwCmp c x y → fwG l Z M d mc ms Post nc ns (pc + 3) ls st sh σ) : fwG l Z M d mc ms Post nc ns pc ls (.int y :: .int x :: st) sh σ := by
  intro p e s m args below meth cc H locs Ls hE hO hS hL
  cases c
  · exact lv_icmp_eq hE.1 hE.2.1 hd ht (fun h => kt h p e s m args below meth cc H locs Ls hE hO hS hL) (fun h => kf h p e s m args below meth cc H locs Ls hE hO hS hL)
  · exact lv_icmp_ne hE.1 hE.2.1 hd ht (fun h => kt h p e s m args below meth cc H locs Ls hE hO hS hL) (fun h => kf (fun q => q h) p e s m args below meth cc H locs Ls hE hO hS hL)
  · exact lv_icmp_lt hE.1 hE.2.1 hd ht (fun h => kt h p e s m args below meth cc H locs Ls hE hO hS hL) (fun h => kf h p e s m args below meth cc H locs Ls hE hO hS hL)
  · exact lv_icmp_ge hE.1 hE.2.1 hd ht (fun h => kt h p e s m args below meth cc H locs Ls hE hO hS hL) (fun h => kf h p e s m args below meth cc H locs Ls hE hO hS hL)
  · exact lv_icmp_gt hE.1 hE.2.1 hd ht (fun h => kt h p e s m args below meth cc H locs Ls hE hO hS hL) (fun h => kf h p e s m args below meth cc H locs Ls hE hO hS hL)
  · exact lv_icmp_le hE.1 hE.2.1 hd ht (fun h => kt h p e s m args below meth cc H locs Ls hE hO hS hL) (fun h => kf h p e s m args below meth cc H locs Ls hE hO hS hL)
theorem fwg_goto {off : Int} (tgt : Nat) (hd : decode M.2.1 pc = .ok (.goto off, 3)) (ht : (pc : Int) + off = (tgt : Int)) (k : fwG l Z M d mc ms Post nc ns tgt ls st sh σ) : fwG l Z M d mc ms Post nc ns pc ls st sh σ :=
  fun p e s m args below meth cc H locs Ls hE hO hS hL => lv_goto hE.1 hE.2.1 hd ht (k p e s m args below meth cc H locs Ls hE hO hS hL)
theorem fwg_tabIn {dflt lo hi off : Int} {offs : Array Int} {len : Nat} {x : Int32} (tgt : Nat) (hd : decode M.2.1 pc = .ok (.tableswitch dflt lo hi offs, len)) (h1 : ¬ x.toInt < lo) (h2 : ¬ hi < x.toInt) (ho : offs[(x.toInt - lo).toNat]? = some off) (ht : (pc : Int) + off = (tgt : Int)) (k : fwG l Z M d mc ms Post nc ns tgt ls st sh σ) : fwG l Z M d mc ms Post nc ns pc ls (.int x :: st) sh σ :=
  fun p e s m args below meth cc H locs Ls hE hO hS hL => lv_tableIn hE.1 hE.2.1 hd h1 h2 ho ht (k p e s m args below meth cc H locs Ls hE hO hS hL)
theorem fwg_tabOut {dflt lo hi : Int} {offs : Array Int} {len : Nat} {x : Int32} (tgt : Nat) (hd : decode M.2.1 pc = .ok (.tableswitch dflt lo hi offs, len)) (h : x.toInt < lo ∨ hi < x.toInt) (ht : (pc : Int) + dflt = (tgt : Int)) (k : fwG l Z M d mc ms Post nc ns tgt ls st sh σ) : fwG l Z M d mc ms Post nc ns pc ls (.int x :: st) sh σ :=
  fun p e s m args below meth cc H locs Ls hE hO hS hL => lv_tableOut hE.1 hE.2.1 hd h ht (k p e s m args below meth cc H locs Ls hE hO hS hL)
theorem fwg_look {dflt off : Int} {ps : Array (Int × Int)} {len : Nat} {x : Int32} (tgt : Nat) (hd : decode M.2.1 pc = .ok (.lookupswitch dflt ps, len)) (hp : (ps.toList.zip (ps.toList.drop 1)).all (fun (a, next) => a.1 < next.1) = true) (ho : Op.lookupswitch.offset ps.toList dflt x.toInt = off) (ht : (pc : Int) + off = (tgt : Int)) (k : fwG l Z M d mc ms Post nc ns tgt ls st sh σ) : fwG l Z M d mc ms Post nc ns pc ls (.int x :: st) sh σ :=
  fun p e s m args below meth cc H locs Ls hE hO hS hL => lv_lookup hE.1 hE.2.1 hd hp ho ht (k p e s m args below meth cc H locs Ls hE hO hS hL)
end FWB
end
section
/-! calls, by contract -/
theorem fwGood {M M' : fwM} (h : Cond.code M'.1 M'.2.1 M'.2.2.1 M'.2.2.2 ∈ fwT) {ws : List Cond} (hw : ∀ w ∈ ws, w ∈ fwT) : GoodIn (fwWs M) (ws ++ fwWs M') := by
  have key : ∀ w, w ∈ fwT → w ∈ fwWs M ∧ ((w.onTables && w.keeps) = true ∨ ∃ ty, w = .arrayClass ty) := fun w hw => ⟨List.mem_cons_of_mem _ hw, good_of_word (List.mem_filter.mp hw).2⟩
  intro w hm
  rcases List.mem_append.mp hm with h1 | h1
  · exact key w (hw w h1)
  · rcases List.mem_cons.mp h1 with h2 | h2
    · rw [h2]; exact key _ h
    · exact key w h2
theorem fwSum (Z : fwZ) (r : List Value) : ((r.map (fwV Z)).map fun v => v.category).sum = (r.map fun v => v.category).sum := by
  rw [List.map_map]
  congr 1
  apply List.map_congr_left
  intro v _
  exact fwV_cat Z v
section FWC
variable {l : Launch} {Z : fwZ} {M M' : fwM} {d mc ms d' mc' ms' : Nat} {Post Post' : fwPost} {nc ns pc : Nat} {ls : List (Option Value)} {st r : List Value} {sh : List fwE} {σ : fwS} {as : List Value} {idx : Nat}
/-- behind a call -/
theorem fw_after {p : Program} {e : Env} {R : Room} {s : State} {m : MethodId} {args : Array Value} {below : List Frame} {meth : Method} {c : Code} {H : Heap} {locs : List Loc} {Q : State → Prop} {Ls : Array Slot} {st0 : List Value} {a : Array Value}
    (hr : va_Run p l e R s m args below meth c H locs nc ns mc' ms' (F0 m pc Ls st0) (r.map (fwV Z)) (fwQ Z Post' a) (fwAq Z)) (hS : va_S (fwAq Z) s.heap H locs)
    (k : ∀ (v : Option Value) (sh' : List fwE) (σ' : fwS) (H1 : Heap) (locs1 : List Loc), Post' v sh' σ' → fwOk Z sh' σ' H1 → va_S (fwAq Z) s.heap H1 locs1 → W p l e R s m args below meth c H1 locs1 (nc + mc') (ns + ms') Q (F0 m (pc + 3) Ls ((v.toList ++ r).map (fwV Z)))) : W p l e R s m args below meth c H locs nc ns Q (F0 m pc Ls st0) := by
  intro T hT X
  obtain ⟨v, st₀, t, T', L, h0, X', hL, e1, e2, ⟨⟨v0, sh', σ', hv, hp, hO⟩, hz, hk⟩, go⟩ := hr T hT X
  cases hv
  rw [h0] at hz hk
  have hS' : va_S (fwAq Z) s.heap T'.heap (locs ++ L) := ⟨Nat.le_trans hS.1 (by rw [e1]; exact hz), fun q h1 h2 => by rw [e1, hk q (Nat.lt_of_lt_of_le h1 hS.1) h2]; exact hS.2.1 q h1 h2, fun q hq => by
    rcases List.mem_append.mp hq with h | h
    · exact hS.2.2 q h
    · exact hL q h⟩
  obtain ⟨t2, a1, b1⟩ := k v0 sh' σ' T'.heap (locs ++ L) hp (by rw [e1]; exact hO) hS' T' rfl X'
  refine ⟨t2, go t2 ?_, b1⟩
  have : (v0.toList ++ r).map (fwV Z) = (v0.map (fwV Z)).toList ++ r.map (fwV Z) := by cases v0 <;> simp
  rw [this] at a1
  exact a1
/-- the world as the callee finds it -/
theorem fw_pre {p : Program} {s : State} {m : MethodId} {args : Array Value} {meth : Method} {c : Code} {H : Heap} {locs : List Loc} (hE : fwEnv Z M p s m args meth c) (hO : fwOk Z sh σ H) (hS : va_S (fwAq Z) s.heap H locs) (U : State) (hU : U.heap = H) (hW : s.WarmedH U.vm) : fwOk Z sh σ U.heap ∧ va_K Z.D fwCl (fwTys Z) U ∧ fwCn Z U U.heap := by
  refine ⟨by rw [hU]; exact hO, va_K.moved hW.alike hE.2.2.2.2.2.2.2.1, ?_⟩
  rw [hU]
  exact hE.2.2.2.2.2.2.2.2.2.1.to hW hS.2.1
theorem fw_blind : FrameBlind (va_Pc (as.map (fwV Z)) (fun U => fwOk Z sh σ U.heap ∧ va_K Z.D fwCl (fwTys Z) U ∧ fwCn Z U U.heap)) := by
  intro a U g mk ⟨h1, h2, h3, h4⟩
  exact ⟨h1, h2, va_K.moved (u := U) (U := U.calling g mk a) (Vm.Alike.refl U.vm) h3, ⟨h4.1.moved (Vm.Alike.refl U.vm), fun q hq => (h4.2.1 q hq).same (u := U) rfl, fun q hq => ⟨(h4.2.2.1 q hq).1.moved (Vm.Alike.refl U.vm), (h4.2.2.1 q hq).2.moved (Vm.Alike.refl U.vm)⟩, fun q hq => va_Nw.same (u := U) rfl rfl (h4.2.2.2.1 q hq), fun q hq => (h4.2.2.2.2.1 q hq).moved (Vm.Alike.refl U.vm), h4.2.2.2.2.2.moved (Vm.Alike.refl U.vm)⟩⟩
/-- what a program checks of a callee: its class's name is plain, its parameters -/
def fwOkM (M' : fwM) (n : Nat) : Prop := M'.1.cls ≠ "java/lang/invoke/MethodHandle" ∧ M'.1.cls ≠ "java/lang/invoke/VarHandle" ∧ (parseMethodDescriptor M'.1.desc).map (fun d => d.parameters.length) = some n
theorem fwg_callS {n : Nat} (hC : fwC l Z M' d' mc' ms' as sh σ Post') (hM : fwOkM M' n) (hcode : Cond.code M'.1 M'.2.1 M'.2.2.1 M'.2.2.2 ∈ fwT) (hw : ∀ w ∈ ([.methodLink M.1.cls idx M'.1, .static M'.1, .initialized M'.1.cls] : List Cond), w ∈ fwT) (hn : as.length = n) (hst : st = as.reverse ++ r) (hcat : (r.map fun v => v.category).sum ≤ 8) (hd : decode M.2.1 pc = .ok (.invokestatic idx, 3)) (hR : d' + 1 ≤ d ∧ M'.2.2.1 ≤ 45) (hf : nc + mc' ≤ mc ∧ ns + ms' ≤ ms)
    (k : ∀ v sh' σ', Post' v sh' σ' → fwG l Z M d mc ms Post (nc + mc') (ns + ms') (pc + 3) ls (v.toList ++ r) sh' σ') : fwG l Z M d mc ms Post nc ns pc ls st sh σ := by
  intro p e s m args below meth c H locs Ls hE hO hS hL
  obtain ⟨hx, hb, -, hml, hown, hts, -⟩ := id hE
  subst hst
  refine fw_after (va_runS (Ts := fwWs M) (own := M.1.cls) (As := as.map (fwV Z)) (rest := r.map (fwV Z)) (nL := M.2.2.1) ⟨hx, hb, hml, hown, hts⟩ hC (va_cwS n hts (fwGood hcode hw) rfl rfl rfl hM ⟨hR.1, by show 8 + (M'.2.2.1 + 11) + 64 * d' ≤ 64 * d; omega⟩) ⟨fw_blind, fun U hU hW => ⟨rfl, fw_pre hE hO hS U hU hW⟩⟩ rfl (by rw [List.length_map]; exact hn) hL.1.1 (by rw [List.map_append, List.map_reverse]) (lv_room (by rw [fwSum]; exact hcat)) hd hf) hS ?_
  exact fun v sh' σ' H1 locs1 hp hO1 hS1 => k v sh' σ' hp p e s m args below meth c H1 locs1 Ls hE hO1 hS1 hL
theorem fwg_callV {n i ci : Nat} {ts : List Value} (hC : fwC l Z M' d' mc' ms' (.ref i :: as) sh σ Post') (hM : fwOkM M' n) (hcode : Cond.code M'.1 M'.2.1 M'.2.2.1 M'.2.2.2 ∈ fwT) (hw : ∀ w ∈ ([.methodLink M.1.cls idx M'.1, .instanceMethod M'.1, .selects M'.1.cls M'.1 M'.1, .initialized M'.1.cls] : List Cond), w ∈ fwT) (hs : sh[i]? = some (.inr (ci, ts))) (hcl : (fwCl[ci]?).map (fun q => q.1) = some M'.1.cls) (hn : as.length = n) (hst : st = as.reverse ++ .ref i :: r) (hcat : (r.map fun v => v.category).sum ≤ 8) (hd : decode M.2.1 pc = .ok (.invokevirtual idx, 3)) (hR : d' + 1 ≤ d ∧ M'.2.2.1 ≤ 45) (hf : nc + mc' ≤ mc ∧ ns + ms' ≤ ms)
    (k : ∀ v sh' σ', Post' v sh' σ' → fwG l Z M d mc ms Post (nc + mc') (ns + ms') (pc + 3) ls (v.toList ++ r) sh' σ') : fwG l Z M d mc ms Post nc ns pc ls st sh σ := by
  intro p e s m args below meth c H locs Ls hE hO hS hL
  obtain ⟨hx, hb, -, hml, hown, hts, -, hK, -⟩ := id hE
  subst hst
  obtain ⟨q, hq, hq1⟩ := Option.map_eq_some_iff.mp hcl
  have hrecv := va_recv hK hO.1 hq (fwW_at hs)
  rw [hq1] at hrecv
  refine fw_after (va_runV (Ts := fwWs M) (own := M.1.cls) (As := as.map (fwV Z)) (rest := r.map (fwV Z)) (nL := M.2.2.1) ⟨hx, hb, hml, hown, hts⟩ hC (cwV n hts (fwGood hcode hw) rfl rfl rfl ⟨rfl, hM⟩ ⟨hR.1, by show 8 + (M'.2.2.1 + 11) + 64 * d' ≤ 64 * d; omega⟩) ⟨fw_blind, hrecv, fun U hU hW => ⟨rfl, fw_pre hE hO hS U hU hW⟩⟩ rfl (by rw [List.length_map]; exact hn) hL.1.1 (by rw [List.map_append, List.map_reverse]; rfl) (lv_room (by rw [fwSum]; exact hcat)) hd hf) hS ?_
  exact fun v sh' σ' H1 locs1 hp hO1 hS1 => k v sh' σ' hp p e s m args below meth c H1 locs1 Ls hE hO1 hS1 hL
/-- a method of a text -/
theorem fwg_callK {n i : Nat} (hC : fwC l Z M' d' mc' ms' (.retAddr i :: as) sh σ Post') (hM : fwOkM M' n) (hcls : M'.1.cls = "java/lang/String") (hcode : Cond.code M'.1 M'.2.1 M'.2.2.1 M'.2.2.2 ∈ fwT) (hw : ∀ w ∈ ([.methodLink M.1.cls idx M'.1, .instanceMethod M'.1, .selects M'.1.cls M'.1 M'.1, .initialized M'.1.cls] : List Cond), w ∈ fwT) (hi : i < fwNs) (hn : as.length = n) (hst : st = as.reverse ++ .retAddr i :: r) (hcat : (r.map fun v => v.category).sum ≤ 8) (hd : decode M.2.1 pc = .ok (.invokevirtual idx, 3)) (hR : d' + 1 ≤ d ∧ M'.2.2.1 ≤ 45) (hf : nc + mc' ≤ mc ∧ ns + ms' ≤ ms)
    (k : ∀ v sh' σ', Post' v sh' σ' → fwG l Z M d mc ms Post (nc + mc') (ns + ms') (pc + 3) ls (v.toList ++ r) sh' σ') : fwG l Z M d mc ms Post nc ns pc ls st sh σ := by
  intro p e s m args below meth c H locs Ls hE hO hS hL
  obtain ⟨hx, hb, -, hml, hown, hts, -, hK, -⟩ := id hE
  subst hst
  have hrecv := vk_recv hE.2.2.2.2.2.2.2.2.2.1.1 hi hS
  rw [← hcls] at hrecv
  refine fw_after (va_runV (Ts := fwWs M) (own := M.1.cls) (As := as.map (fwV Z)) (rest := r.map (fwV Z)) (nL := M.2.2.1) ⟨hx, hb, hml, hown, hts⟩ hC (cwV n hts (fwGood hcode hw) rfl rfl rfl ⟨rfl, hM⟩ ⟨hR.1, by show 8 + (M'.2.2.1 + 11) + 64 * d' ≤ 64 * d; omega⟩) ⟨fw_blind, hrecv, fun U hU hW => ⟨rfl, fw_pre hE hO hS U hU hW⟩⟩ rfl (by rw [List.length_map]; exact hn) hL.1.1 (by rw [List.map_append, List.map_reverse]; rfl) (lv_room (by rw [fwSum]; exact hcat)) hd hf) hS ?_
  exact fun v sh' σ' H1 locs1 hp hO1 hS1 => k v sh' σ' hp p e s m args below meth c H1 locs1 Ls hE hO1 hS1 hL
theorem fwg_callI {n i : Nat} (hC : fwC l Z M' d' mc' ms' (.ref i :: as) sh σ Post') (hM : fwOkM M' n) (hname : M'.1.name = "<init>") (hret : M'.2.2.2 = none) (hcode : Cond.code M'.1 M'.2.1 M'.2.2.1 M'.2.2.2 ∈ fwT) (hw : ∀ w ∈ ([.methodLink M.1.cls idx M'.1, .instanceMethod M'.1, .initialized M'.1.cls] : List Cond), w ∈ fwT) (hn : as.length = n) (hst : st = as.reverse ++ .ref i :: r) (hcat : (r.map fun v => v.category).sum ≤ 8) (hd : decode M.2.1 pc = .ok (.invokespecial idx, 3)) (hR : d' + 1 ≤ d ∧ M'.2.2.1 ≤ 45) (hf : nc + mc' ≤ mc ∧ ns + ms' ≤ ms)
    (k : ∀ v sh' σ', Post' v sh' σ' → fwG l Z M d mc ms Post (nc + mc') (ns + ms') (pc + 3) ls (v.toList ++ r) sh' σ') : fwG l Z M d mc ms Post nc ns pc ls st sh σ := by
  intro p e s m args below meth c H locs Ls hE hO hS hL
  obtain ⟨hx, hb, -, hml, hown, hts, -, hK, -⟩ := id hE
  subst hst
  have hg : GoodIn (fwWs M) (fwWs M') := fwGood (ws := []) hcode (fun w h => by cases h)
  have hin : ∀ w ∈ ([.methodLink M.1.cls idx M'.1, .instanceMethod M'.1, .initialized M'.1.cls] : List Cond), w.before args s = true := fun w h => hts w (List.mem_cons_of_mem _ (hw w h))
  refine fw_after (va_runI (Ts := fwWs M) (own := M.1.cls) (As := as.map (fwV Z)) (rest := r.map (fwV Z)) (nL := M.2.2.1) (b := Z.B + i) ⟨hx, hb, hml, hown, hts⟩ hC (cwI n hts hg (by unfold fwWs; rw [hret]) rfl rfl (hin _ (by simp)) (hin _ (by simp)) (hin _ (by simp)) hname hM ⟨hR.1, by show 8 + (M'.2.2.1 + 11) + 64 * d' ≤ 64 * d; omega⟩) ⟨fw_blind, fun U hU hW => ⟨rfl, fw_pre hE hO hS U hU hW⟩⟩ rfl (by rw [List.length_map]; exact hn) hL.1.1 (by rw [List.map_append, List.map_reverse]; rfl) (lv_room (by rw [fwSum]; exact hcat)) hd hf) hS ?_
  exact fun v sh' σ' H1 locs1 hp hO1 hS1 => k v sh' σ' hp p e s m args below meth c H1 locs1 Ls hE hO1 hS1 hL
end FWC
end
section
/-! making objects and arrays; references into final fields; Object's constructor -/
def fwZero (σ : fwS) (n : Nat) : fwS := (fun a b => if a = n then 0 else σ.1 a b, fun a b => if a = n then 0 else σ.2 a b)
def fwTm (t : FieldType) : Value := match t with
  | .long => .long 0 | .object _ => .null | .array _ => .null | .float => .float 0 | .double => .double 0 | _ => .int 0
def fwTmpl (ci : Nat) : List Value := (List.range (fwCl.getD ci fwC_0).2.2).map (fun k => fwTm (fwTyOf ci k))
theorem fwOk_push {Z : fwZ} {sh : List fwE} {σ : fwS} {H H1 : Heap} {e : fwE} (hO : fwOk Z sh σ H) (hx : va_at Z.D fwCl (Z.B + sh.length, fwX Z (fwZero σ sh.length) sh.length e) H1) (hz : H1.size = Z.2.2.2.1 + sh.length + 1) (oq : ∀ q : Nat, q < Z.2.2.2.1 + sh.length → H1[q]? = H[q]?) : fwOk Z (sh ++ [e]) (fwZero σ sh.length) H1 := by
  refine ⟨fun k q hk => ?_, by rw [hz, List.length_append]; rfl, fun i n hi j => ?_⟩
  · rw [fwW_get] at hk
    by_cases hl : k < sh.length
    · rw [List.getElem?_append_left hl] at hk
      cases h1 : sh[k]? with
      | none => rw [h1] at hk; cases hk
      | some e' =>
        rw [h1] at hk
        cases hk
        have h2 := hO.1 k (Z.B + k, fwX Z σ k e') (fwW_at h1)
        show va_at Z.D fwCl (Z.B + k, fwX Z (fwZero σ sh.length) k e') H1
        rw [fwX_congr (σ := σ) (fun b => if_neg (by omega)) (fun b => if_neg (by omega)) e']
        exact h2.kept (oq _ (by show Z.2.2.2.1 + k < _; omega))
    · by_cases hk2 : k = sh.length
      · subst hk2
        rw [List.getElem?_append_right (Nat.le_refl _), Nat.sub_self] at hk
        cases hk
        exact hx
      · rw [List.getElem?_eq_none (by rw [List.length_append]; simp; omega)] at hk
        cases hk
  · by_cases hl : i < sh.length
    · rw [List.getElem?_append_left hl] at hi
      show fits .byte (.int (if i = sh.length then 0 else σ.1 i j)) = true
      rw [if_neg (by omega)]
      exact hO.2.2 i n hi j
    · by_cases hk2 : i = sh.length
      · subst hk2
        show fits .byte (.int (if sh.length = sh.length then 0 else σ.1 sh.length j)) = true
        rw [if_pos rfl]
        rfl
      · rw [List.getElem?_eq_none (by rw [List.length_append]; simp; omega)] at hi
        cases hi
section FWN
variable {l : Launch} {Z : fwZ} {M M' : fwM} {d mc ms d' mc' ms' : Nat} {Post Post' : fwPost} {nc ns pc : Nat} {ls : List (Option Value)} {st r : List Value} {sh : List fwE} {σ : fwS} {idx : Nat} {as : List Value}
theorem fw_tmpl {ci n : Nat} {q : vw_C} (hq : fwCl[ci]? = some q) : ∀ j, j < q.2.2 → defaultValue (fwTyOf ci j) = vp_V ((fwTmpl ci).mapIdx (fun k v => fwFv Z (fwZero σ n) n k v)) j := by
  intro j hj
  have hg : fwCl.getD ci fwC_0 = q := by rw [List.getD_eq_getElem?_getD, hq]; rfl
  unfold vp_V fwTmpl
  rw [hg, List.getD_eq_getElem?_getD, List.getElem?_mapIdx, List.getElem?_map, List.getElem?_range hj]
  show _ = fwFv Z (fwZero σ n) n j (fwTm (fwTyOf ci j))
  have z1 : (fwZero σ n).1 n j = 0 := if_pos rfl
  have z2 : (fwZero σ n).2 n j = 0 := if_pos rfl
  cases fwTyOf ci j <;> simp [fwTm, fwFv, fwV, defaultValue, z1, z2]
theorem fwg_new {ci : Nat} {q : vw_C} (hq : fwCl[ci]? = some q) (hw : ∀ w ∈ ([.classLink M.1.cls idx q.1, .instantiable q.1 q.2.2, .initialized q.1] : List Cond), w ∈ fwT) (hd : decode M.2.1 pc = .ok (.new idx, 3)) (hc : nc + 1 ≤ mc) (hs : ns + q.2.2 ≤ ms) (k : fwG l Z M d mc ms Post (nc + 1) (ns + q.2.2) (pc + 3) ls (.ref sh.length :: st) (sh ++ [.inr (ci, fwTmpl ci)]) (fwZero σ sh.length)) : fwG l Z M d mc ms Post nc ns pc ls st sh σ := by
  intro p e s m args below meth c H locs Ls hE hO hS hL
  obtain ⟨hx, hb, -, hml, hown, hts, -, hK, -⟩ := id hE
  obtain ⟨hck1, hck2, hck3⟩ := fwCl_ok ci _ hq
  have hin : ∀ w ∈ u_ws q.1 q.2.1 q.2.2, w ∈ fwWs M := fun w hw => List.mem_cons_of_mem _ (hck1 w hw)
  have hKn := hK.1 ci _ hq
  have hw' : ∀ w ∈ ([.classLink M.1.cls idx q.1, .instantiable q.1 q.2.2, .initialized q.1] : List Cond), w.before args s = true := fun w h => hts w (List.mem_cons_of_mem _ (hw w h))
  refine W.newcK hx hb hown (hw' _ (by simp)) (hw' _ (by simp)) (hw' _ (by simp)) rfl hd hc hs hKn.2.1 hO.2.1 fun H1 kC hkC e1 z1 o1 => ?_
  have hh : Z.2.2.2.1 + sh.length ≤ Z.2.2.2.1 + sh.length := Nat.le_refl _
  refine k p e s m args below meth c H1 locs Ls hE (fwOk_push hO ⟨q, hq, (u_born (fwTyOf ci) hts hin hKn hkC e1 hck3).to (fw_tmpl hq)⟩ z1 o1) ⟨Nat.le_trans hS.1 (by rw [z1, hO.2.1]; omega), fun x h1 h2 => (o1 x (by have := hS.1; rw [hO.2.1] at this; omega)).trans (hS.2.1 x h1 h2), hS.2.2⟩ hL
theorem fwg_newa {atype : ArrayType} {x : Int32} {N : Nat} (ht : newarray.typeOf atype ∈ fwAT) (hw : Cond.arrayClass (newarray.typeOf atype) ∈ fwT) (hd : decode M.2.1 pc = .ok (.newarray atype, 2)) (hx0 : ¬ x < 0) (hN : x.toNatClampNeg = N) (hbytes : N * componentBytes (newarray.typeOf atype) ≤ 536870912) (hc : nc + 1 ≤ mc) (hs : ns + N ≤ ms) (k : fwG l Z M d mc ms Post (nc + 1) (ns + N) (pc + 2) ls (.ref sh.length :: r) (sh ++ [.inl (newarray.typeOf atype, N)]) (fwZero σ sh.length)) : fwG l Z M d mc ms Post nc ns pc ls (.int x :: r) sh σ := by
  intro p e s m args below meth c H locs Ls hE hO hS hL
  obtain ⟨hx, hb, -, hml, hown, hts, -, hK, -⟩ := id hE
  obtain ⟨t0, ht0⟩ := fwTys_at Z ht
  refine va_newaK hx hb (hts _ (List.mem_cons_of_mem _ hw)) rfl hd rfl hx0 hN hbytes hc hs hO.2.1 fun H1 cA e1 z1 o1 hAr hNm => ?_
  have hcA : cA = Z.2.2.1 (newarray.typeOf atype) := by
    have h2 := (hK.2 t0 _ ht0).2
    cases atype <;> exact Option.some.inj (hNm.symm.trans h2)
  subst hcA
  refine k p e s m args below meth c H1 locs Ls hE (fwOk_push hO ?_ z1 o1) ⟨Nat.le_trans hS.1 (by rw [z1, hO.2.1]; omega), fun x h1 h2 => (o1 x (by have := hS.1; rw [hO.2.1] at this; omega)).trans (hS.2.1 x h1 h2), hS.2.2⟩ hL
  have z1 : (fwZero σ sh.length).1 sh.length = fun _ => 0 := funext fun b => if_pos rfl
  have z2 : (fwZero σ sh.length).2 sh.length = fun _ => 0 := funext fun b => if_pos rfl
  cases atype <;> first
    | (exact absurd ht (by decide))
    | (show H1[Z.B + sh.length]? = some (vp_cell _ (N, .inl ((fwZero σ sh.length).1 sh.length))); rw [e1, z1]; rfl)
    | (show H1[Z.B + sh.length]? = some (vp_cell _ (N, .inr (.inl ((fwZero σ sh.length).2 sh.length)))); rw [e1, z2]; rfl)
/-- a reference comes into a final field, in a constructor -/
theorem fwg_putR {i ci kk : Nat} {ts : List Value} {v : Value} (hs : sh[i]? = some (.inr (ci, ts))) (hk : kk < ts.length) (hv : (∃ j, v = .ref j) ∨ ∃ j, v = .retAddr j) (hm : (M.1.cls, idx, ci, kk) ∈ fwFl) (hcl : (fwCl.getD ci fwC_0).1 = M.1.cls) (hfin : ((fwCl.getD ci fwC_0).2.1 kk).2.2.2 = true) (hty : ∀ a : Nat, fits (fwTyOf ci kk) (.ref a) = true ∧ narrow (fwTyOf ci kk) (.ref a) = .ref a) (hname : M.1.name = "<init>") (hd : decode M.2.1 pc = .ok (.putfield idx, 3)) (k : fwG l Z M d mc ms Post nc ns (pc + 3) ls r (sh.set i (.inr (ci, ts.set kk v))) σ) : fwG l Z M d mc ms Post nc ns pc ls (v :: .ref i :: r) sh σ := by
  intro p e s m args below meth c H locs Ls hE hO hS hL
  obtain ⟨hlt1, hlt2⟩ := fwFl_lt _ hm
  have hq : fwCl[ci]? = some (fwCl.getD ci fwC_0) := by
    rw [List.getD_eq_getElem?_getD, List.getElem?_eq_getElem hlt1]; rfl
  obtain ⟨hck1, hck2, hck3⟩ := fwCl_ok ci _ hq
  have hin : ∀ w ∈ u_ws (fwCl.getD ci fwC_0).1 (fwCl.getD ci fwC_0).2.1 (fwCl.getD ci fwC_0).2.2, w ∈ fwWs M := fun w hw => List.mem_cons_of_mem _ (hck1 w hw)
  obtain ⟨hx, hb, -, -, hown, hts, -, hK, -, -, hnm⟩ := id hE
  have hlink := hts _ (List.mem_cons_of_mem _ (fwFl_in _ (List.mem_map.mpr ⟨_, hm, rfl⟩)))
  have hdecl := fwCl_own _ (List.mem_of_getElem? hq) kk hlt2
  have hap := va_apart (own := M.1.cls) hts hin (fwTyOf ci) hck3 hck2 hK hq
  obtain ⟨a, hva⟩ : ∃ a, fwV Z v = .ref a := by rcases hv with ⟨j, rfl⟩ | ⟨j, rfl⟩ <;> exact ⟨_, rfl⟩
  obtain ⟨hfit, hn⟩ := hty a
  obtain ⟨q, h1, cell, q1, q2, q3, q4⟩ := hO.1 i _ (fwW_at hs)
  have hqq : q = fwCl.getD ci fwC_0 := Option.some.inj (h1.symm.trans hq)
  subst hqq
  obtain ⟨hSl, hfc, kC, hkC, hkind⟩ := hK.1 ci _ hq
  obtain ⟨cf, kf, fi, f, hi, hsl⟩ := hSl kk hlt2
  have hlay := hts _ (hin _ (u_in_lay hlt2))
  unfold u_lay at hlay
  rw [if_pos hfin] at hlay
  have hst := (u_facts hfc hkC (u_lays hts hin hlt2) hi).1
  have hcf : m.cls = cf := by
    obtain ⟨_, _, c', _, _, _, -, -, hf', -, -, -, hown2, -⟩ := Cond.laysFinal_spec hlay
    have e1 : c' = cf := by have := hi.symm.trans hf'; simp at this; exact this.1.symm
    rw [hdecl, hcl] at hown2
    rw [← e1]; exact Option.some.inj (hown.symm.trans hown2)
  have h6 := u_fits hfc hkC hkind (Or.inr hlay) hi (hck3 kk hlt2) hn hfit
  rw [hdecl] at hi
  show W p l e _ s m args below meth c H locs nc ns _ (F0 m pc Ls (fwV Z v :: .ref (Z.B + i) :: r.map (fwV Z)))
  rw [hva]
  refine W.putFinK hx hb hown hlink hi hst hcf (hnm.trans hname) (by rw [q2]; exact h6) q1 q3 (by rw [hsl]; exact k2_hasslot (q4 kk hlt2)) rfl rfl hd fun H1 e1 z oq => ?_
  rw [hsl] at e1 ⊢
  have hi' : i < sh.length := (List.getElem?_eq_some_iff.mp hs).1
  have hl : kk < (ts.mapIdx (fun k v => fwFv Z σ i k v)).length := by rw [List.length_mapIdx]; exact hk
  have hat : va_at Z.D fwCl (Z.B + i, .inr (ci, (ts.mapIdx (fun k v => fwFv Z σ i k v)).set kk (.ref a))) H1 := ⟨_, hq, t_OB.to (V := updV (vp_V (ts.mapIdx (fun k v => fwFv Z σ i k v))) kk (.ref a)) ⟨_, e1, q2, q3, t_set q4 hap hlt2 _⟩ (fun j _ => vp_updV_set hl _ j)⟩
  rw [← hva] at hat
  have hD := fwW_D Z sh σ
  have hP' := hO.1.set hD (fwW_at hs) hat oq
  rw [fwW_putR hs (by rcases hv with ⟨j, rfl⟩ | ⟨j, rfl⟩ <;> rfl)] at hP'
  refine k p e s m args below meth c H1 _ Ls hE ⟨hP', by rw [z, hO.2.1, List.length_set], fun j n hj b => ?_⟩ (hS.put z oq (by show Z.2.2.2.1 ≤ Z.2.2.2.1 + i; omega)) hL
  by_cases hji : j = i
  · subst hji
    rw [List.getElem?_set_self hi'] at hj
    cases hj
  · rw [List.getElem?_set_ne (Ne.symm hji)] at hj
    exact hO.2.2 j n hj b
theorem fwg_objInit {i : Nat} (hw : ∀ w ∈ ([.methodLink M.1.cls idx Lib.objectInit, .instanceMethod Lib.objectInit, .code Lib.objectInit ⟨#[0xb1]⟩ 1 none] : List Cond), w ∈ fwT) (hR : 1 ≤ d) (hcat : (r.map fun v => v.category).sum ≤ 8) (hd : decode M.2.1 pc = .ok (.invokespecial idx, 3)) (k : fwG l Z M d mc ms Post nc ns (pc + 3) ls r sh σ) : fwG l Z M d mc ms Post nc ns pc ls (.ref i :: r) sh σ := by
  intro p e s m args below meth c H locs Ls hE hO hS hL
  obtain ⟨hx, hb, -, hml, hown, hts, -, hK, -⟩ := id hE
  have hw' : ∀ w ∈ ([.methodLink M.1.cls idx Lib.objectInit, .instanceMethod Lib.objectInit, .code Lib.objectInit ⟨#[0xb1]⟩ 1 none] : List Cond), w.before args s = true := fun w h => hts w (List.mem_cons_of_mem _ (hw w h))
  have hrm : 2 * (F0 m pc Ls ((.ref i :: r : List Value).map (fwV Z))).monitorRoom + ((r.map (fwV Z)).map fun v => v.category).sum ≤ 8 := lv_room (by rw [fwSum]; exact hcat)
  exact W.objInit hx hb hown (hw' _ (by simp)) (hw' _ (by simp)) (hw' _ (by simp)) rfl (by rw [hml]; exact hL.1.1) rfl hd hR (by show _ + 12 ≤ 64 * d; omega) (k p e s m args below meth c H locs Ls hE hO hS hL)
/-- calls to private members of the nest -/
theorem fwg_callSN {n : Nat} {host : String} (hC : fwC l Z M' d' mc' ms' as sh σ Post') (hM : fwOkM M' n) (hcode : Cond.code M'.1 M'.2.1 M'.2.2.1 M'.2.2.2 ∈ fwT) (hl : (M.1.cls, idx, M'.1, host) ∈ fwNl) (hw : ∀ w ∈ ([.static M'.1, .initialized M'.1.cls] : List Cond), w ∈ fwT) (hn : as.length = n) (hst : st = as.reverse ++ r) (hcat : (r.map fun v => v.category).sum ≤ 8) (hd : decode M.2.1 pc = .ok (.invokestatic idx, 3)) (hR : d' + 1 ≤ d ∧ M'.2.2.1 ≤ 45) (hf : nc + mc' ≤ mc ∧ ns + ms' ≤ ms)
    (k : ∀ v sh' σ', Post' v sh' σ' → fwG l Z M d mc ms Post (nc + mc') (ns + ms') (pc + 3) ls (v.toList ++ r) sh' σ') : fwG l Z M d mc ms Post nc ns pc ls st sh σ := by
  intro p e s m args below meth c H locs Ls hE hO hS hL
  obtain ⟨hx, hb, -, hml, hown, hts, -⟩ := id hE
  subst hst
  have hin : ∀ w ∈ ([.static M'.1, .initialized M'.1.cls] : List Cond), w.before args s = true := fun w h => hts w (List.mem_cons_of_mem _ (hw w h))
  have hg : GoodIn (fwWs M) (fwWs M') := fwGood (ws := []) hcode (fun w h => by cases h)
  refine fw_after (va_runSN (Ts := fwWs M) (own := M.1.cls) (host := host) (As := as.map (fwV Z)) (rest := r.map (fwV Z)) (nL := M.2.2.1) ⟨hx, hb, hml, hown, hts⟩ hC ⟨va_cnB n hts hg rfl rfl rfl (hE.2.2.2.2.2.2.2.2.2.1.2.2.2.1 _ hl) (hin _ (by simp)) hM ⟨hR.1, by show 8 + (M'.2.2.1 + 11) + 64 * d' ≤ 64 * d; omega⟩, hin _ (by simp), trivial⟩ ⟨fw_blind, fun U hU hW => ⟨rfl, fw_pre hE hO hS U hU hW⟩⟩ rfl (by rw [List.length_map]; exact hn) hL.1.1 (by rw [List.map_append, List.map_reverse]) (lv_room (by rw [fwSum]; exact hcat)) hd hf) hS ?_
  exact fun v sh' σ' H1 locs1 hp hO1 hS1 => k v sh' σ' hp p e s m args below meth c H1 locs1 Ls hE hO1 hS1 hL
theorem fwg_callIN {n i : Nat} {host : String} (hC : fwC l Z M' d' mc' ms' (.ref i :: as) sh σ Post') (hM : fwOkM M' n) (hname : M'.1.name = "<init>") (hret : M'.2.2.2 = none) (hcode : Cond.code M'.1 M'.2.1 M'.2.2.1 M'.2.2.2 ∈ fwT) (hl : (M.1.cls, idx, M'.1, host) ∈ fwNl) (hw : ∀ w ∈ ([.instanceMethod M'.1, .initialized M'.1.cls] : List Cond), w ∈ fwT) (hn : as.length = n) (hst : st = as.reverse ++ .ref i :: r) (hcat : (r.map fun v => v.category).sum ≤ 8) (hd : decode M.2.1 pc = .ok (.invokespecial idx, 3)) (hR : d' + 1 ≤ d ∧ M'.2.2.1 ≤ 45) (hf : nc + mc' ≤ mc ∧ ns + ms' ≤ ms)
    (k : ∀ v sh' σ', Post' v sh' σ' → fwG l Z M d mc ms Post (nc + mc') (ns + ms') (pc + 3) ls (v.toList ++ r) sh' σ') : fwG l Z M d mc ms Post nc ns pc ls st sh σ := by
  intro p e s m args below meth c H locs Ls hE hO hS hL
  obtain ⟨hx, hb, -, hml, hown, hts, -⟩ := id hE
  subst hst
  have hin : ∀ w ∈ ([.instanceMethod M'.1, .initialized M'.1.cls] : List Cond), w.before args s = true := fun w h => hts w (List.mem_cons_of_mem _ (hw w h))
  have hg : GoodIn (fwWs M) (fwWs M') := fwGood (ws := []) hcode (fun w h => by cases h)
  refine fw_after (va_runIN (Ts := fwWs M) (own := M.1.cls) (host := host) (As := as.map (fwV Z)) (rest := r.map (fwV Z)) (nL := M.2.2.1) (b := Z.B + i) ⟨hx, hb, hml, hown, hts⟩ hC ⟨va_cnB n hts hg (by unfold fwWs; rw [hret]) rfl rfl (hE.2.2.2.2.2.2.2.2.2.1.2.2.2.1 _ hl) (hin _ (by simp)) hM ⟨hR.1, by show 8 + (M'.2.2.1 + 11) + 64 * d' ≤ 64 * d; omega⟩, hname, hin _ (by simp)⟩ ⟨fw_blind, fun U hU hW => ⟨rfl, fw_pre hE hO hS U hU hW⟩⟩ rfl (by rw [List.length_map]; exact hn) hL.1.1 (by rw [List.map_append, List.map_reverse]; rfl) (lv_room (by rw [fwSum]; exact hcat)) hd hf) hS ?_
  exact fun v sh' σ' H1 locs1 hp hO1 hS1 => k v sh' σ' hp p e s m args below meth c H1 locs1 Ls hE hO1 hS1 hL
end FWN
end
section
/-! methods, their instructions, by program (wip/whole/methods.py) -/
/-- java/lang/Math.min(II)I -/
abbrev m_mmin : fwM := (⟨"java/lang/Math", "min", "(II)I"⟩, prog_16_method_69_code, 2, (some FieldType.int))
theorem m_mmin_in : Cond.code m_mmin.1 m_mmin.2.1 m_mmin.2.2.1 m_mmin.2.2.2 ∈ fwT := fwT_mem (List.mem_of_getElem? (i := 879) (by decide +kernel)) rfl
def k_mmin_0 : List fwO := [(.iload_n 0, 0, 0, .null), (.iload_n 1, 0, 0, .null)]
theorem k_mmin_0_ok : fwChain m_mmin.1.cls m_mmin.2.1 0 k_mmin_0 2 = true := by decide +kernel
theorem d_mmin_2 : decode m_mmin.2.1 2 = .ok (.if_icmp .gt 7, 3) := by decide +kernel
def k_mmin_5 : List fwO := [(.iload_n 0, 0, 0, .null)]
theorem k_mmin_5_ok : fwChain m_mmin.1.cls m_mmin.2.1 5 k_mmin_5 6 = true := by decide +kernel
theorem d_mmin_6 : decode m_mmin.2.1 6 = .ok (.goto 4, 3) := by decide +kernel
def k_mmin_9 : List fwO := [(.iload_n 1, 0, 0, .null)]
theorem k_mmin_9_ok : fwChain m_mmin.1.cls m_mmin.2.1 9 k_mmin_9 10 = true := by decide +kernel
theorem d_mmin_10 : decode m_mmin.2.1 10 = .ok (.ireturn, 1) := by decide +kernel
/-- java/lang/Math.max(II)I -/
abbrev m_mmax : fwM := (⟨"java/lang/Math", "max", "(II)I"⟩, prog_16_method_65_code, 2, (some FieldType.int))
theorem m_mmax_in : Cond.code m_mmax.1 m_mmax.2.1 m_mmax.2.2.1 m_mmax.2.2.2 ∈ fwT := fwT_mem (List.mem_of_getElem? (i := 1035) (by decide +kernel)) rfl
def k_mmax_0 : List fwO := [(.iload_n 0, 0, 0, .null), (.iload_n 1, 0, 0, .null)]
theorem k_mmax_0_ok : fwChain m_mmax.1.cls m_mmax.2.1 0 k_mmax_0 2 = true := by decide +kernel
theorem d_mmax_2 : decode m_mmax.2.1 2 = .ok (.if_icmp .lt 7, 3) := by decide +kernel
def k_mmax_5 : List fwO := [(.iload_n 0, 0, 0, .null)]
theorem k_mmax_5_ok : fwChain m_mmax.1.cls m_mmax.2.1 5 k_mmax_5 6 = true := by decide +kernel
theorem d_mmax_6 : decode m_mmax.2.1 6 = .ok (.goto 4, 3) := by decide +kernel
def k_mmax_9 : List fwO := [(.iload_n 1, 0, 0, .null)]
theorem k_mmax_9_ok : fwChain m_mmax.1.cls m_mmax.2.1 9 k_mmax_9 10 = true := by decide +kernel
theorem d_mmax_10 : decode m_mmax.2.1 10 = .ok (.ireturn, 1) := by decide +kernel
/-- java/util/Arrays.fill([BB)V -/
abbrev m_fillB : fwM := (⟨"java/util/Arrays", "fill", "([BB)V"⟩, prog_21_method_109_code, 4, (none : Option FieldType))
theorem m_fillB_in : Cond.code m_fillB.1 m_fillB.2.1 m_fillB.2.2.1 m_fillB.2.2.2 ∈ fwT := fwT_mem (List.mem_of_getElem? (i := 413) (by decide +kernel)) rfl
def k_fillB_0 : List fwO := [(.iconst 0, 0, 0, .int 0), (.istore_n 2, 0, 0, .null), (.aload_n 0, 0, 0, .null), (.arraylength, 0, 0, .null), (.istore_n 3, 0, 0, .null)]
theorem k_fillB_0_ok : fwChain m_fillB.1.cls m_fillB.2.1 0 k_fillB_0 5 = true := by decide +kernel
def k_fillB_5 : List fwO := [(.iload_n 2, 0, 0, .null), (.iload_n 3, 0, 0, .null)]
theorem k_fillB_5_ok : fwChain m_fillB.1.cls m_fillB.2.1 5 k_fillB_5 7 = true := by decide +kernel
theorem d_fillB_7 : decode m_fillB.2.1 7 = .ok (.if_icmp .ge 13, 3) := by decide +kernel
def k_fillB_10 : List fwO := [(.aload_n 0, 0, 0, .null), (.iload_n 2, 0, 0, .null), (.iload_n 1, 0, 0, .null), (.bastore, 0, 0, .null), (.iinc 2 1, 0, 0, .int 1)]
theorem k_fillB_10_ok : fwChain m_fillB.1.cls m_fillB.2.1 10 k_fillB_10 17 = true := by decide +kernel
theorem d_fillB_17 : decode m_fillB.2.1 17 = .ok (.goto (-12), 3) := by decide +kernel
theorem d_fillB_20 : decode m_fillB.2.1 20 = .ok (.return_, 1) := by decide +kernel
/-- java/util/Arrays.fill([II)V -/
abbrev m_fillI : fwM := (⟨"java/util/Arrays", "fill", "([II)V"⟩, prog_21_method_103_code, 4, (none : Option FieldType))
theorem m_fillI_in : Cond.code m_fillI.1 m_fillI.2.1 m_fillI.2.2.1 m_fillI.2.2.2 ∈ fwT := fwT_mem (List.mem_of_getElem? (i := 820) (by decide +kernel)) rfl
def k_fillI_0 : List fwO := [(.iconst 0, 0, 0, .int 0), (.istore_n 2, 0, 0, .null), (.aload_n 0, 0, 0, .null), (.arraylength, 0, 0, .null), (.istore_n 3, 0, 0, .null)]
theorem k_fillI_0_ok : fwChain m_fillI.1.cls m_fillI.2.1 0 k_fillI_0 5 = true := by decide +kernel
def k_fillI_5 : List fwO := [(.iload_n 2, 0, 0, .null), (.iload_n 3, 0, 0, .null)]
theorem k_fillI_5_ok : fwChain m_fillI.1.cls m_fillI.2.1 5 k_fillI_5 7 = true := by decide +kernel
theorem d_fillI_7 : decode m_fillI.2.1 7 = .ok (.if_icmp .ge 13, 3) := by decide +kernel
def k_fillI_10 : List fwO := [(.aload_n 0, 0, 0, .null), (.iload_n 2, 0, 0, .null), (.iload_n 1, 0, 0, .null), (.iastore, 0, 0, .null), (.iinc 2 1, 0, 0, .int 1)]
theorem k_fillI_10_ok : fwChain m_fillI.1.cls m_fillI.2.1 10 k_fillI_10 17 = true := by decide +kernel
theorem d_fillI_17 : decode m_fillI.2.1 17 = .ok (.goto (-12), 3) := by decide +kernel
theorem d_fillI_20 : decode m_fillI.2.1 20 = .ok (.return_, 1) := by decide +kernel
/-- java/lang/String.coder()B -/
abbrev m_scod : fwM := (⟨"java/lang/String", "coder", "()B"⟩, prog_17_method_152_code, 1, (some FieldType.byte))
theorem m_scod_in : Cond.code m_scod.1 m_scod.2.1 m_scod.2.2.1 m_scod.2.2.2 ∈ fwT := fwT_mem (List.mem_of_getElem? (i := 582) (by decide +kernel)) rfl
def k_scod_0 : List fwO := [(.getstatic 38, 0, 0, .int 1)]
theorem k_scod_0_ok : fwChain m_scod.1.cls m_scod.2.1 0 k_scod_0 3 = true := by decide +kernel
theorem d_scod_3 : decode m_scod.2.1 3 = .ok (.ifCond .eq 10, 3) := by decide +kernel
def k_scod_6 : List fwO := [(.aload_n 0, 0, 0, .null), (.getfield 15, 999, 1, .retAddr 1)]
theorem k_scod_6_ok : fwChain m_scod.1.cls m_scod.2.1 6 k_scod_6 10 = true := by decide +kernel
theorem d_scod_10 : decode m_scod.2.1 10 = .ok (.goto 4, 3) := by decide +kernel
def k_scod_13 : List fwO := [(.iconst 1, 0, 0, .int 1)]
theorem k_scod_13_ok : fwChain m_scod.1.cls m_scod.2.1 13 k_scod_13 14 = true := by decide +kernel
theorem d_scod_14 : decode m_scod.2.1 14 = .ok (.ireturn, 1) := by decide +kernel
/-- java/lang/String.isLatin1()Z -/
abbrev m_slat : fwM := (⟨"java/lang/String", "isLatin1", "()Z"⟩, prog_17_method_154_code, 1, (some FieldType.boolean))
theorem m_slat_in : Cond.code m_slat.1 m_slat.2.1 m_slat.2.2.1 m_slat.2.2.2 ∈ fwT := fwT_mem (List.mem_of_getElem? (i := 592) (by decide +kernel)) rfl
def k_slat_0 : List fwO := [(.getstatic 38, 0, 0, .int 1)]
theorem k_slat_0_ok : fwChain m_slat.1.cls m_slat.2.1 0 k_slat_0 3 = true := by decide +kernel
theorem d_slat_3 : decode m_slat.2.1 3 = .ok (.ifCond .eq 14, 3) := by decide +kernel
def k_slat_6 : List fwO := [(.aload_n 0, 0, 0, .null), (.getfield 15, 999, 1, .retAddr 1)]
theorem k_slat_6_ok : fwChain m_slat.1.cls m_slat.2.1 6 k_slat_6 10 = true := by decide +kernel
theorem d_slat_10 : decode m_slat.2.1 10 = .ok (.ifCond .ne 7, 3) := by decide +kernel
def k_slat_13 : List fwO := [(.iconst 1, 0, 0, .int 1)]
theorem k_slat_13_ok : fwChain m_slat.1.cls m_slat.2.1 13 k_slat_13 14 = true := by decide +kernel
theorem d_slat_14 : decode m_slat.2.1 14 = .ok (.goto 4, 3) := by decide +kernel
def k_slat_17 : List fwO := [(.iconst 0, 0, 0, .int 0)]
theorem k_slat_17_ok : fwChain m_slat.1.cls m_slat.2.1 17 k_slat_17 18 = true := by decide +kernel
theorem d_slat_18 : decode m_slat.2.1 18 = .ok (.ireturn, 1) := by decide +kernel
/-- java/lang/String.length()I -/
abbrev m_slen : fwM := (⟨"java/lang/String", "length", "()I"⟩, prog_17_method_54_code, 1, (some FieldType.int))
theorem m_slen_in : Cond.code m_slen.1 m_slen.2.1 m_slen.2.2.1 m_slen.2.2.2 ∈ fwT := fwT_mem (List.mem_of_getElem? (i := 578) (by decide +kernel)) rfl
def k_slen_0 : List fwO := [(.aload_n 0, 0, 0, .null), (.getfield 9, 999, 0, .retAddr 0), (.arraylength, 0, 0, .null), (.aload_n 0, 0, 0, .null)]
theorem k_slen_0_ok : fwChain m_slen.1.cls m_slen.2.1 0 k_slen_0 6 = true := by decide +kernel
theorem d_slen_6 : decode m_slen.2.1 6 = .ok (.invokevirtual 335, 3) := by decide +kernel
def k_slen_9 : List fwO := [(.ishr, 0, 0, .null)]
theorem k_slen_9_ok : fwChain m_slen.1.cls m_slen.2.1 9 k_slen_9 10 = true := by decide +kernel
theorem d_slen_10 : decode m_slen.2.1 10 = .ok (.ireturn, 1) := by decide +kernel
/-- jdk/internal/util/Preconditions.checkIndex(IILjava/util/function/BiFunction;)I -/
abbrev m_pchk : fwM := (⟨"jdk/internal/util/Preconditions", "checkIndex", "(IILjava/util/function/BiFunction;)I"⟩, prog_22_method_11_code, 3, (some FieldType.int))
theorem m_pchk_in : Cond.code m_pchk.1 m_pchk.2.1 m_pchk.2.2.1 m_pchk.2.2.2 ∈ fwT := fwT_mem (List.mem_of_getElem? (i := 603) (by decide +kernel)) rfl
def k_pchk_0 : List fwO := [(.iload_n 0, 0, 0, .null)]
theorem k_pchk_0_ok : fwChain m_pchk.1.cls m_pchk.2.1 0 k_pchk_0 1 = true := by decide +kernel
theorem d_pchk_1 : decode m_pchk.2.1 1 = .ok (.ifCond .lt 8, 3) := by decide +kernel
def k_pchk_4 : List fwO := [(.iload_n 0, 0, 0, .null), (.iload_n 1, 0, 0, .null)]
theorem k_pchk_4_ok : fwChain m_pchk.1.cls m_pchk.2.1 4 k_pchk_4 6 = true := by decide +kernel
theorem d_pchk_6 : decode m_pchk.2.1 6 = .ok (.if_icmp .lt 10, 3) := by decide +kernel
def k_pchk_9 : List fwO := [(.aload_n 2, 0, 0, .null), (.iload_n 0, 0, 0, .null), (.iload_n 1, 0, 0, .null)]
theorem k_pchk_9_ok : fwChain m_pchk.1.cls m_pchk.2.1 9 k_pchk_9 12 = true := by decide +kernel
theorem d_pchk_12 : decode m_pchk.2.1 12 = .ok (.invokestatic 95, 3) := by decide +kernel
theorem d_pchk_15 : decode m_pchk.2.1 15 = .ok (.athrow, 1) := by decide +kernel
def k_pchk_16 : List fwO := [(.iload_n 0, 0, 0, .null)]
theorem k_pchk_16_ok : fwChain m_pchk.1.cls m_pchk.2.1 16 k_pchk_16 17 = true := by decide +kernel
theorem d_pchk_17 : decode m_pchk.2.1 17 = .ok (.ireturn, 1) := by decide +kernel
/-- java/lang/String.checkIndex(II)V -/
abbrev m_schk : fwM := (⟨"java/lang/String", "checkIndex", "(II)V"⟩, prog_17_method_155_code, 2, (none : Option FieldType))
theorem m_schk_in : Cond.code m_schk.1 m_schk.2.1 m_schk.2.2.1 m_schk.2.2.2 ∈ fwT := fwT_mem (List.mem_of_getElem? (i := 598) (by decide +kernel)) rfl
def k_schk_0 : List fwO := [(.iload_n 0, 0, 0, .null), (.iload_n 1, 0, 0, .null)]
theorem k_schk_0_ok : fwChain m_schk.1.cls m_schk.2.1 0 k_schk_0 2 = true := by decide +kernel
theorem d_schk_2 : decode m_schk.2.1 2 = .ok (.getstatic 1053, 3) := by decide +kernel
theorem d_schk_5 : decode m_schk.2.1 5 = .ok (.invokestatic 1059, 3) := by decide +kernel
def k_schk_8 : List fwO := [(.pop, 0, 0, .null)]
theorem k_schk_8_ok : fwChain m_schk.1.cls m_schk.2.1 8 k_schk_8 9 = true := by decide +kernel
theorem d_schk_9 : decode m_schk.2.1 9 = .ok (.return_, 1) := by decide +kernel
/-- java/lang/StringLatin1.charAt([BI)C -/
abbrev m_lchar : fwM := (⟨"java/lang/StringLatin1", "charAt", "([BI)C"⟩, prog_18_method_2_code, 2, (some FieldType.char))
theorem m_lchar_in : Cond.code m_lchar.1 m_lchar.2.1 m_lchar.2.2.1 m_lchar.2.2.2 ∈ fwT := fwT_mem (List.mem_of_getElem? (i := 595) (by decide +kernel)) rfl
def k_lchar_0 : List fwO := [(.iload_n 1, 0, 0, .null), (.aload_n 0, 0, 0, .null), (.arraylength, 0, 0, .null)]
theorem k_lchar_0_ok : fwChain m_lchar.1.cls m_lchar.2.1 0 k_lchar_0 3 = true := by decide +kernel
theorem d_lchar_3 : decode m_lchar.2.1 3 = .ok (.invokestatic 9, 3) := by decide +kernel
def k_lchar_6 : List fwO := [(.aload_n 0, 0, 0, .null), (.iload_n 1, 0, 0, .null), (.baload, 0, 0, .null), (.sipush 255, 0, 0, .int 255), (.iand, 0, 0, .null), (.i2c, 0, 0, .null)]
theorem k_lchar_6_ok : fwChain m_lchar.1.cls m_lchar.2.1 6 k_lchar_6 14 = true := by decide +kernel
theorem d_lchar_14 : decode m_lchar.2.1 14 = .ok (.ireturn, 1) := by decide +kernel
/-- java/lang/String.charAt(I)C -/
abbrev m_schar : fwM := (⟨"java/lang/String", "charAt", "(I)C"⟩, prog_17_method_56_code, 2, (some FieldType.char))
theorem m_schar_in : Cond.code m_schar.1 m_schar.2.1 m_schar.2.2.1 m_schar.2.2.2 ∈ fwT := fwT_mem (List.mem_of_getElem? (i := 588) (by decide +kernel)) rfl
def k_schar_0 : List fwO := [(.aload_n 0, 0, 0, .null)]
theorem k_schar_0_ok : fwChain m_schar.1.cls m_schar.2.1 0 k_schar_0 1 = true := by decide +kernel
theorem d_schar_1 : decode m_schar.2.1 1 = .ok (.invokevirtual 492, 3) := by decide +kernel
theorem d_schar_4 : decode m_schar.2.1 4 = .ok (.ifCond .eq 12, 3) := by decide +kernel
def k_schar_7 : List fwO := [(.aload_n 0, 0, 0, .null), (.getfield 9, 999, 0, .retAddr 0), (.iload_n 1, 0, 0, .null)]
theorem k_schar_7_ok : fwChain m_schar.1.cls m_schar.2.1 7 k_schar_7 12 = true := by decide +kernel
theorem d_schar_12 : decode m_schar.2.1 12 = .ok (.invokestatic 495, 3) := by decide +kernel
theorem d_schar_15 : decode m_schar.2.1 15 = .ok (.ireturn, 1) := by decide +kernel
def k_schar_16 : List fwO := [(.aload_n 0, 0, 0, .null), (.getfield 9, 999, 0, .retAddr 0), (.iload_n 1, 0, 0, .null)]
theorem k_schar_16_ok : fwChain m_schar.1.cls m_schar.2.1 16 k_schar_16 21 = true := by decide +kernel
theorem d_schar_21 : decode m_schar.2.1 21 = .ok (.invokestatic 498, 3) := by decide +kernel
theorem d_schar_24 : decode m_schar.2.1 24 = .ok (.ireturn, 1) := by decide +kernel
theorem c_slen_6 : ∀ w ∈ ([(Cond.methodLink "java/lang/String" (335 : Nat) ({ cls := "java/lang/String", name := "coder", desc := "()B" } : MethodName)), (Cond.instanceMethod ({ cls := "java/lang/String", name := "coder", desc := "()B" } : MethodName)), (Cond.selects "java/lang/String" ({ cls := "java/lang/String", name := "coder", desc := "()B" } : MethodName) ({ cls := "java/lang/String", name := "coder", desc := "()B" } : MethodName)), (Cond.initialized "java/lang/String")] : List Cond), w ∈ fwT := fwT_all [579, 580, 581, 287] (by decide +kernel) (by decide +kernel)
theorem c_schk_2 : ∀ w ∈ ([(Cond.fieldLink "java/lang/String" (1053 : Nat) "jdk/internal/util/Preconditions" "SIOOBE_FORMATTER" "Ljava/util/function/BiFunction;")] : List Cond), w ∈ fwT := fwT_all [599] (by decide +kernel) (by decide +kernel)
theorem c_schk_5 : ∀ w ∈ ([(Cond.methodLink "java/lang/String" (1059 : Nat) ({ cls := "jdk/internal/util/Preconditions", name := "checkIndex", desc := "(IILjava/util/function/BiFunction;)I" } : MethodName)), (Cond.static ({ cls := "jdk/internal/util/Preconditions", name := "checkIndex", desc := "(IILjava/util/function/BiFunction;)I" } : MethodName)), (Cond.initialized "jdk/internal/util/Preconditions")] : List Cond), w ∈ fwT := fwT_all [601, 602, 289] (by decide +kernel) (by decide +kernel)
theorem c_lchar_3 : ∀ w ∈ ([(Cond.methodLink "java/lang/StringLatin1" (9 : Nat) ({ cls := "java/lang/String", name := "checkIndex", desc := "(II)V" } : MethodName)), (Cond.static ({ cls := "java/lang/String", name := "checkIndex", desc := "(II)V" } : MethodName)), (Cond.initialized "java/lang/String")] : List Cond), w ∈ fwT := fwT_all [596, 597, 287] (by decide +kernel) (by decide +kernel)
theorem c_schar_1 : ∀ w ∈ ([(Cond.methodLink "java/lang/String" (492 : Nat) ({ cls := "java/lang/String", name := "isLatin1", desc := "()Z" } : MethodName)), (Cond.instanceMethod ({ cls := "java/lang/String", name := "isLatin1", desc := "()Z" } : MethodName)), (Cond.selects "java/lang/String" ({ cls := "java/lang/String", name := "isLatin1", desc := "()Z" } : MethodName) ({ cls := "java/lang/String", name := "isLatin1", desc := "()Z" } : MethodName)), (Cond.initialized "java/lang/String")] : List Cond), w ∈ fwT := fwT_all [589, 590, 591, 287] (by decide +kernel) (by decide +kernel)
theorem c_schar_12 : ∀ w ∈ ([(Cond.methodLink "java/lang/String" (495 : Nat) ({ cls := "java/lang/StringLatin1", name := "charAt", desc := "([BI)C" } : MethodName)), (Cond.static ({ cls := "java/lang/StringLatin1", name := "charAt", desc := "([BI)C" } : MethodName)), (Cond.initialized "java/lang/StringLatin1")] : List Cond), w ∈ fwT := fwT_all [593, 594, 288] (by decide +kernel) (by decide +kernel)
theorem c_schar_21 : ∀ w ∈ ([(Cond.methodLink "java/lang/String" (498 : Nat) ({ cls := "java/lang/StringUTF16", name := "charAt", desc := "([BI)C" } : MethodName)), (Cond.static ({ cls := "java/lang/StringUTF16", name := "charAt", desc := "([BI)C" } : MethodName)), (Cond.initialized "java/lang/StringUTF16")] : List Cond), w ∈ fwT := fwT_all [604, 605, 290] (by decide +kernel) (by decide +kernel)
end
section
/-! the JDK's methods that are reached -/
theorem fw_sl1 (Z : fwZ) (as : List Value) : (lg_sl (as.map (fwV Z))).length = (as.map fun v => v.category).sum := by
  induction as with
  | nil => rfl
  | cons v as ih =>
    show (lg_sl (fwV Z v :: as.map (fwV Z))).length = _
    unfold lg_sl at ih ⊢
    rw [List.flatMap_cons, List.length_append, ih, fwV_cat, List.map_cons, List.sum_cons]
    cases v <;> rfl
/-- nothing is changed, the answer is v -/
abbrev fwPure (v : Value) (sh : List fwE) (σ : fwS) : fwPost := fun w sh' σ' => w = some v ∧ sh' = sh ∧ σ' = σ
section JDK
variable {l : Launch} {Z : fwZ} {sh : List fwE} {σ : fwS}
theorem ct_mmin (x y : Int32) : fwC l Z m_mmin 1 0 0 [.int x, .int y] sh σ (fwPure (.int (if y < x then y else x)) sh σ) := by
  refine fwC_of (ls := [some (.int x), some (.int y)]) (by decide +kernel) rfl (by rw [fw_sl1]; exact Nat.le_refl 2) ?_
  refine fwRun_ok k_mmin_0_ok rfl trivial ?_
  refine fwg_cmp 9 d_mmin_2 (by decide) (fun h => ?_) (fun h => ?_)
  · refine fwRun_ok k_mmin_9_ok rfl trivial ?_
    exact fwg_iret rfl (Nat.le_refl _) (Nat.le_refl _) ⟨by rw [if_pos (show y < x from h)], rfl, rfl⟩ d_mmin_10
  · refine fwRun_ok k_mmin_5_ok rfl trivial ?_
    refine fwg_goto 10 d_mmin_6 (by decide) ?_
    exact fwg_iret rfl (Nat.le_refl _) (Nat.le_refl _) ⟨by rw [if_neg (show ¬ y < x from h)], rfl, rfl⟩ d_mmin_10
theorem ct_mmax (x y : Int32) : fwC l Z m_mmax 1 0 0 [.int x, .int y] sh σ (fwPure (.int (if x < y then y else x)) sh σ) := by
  refine fwC_of (ls := [some (.int x), some (.int y)]) (by decide +kernel) rfl (by rw [fw_sl1]; exact Nat.le_refl 2) ?_
  refine fwRun_ok k_mmax_0_ok rfl trivial ?_
  refine fwg_cmp 9 d_mmax_2 (by decide) (fun h => ?_) (fun h => ?_)
  · refine fwRun_ok k_mmax_9_ok rfl trivial ?_
    exact fwg_iret rfl (Nat.le_refl _) (Nat.le_refl _) ⟨by rw [if_pos (show x < y from h)], rfl, rfl⟩ d_mmax_10
  · refine fwRun_ok k_mmax_5_ok rfl trivial ?_
    refine fwg_goto 10 d_mmax_6 (by decide) ?_
    exact fwg_iret rfl (Nat.le_refl _) (Nat.le_refl _) ⟨by rw [if_neg (show ¬ x < y from h)], rfl, rfl⟩ d_mmax_10
theorem fwA_at (σ : fwS) (i : Nat) (f : Nat → Int32) : (fwA σ i f).1 i = f := funext fun b => if_pos rfl
theorem fwA_fwI (σ : fwS) (i k : Nat) (f : Nat → Int32) (v : Int32) : fwI (fwA σ i f) i k v = fwA σ i (fun j => if j = k then v else f j) := by
  refine Prod.ext (funext fun a => funext fun b => ?_) rfl
  show (if a = i ∧ b = k then v else if a = i then f b else σ.1 a b) = if a = i then (if b = k then v else f b) else σ.1 a b
  by_cases ha : a = i <;> by_cases hb : b = k <;> simp [ha, hb]
theorem fwA_id (σ : fwS) (i : Nat) : fwA σ i (σ.1 i) = σ := by
  refine Prod.ext (funext fun a => funext fun b => ?_) rfl
  show (if a = i then σ.1 i b else σ.1 a b) = σ.1 a b
  by_cases ha : a = i
  · rw [if_pos ha, ha]
  · rw [if_neg ha]
/-- the first i elements are x -/
def fwFill (f : Nat → Int32) (i : Nat) (x : Int32) : Nat → Int32 := fun j => if j < i then x else f j
theorem fwFill_0 (f : Nat → Int32) (x : Int32) : fwFill f 0 x = f := funext fun j => if_neg (Nat.not_lt_zero j)
theorem fwFill_s (f : Nat → Int32) (i : Nat) (x : Int32) : (fun j => if j = i then x else fwFill f i x j) = fwFill f (i + 1) x := by
  funext j
  unfold fwFill
  by_cases h1 : j = i
  · subst h1; rw [if_pos rfl, if_pos (by omega)]
  · by_cases h2 : j < i
    · rw [if_neg h1, if_pos h2, if_pos (by omega)]
    · rw [if_neg h1, if_neg h2, if_neg (by omega)]
theorem fillB_loop {a n : Nat} {x : Int32} (ha : sh[a]? = some (.inl (.byte, n))) (hn : n < 2 ^ 31) {Post : fwPost} (hp : Post none sh (fwA σ a (fwFill (σ.1 a) n x.toInt8.toInt32))) : ∀ (q i : Nat), i + q = n → fwG l Z m_fillB 1 0 0 Post 0 0 5 [some (.ref a), some (.int x), some (.int (nI i)), some (.int (nI n))] [] sh (fwA σ a (fwFill (σ.1 a) i x.toInt8.toInt32)) := by
  intro q
  induction q with
  | zero =>
    intro i hi
    refine fwRun_ok k_fillB_5_ok rfl trivial ?_
    refine fwg_cmp 20 d_fillB_7 (by decide) (fun h => ?_) (fun h => absurd (nI_le (by omega) (by omega)) h)
    have : i = n := by omega
    subst this
    exact fwg_vret rfl (Nat.le_refl _) (Nat.le_refl _) hp d_fillB_20
  | succ q ih =>
    intro i hi
    refine fwRun_ok k_fillB_5_ok rfl trivial ?_
    refine fwg_cmp 20 d_fillB_7 (by decide) (fun h => absurd (show nI n ≤ nI i from h) (nI_ge (by omega) hn)) (fun h => ?_)
    refine fwRun_ok (φs := [vp_in (nI i) n]) (ls' := [some (.ref a), some (.int x), some (.int (nI i + 1)), some (.int (nI n))]) (st' := []) (sh' := sh) (σ' := fwI (fwA σ a (fwFill (σ.1 a) i x.toInt8.toInt32)) a (nI i).toNatClampNeg x.toInt8.toInt32) k_fillB_10_ok (by simp [fwRun, k_fillB_10, fwStep, ha, fwSet1, fwKill]) (vp_in_nI (by omega) hn) ?_
    refine fwg_goto 5 d_fillB_17 (by decide) ?_
    rw [fwA_fwI, nI_clamp (by omega), fwFill_s, nI_1]
    exact ih (i + 1) (by omega)
theorem ct_fillB {a n : Nat} {x : Int32} (ha : sh[a]? = some (.inl (.byte, n))) (hn : n < 2 ^ 31) : fwC l Z m_fillB 1 0 0 [.ref a, .int x] sh σ (fun v sh' σ' => v = none ∧ sh' = sh ∧ σ' = fwA σ a (fwFill (σ.1 a) n x.toInt8.toInt32)) := by
  refine fwC_of (ls := [some (.ref a), some (.int x), none, none]) (by decide +kernel) rfl (by rw [fw_sl1]; exact Nat.le_of_ble_eq_true rfl) ?_
  refine fwRun_ok (φs := []) (ls' := [some (.ref a), some (.int x), some (.int (nI 0)), some (.int (nI n))]) (st' := []) (sh' := sh) (σ' := σ) k_fillB_0_ok (by simp [fwRun, k_fillB_0, fwStep, ha, fwSet1, fwKill, fwAT, nI]; rfl) trivial ?_
  have h := fillB_loop (l := l) (Z := Z) (σ := σ) (x := x) ha hn (Post := fun v sh' σ' => v = none ∧ sh' = sh ∧ σ' = fwA σ a (fwFill (σ.1 a) n x.toInt8.toInt32)) ⟨rfl, rfl, rfl⟩ n 0 (by omega)
  rw [fwFill_0, fwA_id] at h
  exact h
theorem fillI_loop {a n : Nat} {x : Int32} (ha : sh[a]? = some (.inl (.int, n))) (hn : n < 2 ^ 31) {Post : fwPost} (hp : Post none sh (fwA σ a (fwFill (σ.1 a) n x))) : ∀ (q i : Nat), i + q = n → fwG l Z m_fillI 1 0 0 Post 0 0 5 [some (.ref a), some (.int x), some (.int (nI i)), some (.int (nI n))] [] sh (fwA σ a (fwFill (σ.1 a) i x)) := by
  intro q
  induction q with
  | zero =>
    intro i hi
    refine fwRun_ok k_fillI_5_ok rfl trivial ?_
    refine fwg_cmp 20 d_fillI_7 (by decide) (fun h => ?_) (fun h => absurd (nI_le (by omega) (by omega)) h)
    have : i = n := by omega
    subst this
    exact fwg_vret rfl (Nat.le_refl _) (Nat.le_refl _) hp d_fillI_20
  | succ q ih =>
    intro i hi
    refine fwRun_ok k_fillI_5_ok rfl trivial ?_
    refine fwg_cmp 20 d_fillI_7 (by decide) (fun h => absurd (show nI n ≤ nI i from h) (nI_ge (by omega) hn)) (fun h => ?_)
    refine fwRun_ok (φs := [vp_in (nI i) n]) (ls' := [some (.ref a), some (.int x), some (.int (nI i + 1)), some (.int (nI n))]) (st' := []) (sh' := sh) (σ' := fwI (fwA σ a (fwFill (σ.1 a) i x)) a (nI i).toNatClampNeg x) k_fillI_10_ok (by simp [fwRun, k_fillI_10, fwStep, ha, fwSet1, fwKill]) (vp_in_nI (by omega) hn) ?_
    refine fwg_goto 5 d_fillI_17 (by decide) ?_
    rw [fwA_fwI, nI_clamp (by omega), fwFill_s, nI_1]
    exact ih (i + 1) (by omega)
theorem ct_fillI {a n : Nat} {x : Int32} (ha : sh[a]? = some (.inl (.int, n))) (hn : n < 2 ^ 31) : fwC l Z m_fillI 1 0 0 [.ref a, .int x] sh σ (fun v sh' σ' => v = none ∧ sh' = sh ∧ σ' = fwA σ a (fwFill (σ.1 a) n x)) := by
  refine fwC_of (ls := [some (.ref a), some (.int x), none, none]) (by decide +kernel) rfl (by rw [fw_sl1]; exact Nat.le_of_ble_eq_true rfl) ?_
  refine fwRun_ok (φs := []) (ls' := [some (.ref a), some (.int x), some (.int (nI 0)), some (.int (nI n))]) (st' := []) (sh' := sh) (σ' := σ) k_fillI_0_ok (by simp [fwRun, k_fillI_0, fwStep, ha, fwSet1, fwKill, fwAT, nI]; rfl) trivial ?_
  have h := fillI_loop (l := l) (Z := Z) (σ := σ) (x := x) ha hn (Post := fun v sh' σ' => v = none ∧ sh' = sh ∧ σ' = fwA σ a (fwFill (σ.1 a) n x)) ⟨rfl, rfl, rfl⟩ n 0 (by omega)
  rw [fwFill_0, fwA_id] at h
  exact h
theorem fw_10 {A : Prop} (h : fwIf ClassFile.Cond.eq 1) : A := absurd (show (1 : Int32) = 0 from h) (by decide)
theorem ct_scod {c : Nat} (hc : c < fwNs) : fwC l Z m_scod 1 0 0 [.retAddr c] sh σ (fwPure (.int 0) sh σ) := by
  refine fwC_of (ls := [some (.retAddr c)]) (by decide +kernel) rfl (by rw [fw_sl1]; exact Nat.le_refl 1) ?_
  refine fwRun_ok k_scod_0_ok rfl trivial ?_
  refine fwg_if 13 d_scod_3 (by decide) (fun h => fw_10 h) (fun h => ?_)
  refine fwRun_ok (φs := []) (ls' := [some (.retAddr c)]) (st' := [.int 0]) (sh' := sh) (σ' := σ) k_scod_6_ok (by simp [fwRun, k_scod_6, fwStep, hc]) trivial ?_
  refine fwg_goto 14 d_scod_10 (by decide) ?_
  exact fwg_zret rfl rfl (Nat.le_refl _) (Nat.le_refl _) ⟨rfl, rfl, rfl⟩ d_scod_14
theorem ct_slat {c : Nat} (hc : c < fwNs) : fwC l Z m_slat 1 0 0 [.retAddr c] sh σ (fwPure (.int 1) sh σ) := by
  refine fwC_of (ls := [some (.retAddr c)]) (by decide +kernel) rfl (by rw [fw_sl1]; exact Nat.le_refl 1) ?_
  refine fwRun_ok k_slat_0_ok rfl trivial ?_
  refine fwg_if 17 d_slat_3 (by decide) (fun h => fw_10 h) (fun h => ?_)
  refine fwRun_ok (φs := []) (ls' := [some (.retAddr c)]) (st' := [.int 0]) (sh' := sh) (σ' := σ) k_slat_6_ok (by simp [fwRun, k_slat_6, fwStep, hc]) trivial ?_
  refine fwg_if 17 d_slat_10 (by decide) (fun h => absurd rfl (show ¬ (0 : Int32) = 0 from h)) (fun h => ?_)
  refine fwRun_ok k_slat_13_ok rfl trivial ?_
  refine fwg_goto 18 d_slat_14 (by decide) ?_
  exact fwg_zret rfl rfl (Nat.le_refl _) (Nat.le_refl _) ⟨rfl, rfl, rfl⟩ d_slat_18
theorem fw_sc : ∀ c, c < fwNs → fwSl.getD c 0 = (fwSb.getD c []).length ∧ fwSl.getD c 0 < 2 ^ 31 ∧ ∀ b ∈ fwSb.getD c [], b.toInt8.toInt32 = b := by decide +kernel
theorem ct_slen {c : Nat} (hc : c < fwNs) : fwC l Z m_slen 2 0 0 [.retAddr c] sh σ (fwPure (.int (nI (fwSl.getD c 0))) sh σ) := by
  refine fwC_of (ls := [some (.retAddr c)]) (by decide +kernel) rfl (by rw [fw_sl1]; exact Nat.le_refl 1) ?_
  refine fwRun_ok (φs := []) (ls' := [some (.retAddr c)]) (st' := [.retAddr c, .int (nI (fwSl.getD c 0))]) (sh' := sh) (σ' := σ) k_slen_0_ok (by simp [fwRun, k_slen_0, fwStep, hc, nI, show ¬ c + 1000 < 1000 by omega]) trivial ?_
  refine fwg_callK (n := 0) (as := []) (r := [.int (nI (fwSl.getD c 0))]) (ct_scod hc) ⟨by decide, by decide, by decide +kernel⟩ rfl m_scod_in c_slen_6 hc rfl rfl (Nat.le_of_ble_eq_true rfl) d_slen_6 ⟨Nat.le_refl _, Nat.le_of_ble_eq_true rfl⟩ ⟨Nat.le_refl _, Nat.le_refl _⟩ (fun v sh' σ' hp => ?_)
  obtain ⟨rfl, rfl, rfl⟩ := hp
  refine fwRun_ok k_slen_9_ok rfl trivial ?_
  refine fwg_iret rfl (Nat.le_refl _) (Nat.le_refl _) ⟨?_, rfl, rfl⟩ d_slen_10
  rw [sb_shr0]
theorem ct_pchk {x y : Int32} {v : Value} (hv : v.category = 1) (h0 : ¬ x < 0) (h1 : x < y) : fwC l Z m_pchk 1 0 0 [.int x, .int y, v] sh σ (fwPure (.int x) sh σ) := by
  refine fwC_of (ls := [some (.int x), some (.int y), some v]) (by decide +kernel) (by simp [fwIni, lv_args, List.range, List.range.loop, List.lookup, Value.category]) (by rw [fw_sl1]; show 1 + (1 + (v.category + 0)) ≤ 3; rw [hv]; exact Nat.le_refl 3) ?_
  refine fwRun_ok k_pchk_0_ok rfl trivial ?_
  refine fwg_if 9 d_pchk_1 (by decide) (fun h => absurd h h0) (fun h => ?_)
  refine fwRun_ok k_pchk_4_ok rfl trivial ?_
  refine fwg_cmp 16 d_pchk_6 (by decide) (fun h => ?_) (fun h => absurd h1 h)
  refine fwRun_ok k_pchk_16_ok rfl trivial ?_
  exact fwg_iret rfl (Nat.le_refl _) (Nat.le_refl _) ⟨rfl, rfl, rfl⟩ d_pchk_17
theorem ct_schk {x y : Int32} (h0 : ¬ x < 0) (h1 : x < y) : fwC l Z m_schk 2 0 0 [.int x, .int y] sh σ (fun v sh' σ' => v = none ∧ sh' = sh ∧ σ' = σ) := by
  refine fwC_of (ls := [some (.int x), some (.int y)]) (by decide +kernel) rfl (by rw [fw_sl1]; exact Nat.le_refl 2) ?_
  refine fwRun_ok k_schk_0_ok rfl trivial ?_
  refine fwg_getQ (c_schk_2 _ (by simp)) d_schk_2 ?_
  have hv : (fwSv Z).category = 1 := by unfold fwSv; split <;> rfl
  refine fwg_callS (n := 3) (as := [.int x, .int y, fwSv Z]) (r := []) (ct_pchk hv h0 h1) ⟨by decide, by decide, by decide +kernel⟩ m_pchk_in c_schk_5 rfl rfl (Nat.le_of_ble_eq_true rfl) d_schk_5 ⟨Nat.le_refl _, Nat.le_of_ble_eq_true rfl⟩ ⟨Nat.le_refl _, Nat.le_refl _⟩ (fun v sh' σ' hp => ?_)
  obtain ⟨rfl, rfl, rfl⟩ := hp
  refine fwRun_ok k_schk_8_ok rfl trivial ?_
  exact fwg_vret rfl (Nat.le_refl _) (Nat.le_refl _) ⟨rfl, rfl, rfl⟩ d_schk_9
/-- the sign at place j of text c -/
def fwCh (c j : Nat) : Int32 := (fwSb.getD c []).getD j 0 &&& 255
theorem ct_lchar {c j : Nat} (hc : c < fwNs) (hj : j < fwSl.getD c 0) : fwC l Z m_lchar 3 0 0 [.retAddr (c + 1000), .int (nI j)] sh σ (fwPure (.int (fwCh c j)) sh σ) := by
  obtain ⟨hl, hL, -⟩ := fw_sc c hc
  refine fwC_of (ls := [some (.retAddr (c + 1000)), some (.int (nI j))]) (by decide +kernel) rfl (by rw [fw_sl1]; exact Nat.le_refl 2) ?_
  refine fwRun_ok (φs := []) (ls' := [some (.retAddr (c + 1000)), some (.int (nI j))]) (st' := [.int (nI (fwSl.getD c 0)), .int (nI j)]) (sh' := sh) (σ' := σ) k_lchar_0_ok (by simp [fwRun, k_lchar_0, fwStep, hc, nI, show ¬ c + 1000 < 1000 by omega]) trivial ?_
  refine fwg_callS (n := 2) (as := [.int (nI j), .int (nI (fwSl.getD c 0))]) (r := []) (ct_schk (nI_pos (by omega)) (nI_lt hj hL)) ⟨by decide, by decide, by decide +kernel⟩ m_schk_in c_lchar_3 rfl rfl (Nat.le_of_ble_eq_true rfl) d_lchar_3 ⟨Nat.le_refl _, Nat.le_of_ble_eq_true rfl⟩ ⟨Nat.le_refl _, Nat.le_refl _⟩ (fun v sh' σ' hp => ?_)
  obtain ⟨rfl, rfl, rfl⟩ := hp
  refine fwRun_ok (φs := [vp_in (nI j) (fwSl.getD c 0)]) (ls' := [some (.retAddr (c + 1000)), some (.int (nI j))]) (st' := [.int ((((fwSb.getD c []).getD (nI j).toNatClampNeg 0) &&& 255).toUInt32 % 65536).toInt32]) (sh' := sh') (σ' := σ') k_lchar_6_ok (by simp [fwRun, k_lchar_6, fwStep, hc, show ¬ c + 1000 < 1000 by omega]) (vp_in_nI hj hL) ?_
  have eX : ((((fwSb.getD c []).getD (nI j).toNatClampNeg 0) &&& 255).toUInt32 % 65536).toInt32 = fwCh c j := by
    rw [nI_clamp (by omega)]
    exact sc_c2 _
  rw [eX]
  exact fwg_zret rfl (sc_nar _) (Nat.le_refl _) (Nat.le_refl _) ⟨rfl, rfl, rfl⟩ d_lchar_14
theorem ct_schar {c j : Nat} (hc : c < fwNs) (hj : j < fwSl.getD c 0) : fwC l Z m_schar 4 0 0 [.retAddr c, .int (nI j)] sh σ (fwPure (.int (fwCh c j)) sh σ) := by
  refine fwC_of (ls := [some (.retAddr c), some (.int (nI j))]) (by decide +kernel) rfl (by rw [fw_sl1]; exact Nat.le_refl 2) ?_
  refine fwRun_ok k_schar_0_ok rfl trivial ?_
  refine fwg_callK (n := 0) (as := []) (r := []) (ct_slat hc) ⟨by decide, by decide, by decide +kernel⟩ rfl m_slat_in c_schar_1 hc rfl rfl (Nat.le_of_ble_eq_true rfl) d_schar_1 ⟨Nat.le_of_ble_eq_true rfl, Nat.le_of_ble_eq_true rfl⟩ ⟨Nat.le_refl _, Nat.le_refl _⟩ (fun v sh' σ' hp => ?_)
  obtain ⟨rfl, rfl, rfl⟩ := hp
  refine fwg_if 16 d_schar_4 (by decide) (fun h => fw_10 h) (fun h => ?_)
  refine fwRun_ok (φs := []) (ls' := [some (.retAddr c), some (.int (nI j))]) (st' := [.int (nI j), .retAddr (c + 1000)]) (sh' := sh') (σ' := σ') k_schar_7_ok (by simp [fwRun, k_schar_7, fwStep, hc]) trivial ?_
  refine fwg_callS (n := 2) (as := [.retAddr (c + 1000), .int (nI j)]) (r := []) (ct_lchar hc hj) ⟨by decide, by decide, by decide +kernel⟩ m_lchar_in c_schar_12 rfl rfl (Nat.le_of_ble_eq_true rfl) d_schar_12 ⟨Nat.le_refl _, Nat.le_of_ble_eq_true rfl⟩ ⟨Nat.le_refl _, Nat.le_refl _⟩ (fun v sh' σ' hp => ?_)
  obtain ⟨rfl, rfl, rfl⟩ := hp
  obtain ⟨b, hb⟩ : ∃ b, fwCh c j = b &&& 255 := ⟨_, rfl⟩
  exact fwg_zret rfl (by rw [hb]; exact sc_nar _) (Nat.le_refl _) (Nat.le_refl _) ⟨rfl, rfl, rfl⟩ d_schar_15
end JDK
end
section
/-! methods, their instructions, by program (wip/whole/methods.py) -/
/-- MonitorBoard$Console.tell(I)V -/
abbrev m_tell : fwM := (⟨"MonitorBoard$Console", "tell", "(I)V"⟩, prog_4_method_2_code, 2, (none : Option FieldType))
theorem m_tell_in : Cond.code m_tell.1 m_tell.2.1 m_tell.2.2.1 m_tell.2.2.2 ∈ fwT := fwT_mem (List.mem_of_getElem? (i := 829) (by decide +kernel)) rfl
def k_tell_0 : List fwO := [(.aload_n 0, 0, 0, .null), (.getfield 9, 3, 0, .retAddr 0), (.aload_n 0, 0, 0, .null), (.getfield 22, 3, 3, .retAddr 5), (.aload_n 0, 0, 0, .null), (.getfield 26, 3, 4, .retAddr 6), (.iadd, 0, 0, .null), (.sipush 8000, 0, 0, .int 8000), (.irem, 0, 0, .null), (.iload_n 1, 0, 0, .null), (.i2b, 0, 0, .null), (.bastore, 0, 0, .null), (.aload_n 0, 0, 0, .null), (.getfield 26, 3, 4, .retAddr 6), (.sipush 8000, 0, 0, .int 8000)]
theorem k_tell_0_ok : fwChain m_tell.1.cls m_tell.2.1 0 k_tell_0 27 = true := by decide +kernel
theorem d_tell_27 : decode m_tell.2.1 27 = .ok (.if_icmp .ge 16, 3) := by decide +kernel
def k_tell_30 : List fwO := [(.aload_n 0, 0, 0, .null), (.dup, 0, 0, .null), (.getfield 26, 3, 4, .retAddr 6), (.iconst 1, 0, 0, .int 1), (.iadd, 0, 0, .null), (.putfield 26, 3, 4, .retAddr 6)]
theorem k_tell_30_ok : fwChain m_tell.1.cls m_tell.2.1 30 k_tell_30 40 = true := by decide +kernel
theorem d_tell_40 : decode m_tell.2.1 40 = .ok (.goto 17, 3) := by decide +kernel
def k_tell_43 : List fwO := [(.aload_n 0, 0, 0, .null), (.aload_n 0, 0, 0, .null), (.getfield 22, 3, 3, .retAddr 5), (.iconst 1, 0, 0, .int 1), (.iadd, 0, 0, .null), (.sipush 8000, 0, 0, .int 8000), (.irem, 0, 0, .null), (.putfield 22, 3, 3, .retAddr 5)]
theorem k_tell_43_ok : fwChain m_tell.1.cls m_tell.2.1 43 k_tell_43 57 = true := by decide +kernel
theorem d_tell_57 : decode m_tell.2.1 57 = .ok (.return_, 1) := by decide +kernel
/-- MonitorBoard$Console.tellLine(Ljava/lang/String;)V -/
abbrev m_tellLine : fwM := (⟨"MonitorBoard$Console", "tellLine", "(Ljava/lang/String;)V"⟩, prog_4_method_4_code, 3, (none : Option FieldType))
theorem m_tellLine_in : Cond.code m_tellLine.1 m_tellLine.2.1 m_tellLine.2.2.1 m_tellLine.2.2.2 ∈ fwT := fwT_mem (List.mem_of_getElem? (i := 825) (by decide +kernel)) rfl
def k_tellLine_0 : List fwO := [(.aload_n 0, 0, 0, .null), (.bipush 13, 0, 0, .int 13)]
theorem k_tellLine_0_ok : fwChain m_tellLine.1.cls m_tellLine.2.1 0 k_tellLine_0 3 = true := by decide +kernel
theorem d_tellLine_3 : decode m_tellLine.2.1 3 = .ok (.invokevirtual 39, 3) := by decide +kernel
def k_tellLine_6 : List fwO := [(.aload_n 0, 0, 0, .null), (.bipush 10, 0, 0, .int 10)]
theorem k_tellLine_6_ok : fwChain m_tellLine.1.cls m_tellLine.2.1 6 k_tellLine_6 9 = true := by decide +kernel
theorem d_tellLine_9 : decode m_tellLine.2.1 9 = .ok (.invokevirtual 39, 3) := by decide +kernel
def k_tellLine_12 : List fwO := [(.iconst 0, 0, 0, .int 0), (.istore_n 2, 0, 0, .null)]
theorem k_tellLine_12_ok : fwChain m_tellLine.1.cls m_tellLine.2.1 12 k_tellLine_12 14 = true := by decide +kernel
def k_tellLine_14 : List fwO := [(.iload_n 2, 0, 0, .null), (.aload_n 1, 0, 0, .null)]
theorem k_tellLine_14_ok : fwChain m_tellLine.1.cls m_tellLine.2.1 14 k_tellLine_14 16 = true := by decide +kernel
theorem d_tellLine_16 : decode m_tellLine.2.1 16 = .ok (.invokevirtual 29, 3) := by decide +kernel
theorem d_tellLine_19 : decode m_tellLine.2.1 19 = .ok (.if_icmp .ge 18, 3) := by decide +kernel
def k_tellLine_22 : List fwO := [(.aload_n 0, 0, 0, .null), (.aload_n 1, 0, 0, .null), (.iload_n 2, 0, 0, .null)]
theorem k_tellLine_22_ok : fwChain m_tellLine.1.cls m_tellLine.2.1 22 k_tellLine_22 25 = true := by decide +kernel
theorem d_tellLine_25 : decode m_tellLine.2.1 25 = .ok (.invokevirtual 35, 3) := by decide +kernel
theorem d_tellLine_28 : decode m_tellLine.2.1 28 = .ok (.invokevirtual 39, 3) := by decide +kernel
def k_tellLine_31 : List fwO := [(.iinc 2 1, 0, 0, .int 1)]
theorem k_tellLine_31_ok : fwChain m_tellLine.1.cls m_tellLine.2.1 31 k_tellLine_31 34 = true := by decide +kernel
theorem d_tellLine_34 : decode m_tellLine.2.1 34 = .ok (.goto (-20), 3) := by decide +kernel
theorem d_tellLine_37 : decode m_tellLine.2.1 37 = .ok (.return_, 1) := by decide +kernel
/-- MonitorBoard$Console.openLine(I)V -/
abbrev m_openLine : fwM := (⟨"MonitorBoard$Console", "openLine", "(I)V"⟩, prog_4_method_11_code, 2, (none : Option FieldType))
theorem m_openLine_in : Cond.code m_openLine.1 m_openLine.2.1 m_openLine.2.2.1 m_openLine.2.2.2 ∈ fwT := fwT_mem (List.mem_of_getElem? (i := 876) (by decide +kernel)) rfl
def k_openLine_0 : List fwO := [(.aload_n 0, 0, 0, .null), (.iload_n 1, 0, 0, .null), (.aload_n 0, 0, 0, .null), (.getfield 18, 3, 2, .retAddr 2), (.arraylength, 0, 0, .null)]
theorem k_openLine_0_ok : fwChain m_openLine.1.cls m_openLine.2.1 0 k_openLine_0 7 = true := by decide +kernel
theorem d_openLine_7 : decode m_openLine.2.1 7 = .ok (.invokestatic 45, 3) := by decide +kernel
def k_openLine_10 : List fwO := [(.putfield 57, 3, 8, .retAddr 14), (.aload_n 0, 0, 0, .null), (.iconst 0, 0, 0, .int 0), (.putfield 60, 3, 7, .retAddr 12), (.aload_n 0, 0, 0, .null), (.iconst 1, 0, 0, .int 1), (.putfield 63, 3, 9, .retAddr 15)]
theorem k_openLine_10_ok : fwChain m_openLine.1.cls m_openLine.2.1 10 k_openLine_10 23 = true := by decide +kernel
theorem d_openLine_23 : decode m_openLine.2.1 23 = .ok (.return_, 1) := by decide +kernel
/-- MonitorBoard$Processor.poke(II)V -/
abbrev m_poke : fwM := (⟨"MonitorBoard$Processor", "poke", "(II)V"⟩, prog_9_method_4_code, 3, (none : Option FieldType))
theorem m_poke_in : Cond.code m_poke.1 m_poke.2.1 m_poke.2.2.1 m_poke.2.2.2 ∈ fwT := fwT_mem (List.mem_of_getElem? (i := 839) (by decide +kernel)) rfl
def k_poke_0 : List fwO := [(.aload_n 0, 0, 0, .null), (.getfield 10, 8, 0, .retAddr 18), (.iload_n 1, 0, 0, .null), (.ldc 37, 5, 0, .int 65535), (.iand, 0, 0, .null), (.iload_n 2, 0, 0, .null), (.i2b, 0, 0, .null), (.bastore, 0, 0, .null)]
theorem k_poke_0_ok : fwChain m_poke.1.cls m_poke.2.1 0 k_poke_0 11 = true := by decide +kernel
theorem d_poke_11 : decode m_poke.2.1 11 = .ok (.return_, 1) := by decide +kernel
/-- MonitorBoard$Processor.pokeWord(II)V -/
abbrev m_pokeWord : fwM := (⟨"MonitorBoard$Processor", "pokeWord", "(II)V"⟩, prog_9_method_6_code, 3, (none : Option FieldType))
theorem m_pokeWord_in : Cond.code m_pokeWord.1 m_pokeWord.2.1 m_pokeWord.2.2.1 m_pokeWord.2.2.2 ∈ fwT := fwT_mem (List.mem_of_getElem? (i := 845) (by decide +kernel)) rfl
def k_pokeWord_0 : List fwO := [(.aload_n 0, 0, 0, .null), (.getfield 10, 8, 0, .retAddr 18), (.iload_n 1, 0, 0, .null), (.ldc 37, 5, 0, .int 65535), (.iand, 0, 0, .null), (.iload_n 2, 0, 0, .null), (.i2b, 0, 0, .null), (.bastore, 0, 0, .null), (.aload_n 0, 0, 0, .null), (.getfield 10, 8, 0, .retAddr 18), (.iload_n 1, 0, 0, .null), (.iconst 1, 0, 0, .int 1), (.iadd, 0, 0, .null), (.ldc 37, 5, 0, .int 65535), (.iand, 0, 0, .null), (.iload_n 2, 0, 0, .null), (.bipush 8, 0, 0, .int 8), (.ishr, 0, 0, .null), (.i2b, 0, 0, .null), (.bastore, 0, 0, .null)]
theorem k_pokeWord_0_ok : fwChain m_pokeWord.1.cls m_pokeWord.2.1 0 k_pokeWord_0 27 = true := by decide +kernel
theorem d_pokeWord_27 : decode m_pokeWord.2.1 27 = .ok (.return_, 1) := by decide +kernel
/-- MonitorBoard$Processor.clearRegisters()V -/
abbrev m_clearRegs : fwM := (⟨"MonitorBoard$Processor", "clearRegisters", "()V"⟩, prog_9_method_2_code, 1, (none : Option FieldType))
theorem m_clearRegs_in : Cond.code m_clearRegs.1 m_clearRegs.2.1 m_clearRegs.2.2.1 m_clearRegs.2.2.2 ∈ fwT := fwT_mem (List.mem_of_getElem? (i := 817) (by decide +kernel)) rfl
def k_clearRegs_0 : List fwO := [(.aload_n 0, 0, 0, .null), (.getfield 16, 8, 1, .retAddr 22), (.iconst 0, 0, 0, .int 0)]
theorem k_clearRegs_0_ok : fwChain m_clearRegs.1.cls m_clearRegs.2.1 0 k_clearRegs_0 5 = true := by decide +kernel
theorem d_clearRegs_5 : decode m_clearRegs.2.1 5 = .ok (.invokestatic 28, 3) := by decide +kernel
def k_clearRegs_8 : List fwO := [(.aload_n 0, 0, 0, .null), (.iconst 2, 0, 0, .int 2), (.putfield 20, 8, 3, .retAddr 26), (.aload_n 0, 0, 0, .null), (.iconst 0, 0, 0, .int 0), (.putfield 34, 8, 4, .retAddr 28)]
theorem k_clearRegs_8_ok : fwChain m_clearRegs.1.cls m_clearRegs.2.1 8 k_clearRegs_8 18 = true := by decide +kernel
theorem d_clearRegs_18 : decode m_clearRegs.2.1 18 = .ok (.return_, 1) := by decide +kernel
/-- MonitorBoard$Files.forgetDrives()V -/
abbrev m_forget : fwM := (⟨"MonitorBoard$Files", "forgetDrives", "()V"⟩, prog_5_method_6_code, 1, (none : Option FieldType))
theorem m_forget_in : Cond.code m_forget.1 m_forget.2.1 m_forget.2.2.1 m_forget.2.2.2 ∈ fwT := fwT_mem (List.mem_of_getElem? (i := 850) (by decide +kernel)) rfl
def k_forget_0 : List fwO := [(.aload_n 0, 0, 0, .null), (.iconst 0, 0, 0, .int 0), (.putfield 48, 4, 9, .retAddr 61), (.aload_n 0, 0, 0, .null), (.iconst 0, 0, 0, .int 0), (.putfield 52, 4, 8, .retAddr 60)]
theorem k_forget_0_ok : fwChain m_forget.1.cls m_forget.2.1 0 k_forget_0 10 = true := by decide +kernel
theorem d_forget_10 : decode m_forget.2.1 10 = .ok (.return_, 1) := by decide +kernel
/-- MonitorBoard$Files.entryPlace(II)I -/
abbrev m_entryPlace : fwM := (⟨"MonitorBoard$Files", "entryPlace", "(II)I"⟩, prog_5_method_5_code, 3, (some FieldType.int))
theorem m_entryPlace_in : Cond.code m_entryPlace.1 m_entryPlace.2.1 m_entryPlace.2.2.1 m_entryPlace.2.2.2 ∈ fwT := fwT_mem (List.mem_of_getElem? (i := 858) (by decide +kernel)) rfl
def k_entryPlace_0 : List fwO := [(.iload_n 1, 0, 0, .null), (.ldc 47, 3, 0, .int 256256), (.imul, 0, 0, .null), (.aload_n 0, 0, 0, .null), (.getfield 16, 4, 1, .retAddr 47), (.iload_n 2, 0, 0, .null), (.iconst 2, 0, 0, .int 2), (.ishr, 0, 0, .null), (.iaload, 0, 0, .null), (.iadd, 0, 0, .null), (.iload_n 2, 0, 0, .null), (.iconst 3, 0, 0, .int 3), (.iand, 0, 0, .null), (.bipush 32, 0, 0, .int 32), (.imul, 0, 0, .null), (.iadd, 0, 0, .null)]
theorem k_entryPlace_0_ok : fwChain m_entryPlace.1.cls m_entryPlace.2.1 0 k_entryPlace_0 20 = true := by decide +kernel
theorem d_entryPlace_20 : decode m_entryPlace.2.1 20 = .ok (.ireturn, 1) := by decide +kernel
/-- MonitorBoard$Files.login(I)V -/
abbrev m_login : fwM := (⟨"MonitorBoard$Files", "login", "(I)V"⟩, prog_5_method_7_code, 4, (none : Option FieldType))
theorem m_login_in : Cond.code m_login.1 m_login.2.1 m_login.2.2.1 m_login.2.2.2 ∈ fwT := fwT_mem (List.mem_of_getElem? (i := 854) (by decide +kernel)) rfl
def k_login_0 : List fwO := [(.aload_n 0, 0, 0, .null), (.getfield 48, 4, 9, .retAddr 61), (.iload_n 1, 0, 0, .null), (.ishr, 0, 0, .null), (.iconst 1, 0, 0, .int 1), (.iand, 0, 0, .null)]
theorem k_login_0_ok : fwChain m_login.1.cls m_login.2.1 0 k_login_0 8 = true := by decide +kernel
theorem d_login_8 : decode m_login.2.1 8 = .ok (.ifCond .eq 4, 3) := by decide +kernel
theorem d_login_11 : decode m_login.2.1 11 = .ok (.return_, 1) := by decide +kernel
def k_login_12 : List fwO := [(.aload_n 0, 0, 0, .null), (.dup, 0, 0, .null), (.getfield 48, 4, 9, .retAddr 61), (.iconst 1, 0, 0, .int 1), (.iload_n 1, 0, 0, .null), (.ishl, 0, 0, .null), (.ior, 0, 0, .null), (.putfield 48, 4, 9, .retAddr 61), (.iconst 0, 0, 0, .int 0), (.istore_n 2, 0, 0, .null)]
theorem k_login_12_ok : fwChain m_login.1.cls m_login.2.1 12 k_login_12 26 = true := by decide +kernel
def k_login_26 : List fwO := [(.iload_n 2, 0, 0, .null), (.sipush 243, 0, 0, .int 243)]
theorem k_login_26_ok : fwChain m_login.1.cls m_login.2.1 26 k_login_26 30 = true := by decide +kernel
theorem d_login_30 : decode m_login.2.1 30 = .ok (.if_icmp .ge 31, 3) := by decide +kernel
def k_login_33 : List fwO := [(.aload_n 0, 0, 0, .null), (.getfield 20, 4, 2, .retAddr 49), (.iload_n 1, 0, 0, .null), (.sipush 243, 0, 0, .int 243), (.imul, 0, 0, .null), (.iload_n 2, 0, 0, .null), (.iadd, 0, 0, .null), (.iload_n 2, 0, 0, .null), (.iconst 2, 0, 0, .int 2)]
theorem k_login_33_ok : fwChain m_login.1.cls m_login.2.1 33 k_login_33 46 = true := by decide +kernel
theorem d_login_46 : decode m_login.2.1 46 = .ok (.if_icmp .ge 7, 3) := by decide +kernel
def k_login_49 : List fwO := [(.iconst 1, 0, 0, .int 1)]
theorem k_login_49_ok : fwChain m_login.1.cls m_login.2.1 49 k_login_49 50 = true := by decide +kernel
theorem d_login_50 : decode m_login.2.1 50 = .ok (.goto 4, 3) := by decide +kernel
def k_login_53 : List fwO := [(.iconst 0, 0, 0, .int 0)]
theorem k_login_53_ok : fwChain m_login.1.cls m_login.2.1 53 k_login_53 54 = true := by decide +kernel
def k_login_54 : List fwO := [(.bastore, 0, 0, .null), (.iinc 2 1, 0, 0, .int 1)]
theorem k_login_54_ok : fwChain m_login.1.cls m_login.2.1 54 k_login_54 58 = true := by decide +kernel
theorem d_login_58 : decode m_login.2.1 58 = .ok (.goto (-32), 3) := by decide +kernel
def k_login_61 : List fwO := [(.iconst 0, 0, 0, .int 0), (.istore_n 2, 0, 0, .null)]
theorem k_login_61_ok : fwChain m_login.1.cls m_login.2.1 61 k_login_61 63 = true := by decide +kernel
def k_login_63 : List fwO := [(.iload_n 2, 0, 0, .null), (.bipush 64, 0, 0, .int 64)]
theorem k_login_63_ok : fwChain m_login.1.cls m_login.2.1 63 k_login_63 66 = true := by decide +kernel
theorem d_login_66 : decode m_login.2.1 66 = .ok (.if_icmp .ge 39, 3) := by decide +kernel
def k_login_69 : List fwO := [(.aload_n 0, 0, 0, .null), (.iload_n 1, 0, 0, .null), (.iload_n 2, 0, 0, .null)]
theorem k_login_69_ok : fwChain m_login.1.cls m_login.2.1 69 k_login_69 72 = true := by decide +kernel
theorem d_login_72 : decode m_login.2.1 72 = .ok (.invokevirtual 56, 3) := by decide +kernel
def k_login_75 : List fwO := [(.istore_n 3, 0, 0, .null), (.aload_n 0, 0, 0, .null), (.getfield 10, 4, 0, .retAddr 42), (.iload_n 3, 0, 0, .null), (.baload, 0, 0, .null), (.sipush 255, 0, 0, .int 255), (.iand, 0, 0, .null), (.sipush 229, 0, 0, .int 229)]
theorem k_login_75_ok : fwChain m_login.1.cls m_login.2.1 75 k_login_75 89 = true := by decide +kernel
theorem d_login_89 : decode m_login.2.1 89 = .ok (.if_icmp .eq 10, 3) := by decide +kernel
def k_login_92 : List fwO := [(.aload_n 0, 0, 0, .null), (.iload_n 1, 0, 0, .null), (.iload_n 3, 0, 0, .null), (.iconst 1, 0, 0, .int 1)]
theorem k_login_92_ok : fwChain m_login.1.cls m_login.2.1 92 k_login_92 96 = true := by decide +kernel
theorem d_login_96 : decode m_login.2.1 96 = .ok (.invokevirtual 60, 3) := by decide +kernel
def k_login_99 : List fwO := [(.iinc 2 1, 0, 0, .int 1)]
theorem k_login_99_ok : fwChain m_login.1.cls m_login.2.1 99 k_login_99 102 = true := by decide +kernel
theorem d_login_102 : decode m_login.2.1 102 = .ok (.goto (-39), 3) := by decide +kernel
theorem d_login_105 : decode m_login.2.1 105 = .ok (.return_, 1) := by decide +kernel
/-- MonitorBoard$Monitor.goToCommand()V -/
abbrev m_goCmd : fwM := (⟨"MonitorBoard$Monitor", "goToCommand", "()V"⟩, prog_8_method_5_code, 1, (none : Option FieldType))
theorem m_goCmd_in : Cond.code m_goCmd.1 m_goCmd.2.1 m_goCmd.2.2.1 m_goCmd.2.2.2 ∈ fwT := fwT_mem (List.mem_of_getElem? (i := 866) (by decide +kernel)) rfl
def k_goCmd_0 : List fwO := [(.aload_n 0, 0, 0, .null), (.getfield 15, 7, 0, .retAddr 77), (.ldc 88, 6, 0, .int 60419), (.putfield 105, 8, 5, .retAddr 31), (.aload_n 0, 0, 0, .null), (.iconst 1, 0, 0, .int 1), (.putfield 108, 7, 8, .retAddr 90), (.aload_n 0, 0, 0, .null), (.getfield 19, 7, 1, .retAddr 79), (.ldc 111, 3, 0, .retAddr 3)]
theorem k_goCmd_0_ok : fwChain m_goCmd.1.cls m_goCmd.2.1 0 k_goCmd_0 20 = true := by decide +kernel
theorem d_goCmd_20 : decode m_goCmd.2.1 20 = .ok (.invokevirtual 77, 3) := by decide +kernel
def k_goCmd_23 : List fwO := [(.aload_n 0, 0, 0, .null), (.getfield 19, 7, 1, .retAddr 79), (.bipush 65, 0, 0, .int 65), (.aload_n 0, 0, 0, .null), (.getfield 23, 7, 2, .retAddr 81), (.getfield 55, 4, 11, .retAddr 65), (.iadd, 0, 0, .null)]
theorem k_goCmd_23_ok : fwChain m_goCmd.1.cls m_goCmd.2.1 23 k_goCmd_23 37 = true := by decide +kernel
theorem d_goCmd_37 : decode m_goCmd.2.1 37 = .ok (.invokevirtual 113, 3) := by decide +kernel
def k_goCmd_40 : List fwO := [(.aload_n 0, 0, 0, .null), (.getfield 23, 7, 2, .retAddr 81), (.getfield 58, 4, 12, .retAddr 69)]
theorem k_goCmd_40_ok : fwChain m_goCmd.1.cls m_goCmd.2.1 40 k_goCmd_40 47 = true := by decide +kernel
theorem d_goCmd_47 : decode m_goCmd.2.1 47 = .ok (.ifCond .eq 17, 3) := by decide +kernel
def k_goCmd_50 : List fwO := [(.aload_n 0, 0, 0, .null), (.getfield 19, 7, 1, .retAddr 79), (.aload_n 0, 0, 0, .null), (.getfield 23, 7, 2, .retAddr 81), (.getfield 58, 4, 12, .retAddr 69)]
theorem k_goCmd_50_ok : fwChain m_goCmd.1.cls m_goCmd.2.1 50 k_goCmd_50 61 = true := by decide +kernel
theorem d_goCmd_61 : decode m_goCmd.2.1 61 = .ok (.invokevirtual 116, 3) := by decide +kernel
def k_goCmd_64 : List fwO := [(.aload_n 0, 0, 0, .null), (.getfield 19, 7, 1, .retAddr 79), (.bipush 62, 0, 0, .int 62)]
theorem k_goCmd_64_ok : fwChain m_goCmd.1.cls m_goCmd.2.1 64 k_goCmd_64 70 = true := by decide +kernel
theorem d_goCmd_70 : decode m_goCmd.2.1 70 = .ok (.invokevirtual 113, 3) := by decide +kernel
def k_goCmd_73 : List fwO := [(.aload_n 0, 0, 0, .null), (.getfield 19, 7, 1, .retAddr 79), (.bipush 127, 0, 0, .int 127)]
theorem k_goCmd_73_ok : fwChain m_goCmd.1.cls m_goCmd.2.1 73 k_goCmd_73 79 = true := by decide +kernel
theorem d_goCmd_79 : decode m_goCmd.2.1 79 = .ok (.invokevirtual 119, 3) := by decide +kernel
theorem d_goCmd_82 : decode m_goCmd.2.1 82 = .ok (.return_, 1) := by decide +kernel
/-- MonitorBoard$Monitor.bootWarm()V -/
abbrev m_warm : fwM := (⟨"MonitorBoard$Monitor", "bootWarm", "()V"⟩, prog_8_method_4_code, 1, (none : Option FieldType))
theorem m_warm_in : Cond.code m_warm.1 m_warm.2.1 m_warm.2.2.1 m_warm.2.2.2 ∈ fwT := fwT_mem (List.mem_of_getElem? (i := 835) (by decide +kernel)) rfl
def k_warm_0 : List fwO := [(.aload_n 0, 0, 0, .null), (.getfield 15, 7, 0, .retAddr 77), (.iconst 0, 0, 0, .int 0), (.sipush 195, 0, 0, .int 195)]
theorem k_warm_0_ok : fwChain m_warm.1.cls m_warm.2.1 0 k_warm_0 8 = true := by decide +kernel
theorem d_warm_8 : decode m_warm.2.1 8 = .ok (.invokevirtual 84, 3) := by decide +kernel
def k_warm_11 : List fwO := [(.aload_n 0, 0, 0, .null), (.getfield 15, 7, 0, .retAddr 77), (.iconst 1, 0, 0, .int 1), (.ldc 88, 6, 0, .int 60419)]
theorem k_warm_11_ok : fwChain m_warm.1.cls m_warm.2.1 11 k_warm_11 18 = true := by decide +kernel
theorem d_warm_18 : decode m_warm.2.1 18 = .ok (.invokevirtual 89, 3) := by decide +kernel
def k_warm_21 : List fwO := [(.aload_n 0, 0, 0, .null), (.getfield 15, 7, 0, .retAddr 77), (.iconst 5, 0, 0, .int 5), (.sipush 195, 0, 0, .int 195)]
theorem k_warm_21_ok : fwChain m_warm.1.cls m_warm.2.1 21 k_warm_21 29 = true := by decide +kernel
theorem d_warm_29 : decode m_warm.2.1 29 = .ok (.invokevirtual 84, 3) := by decide +kernel
def k_warm_32 : List fwO := [(.aload_n 0, 0, 0, .null), (.getfield 15, 7, 0, .retAddr 77), (.bipush 6, 0, 0, .int 6), (.ldc 28, 7, 0, .int 60934)]
theorem k_warm_32_ok : fwChain m_warm.1.cls m_warm.2.1 32 k_warm_32 40 = true := by decide +kernel
theorem d_warm_40 : decode m_warm.2.1 40 = .ok (.invokevirtual 89, 3) := by decide +kernel
def k_warm_43 : List fwO := [(.aload_n 0, 0, 0, .null), (.getfield 23, 7, 2, .retAddr 81)]
theorem k_warm_43_ok : fwChain m_warm.1.cls m_warm.2.1 43 k_warm_43 47 = true := by decide +kernel
theorem d_warm_47 : decode m_warm.2.1 47 = .ok (.invokevirtual 92, 3) := by decide +kernel
def k_warm_50 : List fwO := [(.aload_n 0, 0, 0, .null), (.getfield 23, 7, 2, .retAddr 81), (.aload_n 0, 0, 0, .null), (.getfield 23, 7, 2, .retAddr 81), (.getfield 55, 4, 11, .retAddr 65)]
theorem k_warm_50_ok : fwChain m_warm.1.cls m_warm.2.1 50 k_warm_50 61 = true := by decide +kernel
theorem d_warm_61 : decode m_warm.2.1 61 = .ok (.invokevirtual 95, 3) := by decide +kernel
def k_warm_64 : List fwO := [(.aload_n 0, 0, 0, .null), (.sipush 128, 0, 0, .int 128), (.putfield 99, 7, 4, .retAddr 84), (.aload_n 0, 0, 0, .null)]
theorem k_warm_64_ok : fwChain m_warm.1.cls m_warm.2.1 64 k_warm_64 72 = true := by decide +kernel
theorem d_warm_72 : decode m_warm.2.1 72 = .ok (.invokevirtual 102, 3) := by decide +kernel
theorem d_warm_75 : decode m_warm.2.1 75 = .ok (.return_, 1) := by decide +kernel
/-- MonitorBoard$Monitor.bootCold()V -/
abbrev m_cold : fwM := (⟨"MonitorBoard$Monitor", "bootCold", "()V"⟩, prog_8_method_3_code, 1, (none : Option FieldType))
theorem m_cold_in : Cond.code m_cold.1 m_cold.2.1 m_cold.2.2.1 m_cold.2.2.2 ∈ fwT := fwT_mem (List.mem_of_getElem? (i := 812) (by decide +kernel)) rfl
def k_cold_0 : List fwO := [(.aload_n 0, 0, 0, .null), (.getfield 15, 7, 0, .retAddr 77), (.getfield 30, 8, 0, .retAddr 20), (.iconst 0, 0, 0, .int 0)]
theorem k_cold_0_ok : fwChain m_cold.1.cls m_cold.2.1 0 k_cold_0 8 = true := by decide +kernel
theorem d_cold_8 : decode m_cold.2.1 8 = .ok (.invokestatic 36, 3) := by decide +kernel
def k_cold_11 : List fwO := [(.aload_n 0, 0, 0, .null), (.getfield 15, 7, 0, .retAddr 77)]
theorem k_cold_11_ok : fwChain m_cold.1.cls m_cold.2.1 11 k_cold_11 15 = true := by decide +kernel
theorem d_cold_15 : decode m_cold.2.1 15 = .ok (.invokevirtual 42, 3) := by decide +kernel
def k_cold_18 : List fwO := [(.aload_n 0, 0, 0, .null), (.getfield 15, 7, 0, .retAddr 77), (.iconst 0, 0, 0, .int 0), (.putfield 45, 8, 7, .retAddr 39), (.aload_n 0, 0, 0, .null), (.getfield 23, 7, 2, .retAddr 81), (.iconst 0, 0, 0, .int 0), (.putfield 49, 4, 10, .retAddr 63), (.aload_n 0, 0, 0, .null), (.getfield 23, 7, 2, .retAddr 81), (.iconst 0, 0, 0, .int 0), (.putfield 55, 4, 11, .retAddr 65), (.aload_n 0, 0, 0, .null), (.getfield 23, 7, 2, .retAddr 81), (.iconst 0, 0, 0, .int 0), (.putfield 58, 4, 12, .retAddr 69), (.aload_n 0, 0, 0, .null), (.iconst 0, 0, 0, .int 0), (.putfield 61, 7, 5, .retAddr 87), (.aload_n 0, 0, 0, .null), (.iconst 0, 0, 0, .int 0), (.putfield 64, 7, 6, .retAddr 88), (.aload_n 0, 0, 0, .null), (.iconst 1, 0, 0, .int 1), (.putfield 67, 7, 7, .retAddr 89), (.aload_n 0, 0, 0, .null), (.getfield 19, 7, 1, .retAddr 79), (.iconst 0, 0, 0, .int 0), (.putfield 70, 3, 6, .retAddr 8), (.aload_n 0, 0, 0, .null), (.getfield 19, 7, 1, .retAddr 79), (.ldc 75, 2, 0, .retAddr 2)]
theorem k_cold_18_ok : fwChain m_cold.1.cls m_cold.2.1 18 k_cold_18 79 = true := by decide +kernel
theorem d_cold_79 : decode m_cold.2.1 79 = .ok (.invokevirtual 77, 3) := by decide +kernel
def k_cold_82 : List fwO := [(.aload_n 0, 0, 0, .null)]
theorem k_cold_82_ok : fwChain m_cold.1.cls m_cold.2.1 82 k_cold_82 83 = true := by decide +kernel
theorem d_cold_83 : decode m_cold.2.1 83 = .ok (.invokevirtual 81, 3) := by decide +kernel
theorem d_cold_86 : decode m_cold.2.1 86 = .ok (.return_, 1) := by decide +kernel
theorem c_tellLine_3 : ∀ w ∈ ([(Cond.methodLink "MonitorBoard$Console" (39 : Nat) ({ cls := "MonitorBoard$Console", name := "tell", desc := "(I)V" } : MethodName)), (Cond.instanceMethod ({ cls := "MonitorBoard$Console", name := "tell", desc := "(I)V" } : MethodName)), (Cond.selects "MonitorBoard$Console" ({ cls := "MonitorBoard$Console", name := "tell", desc := "(I)V" } : MethodName) ({ cls := "MonitorBoard$Console", name := "tell", desc := "(I)V" } : MethodName)), (Cond.initialized "MonitorBoard$Console")] : List Cond), w ∈ fwT := fwT_all [826, 827, 828, 280] (by decide +kernel) (by decide +kernel)
theorem c_tellLine_9 : ∀ w ∈ ([(Cond.methodLink "MonitorBoard$Console" (39 : Nat) ({ cls := "MonitorBoard$Console", name := "tell", desc := "(I)V" } : MethodName)), (Cond.instanceMethod ({ cls := "MonitorBoard$Console", name := "tell", desc := "(I)V" } : MethodName)), (Cond.selects "MonitorBoard$Console" ({ cls := "MonitorBoard$Console", name := "tell", desc := "(I)V" } : MethodName) ({ cls := "MonitorBoard$Console", name := "tell", desc := "(I)V" } : MethodName)), (Cond.initialized "MonitorBoard$Console")] : List Cond), w ∈ fwT := c_tellLine_3
theorem c_tellLine_16 : ∀ w ∈ ([(Cond.methodLink "MonitorBoard$Console" (29 : Nat) ({ cls := "java/lang/String", name := "length", desc := "()I" } : MethodName)), (Cond.instanceMethod ({ cls := "java/lang/String", name := "length", desc := "()I" } : MethodName)), (Cond.selects "java/lang/String" ({ cls := "java/lang/String", name := "length", desc := "()I" } : MethodName) ({ cls := "java/lang/String", name := "length", desc := "()I" } : MethodName)), (Cond.initialized "java/lang/String")] : List Cond), w ∈ fwT := fwT_all [830, 576, 577, 287] (by decide +kernel) (by decide +kernel)
theorem c_tellLine_25 : ∀ w ∈ ([(Cond.methodLink "MonitorBoard$Console" (35 : Nat) ({ cls := "java/lang/String", name := "charAt", desc := "(I)C" } : MethodName)), (Cond.instanceMethod ({ cls := "java/lang/String", name := "charAt", desc := "(I)C" } : MethodName)), (Cond.selects "java/lang/String" ({ cls := "java/lang/String", name := "charAt", desc := "(I)C" } : MethodName) ({ cls := "java/lang/String", name := "charAt", desc := "(I)C" } : MethodName)), (Cond.initialized "java/lang/String")] : List Cond), w ∈ fwT := fwT_all [831, 586, 587, 287] (by decide +kernel) (by decide +kernel)
theorem c_tellLine_28 : ∀ w ∈ ([(Cond.methodLink "MonitorBoard$Console" (39 : Nat) ({ cls := "MonitorBoard$Console", name := "tell", desc := "(I)V" } : MethodName)), (Cond.instanceMethod ({ cls := "MonitorBoard$Console", name := "tell", desc := "(I)V" } : MethodName)), (Cond.selects "MonitorBoard$Console" ({ cls := "MonitorBoard$Console", name := "tell", desc := "(I)V" } : MethodName) ({ cls := "MonitorBoard$Console", name := "tell", desc := "(I)V" } : MethodName)), (Cond.initialized "MonitorBoard$Console")] : List Cond), w ∈ fwT := c_tellLine_3
theorem c_openLine_7 : ∀ w ∈ ([(Cond.methodLink "MonitorBoard$Console" (45 : Nat) ({ cls := "java/lang/Math", name := "min", desc := "(II)I" } : MethodName)), (Cond.static ({ cls := "java/lang/Math", name := "min", desc := "(II)I" } : MethodName)), (Cond.initialized "java/lang/Math")] : List Cond), w ∈ fwT := fwT_all [877, 878, 294] (by decide +kernel) (by decide +kernel)
theorem c_clearRegs_5 : ∀ w ∈ ([(Cond.methodLink "MonitorBoard$Processor" (28 : Nat) ({ cls := "java/util/Arrays", name := "fill", desc := "([II)V" } : MethodName)), (Cond.static ({ cls := "java/util/Arrays", name := "fill", desc := "([II)V" } : MethodName)), (Cond.initialized "java/util/Arrays")] : List Cond), w ∈ fwT := fwT_all [818, 819, 283] (by decide +kernel) (by decide +kernel)
theorem c_login_72 : ∀ w ∈ ([(Cond.methodLink "MonitorBoard$Files" (56 : Nat) ({ cls := "MonitorBoard$Files", name := "entryPlace", desc := "(II)I" } : MethodName)), (Cond.instanceMethod ({ cls := "MonitorBoard$Files", name := "entryPlace", desc := "(II)I" } : MethodName)), (Cond.selects "MonitorBoard$Files" ({ cls := "MonitorBoard$Files", name := "entryPlace", desc := "(II)I" } : MethodName) ({ cls := "MonitorBoard$Files", name := "entryPlace", desc := "(II)I" } : MethodName)), (Cond.initialized "MonitorBoard$Files")] : List Cond), w ∈ fwT := fwT_all [855, 856, 857, 282] (by decide +kernel) (by decide +kernel)
theorem c_login_96 : ∀ w ∈ ([(Cond.methodLink "MonitorBoard$Files" (60 : Nat) ({ cls := "MonitorBoard$Files", name := "setUse", desc := "(IIZ)V" } : MethodName)), (Cond.instanceMethod ({ cls := "MonitorBoard$Files", name := "setUse", desc := "(IIZ)V" } : MethodName)), (Cond.selects "MonitorBoard$Files" ({ cls := "MonitorBoard$Files", name := "setUse", desc := "(IIZ)V" } : MethodName) ({ cls := "MonitorBoard$Files", name := "setUse", desc := "(IIZ)V" } : MethodName)), (Cond.initialized "MonitorBoard$Files")] : List Cond), w ∈ fwT := fwT_all [859, 861, 0, 282] (by decide +kernel) (by decide +kernel)
theorem c_goCmd_20 : ∀ w ∈ ([(Cond.methodLink "MonitorBoard$Monitor" (77 : Nat) ({ cls := "MonitorBoard$Console", name := "tellLine", desc := "(Ljava/lang/String;)V" } : MethodName)), (Cond.instanceMethod ({ cls := "MonitorBoard$Console", name := "tellLine", desc := "(Ljava/lang/String;)V" } : MethodName)), (Cond.selects "MonitorBoard$Console" ({ cls := "MonitorBoard$Console", name := "tellLine", desc := "(Ljava/lang/String;)V" } : MethodName) ({ cls := "MonitorBoard$Console", name := "tellLine", desc := "(Ljava/lang/String;)V" } : MethodName)), (Cond.initialized "MonitorBoard$Console")] : List Cond), w ∈ fwT := fwT_all [822, 823, 824, 280] (by decide +kernel) (by decide +kernel)
theorem c_goCmd_37 : ∀ w ∈ ([(Cond.methodLink "MonitorBoard$Monitor" (113 : Nat) ({ cls := "MonitorBoard$Console", name := "tell", desc := "(I)V" } : MethodName)), (Cond.instanceMethod ({ cls := "MonitorBoard$Console", name := "tell", desc := "(I)V" } : MethodName)), (Cond.selects "MonitorBoard$Console" ({ cls := "MonitorBoard$Console", name := "tell", desc := "(I)V" } : MethodName) ({ cls := "MonitorBoard$Console", name := "tell", desc := "(I)V" } : MethodName)), (Cond.initialized "MonitorBoard$Console")] : List Cond), w ∈ fwT := fwT_all [868, 827, 828, 280] (by decide +kernel) (by decide +kernel)
theorem c_goCmd_61 : ∀ w ∈ ([(Cond.methodLink "MonitorBoard$Monitor" (116 : Nat) ({ cls := "MonitorBoard$Console", name := "tellNumber", desc := "(I)V" } : MethodName)), (Cond.instanceMethod ({ cls := "MonitorBoard$Console", name := "tellNumber", desc := "(I)V" } : MethodName)), (Cond.selects "MonitorBoard$Console" ({ cls := "MonitorBoard$Console", name := "tellNumber", desc := "(I)V" } : MethodName) ({ cls := "MonitorBoard$Console", name := "tellNumber", desc := "(I)V" } : MethodName)), (Cond.initialized "MonitorBoard$Console")] : List Cond), w ∈ fwT := fwT_all [869, 870, 871, 280] (by decide +kernel) (by decide +kernel)
theorem c_goCmd_70 : ∀ w ∈ ([(Cond.methodLink "MonitorBoard$Monitor" (113 : Nat) ({ cls := "MonitorBoard$Console", name := "tell", desc := "(I)V" } : MethodName)), (Cond.instanceMethod ({ cls := "MonitorBoard$Console", name := "tell", desc := "(I)V" } : MethodName)), (Cond.selects "MonitorBoard$Console" ({ cls := "MonitorBoard$Console", name := "tell", desc := "(I)V" } : MethodName) ({ cls := "MonitorBoard$Console", name := "tell", desc := "(I)V" } : MethodName)), (Cond.initialized "MonitorBoard$Console")] : List Cond), w ∈ fwT := c_goCmd_37
theorem c_goCmd_79 : ∀ w ∈ ([(Cond.methodLink "MonitorBoard$Monitor" (119 : Nat) ({ cls := "MonitorBoard$Console", name := "openLine", desc := "(I)V" } : MethodName)), (Cond.instanceMethod ({ cls := "MonitorBoard$Console", name := "openLine", desc := "(I)V" } : MethodName)), (Cond.selects "MonitorBoard$Console" ({ cls := "MonitorBoard$Console", name := "openLine", desc := "(I)V" } : MethodName) ({ cls := "MonitorBoard$Console", name := "openLine", desc := "(I)V" } : MethodName)), (Cond.initialized "MonitorBoard$Console")] : List Cond), w ∈ fwT := fwT_all [873, 874, 875, 280] (by decide +kernel) (by decide +kernel)
theorem c_warm_8 : ∀ w ∈ ([(Cond.methodLink "MonitorBoard$Monitor" (84 : Nat) ({ cls := "MonitorBoard$Processor", name := "poke", desc := "(II)V" } : MethodName)), (Cond.instanceMethod ({ cls := "MonitorBoard$Processor", name := "poke", desc := "(II)V" } : MethodName)), (Cond.selects "MonitorBoard$Processor" ({ cls := "MonitorBoard$Processor", name := "poke", desc := "(II)V" } : MethodName) ({ cls := "MonitorBoard$Processor", name := "poke", desc := "(II)V" } : MethodName)), (Cond.initialized "MonitorBoard$Processor")] : List Cond), w ∈ fwT := fwT_all [836, 837, 838, 281] (by decide +kernel) (by decide +kernel)
theorem c_warm_18 : ∀ w ∈ ([(Cond.methodLink "MonitorBoard$Monitor" (89 : Nat) ({ cls := "MonitorBoard$Processor", name := "pokeWord", desc := "(II)V" } : MethodName)), (Cond.instanceMethod ({ cls := "MonitorBoard$Processor", name := "pokeWord", desc := "(II)V" } : MethodName)), (Cond.selects "MonitorBoard$Processor" ({ cls := "MonitorBoard$Processor", name := "pokeWord", desc := "(II)V" } : MethodName) ({ cls := "MonitorBoard$Processor", name := "pokeWord", desc := "(II)V" } : MethodName)), (Cond.initialized "MonitorBoard$Processor")] : List Cond), w ∈ fwT := fwT_all [842, 843, 844, 281] (by decide +kernel) (by decide +kernel)
theorem c_warm_29 : ∀ w ∈ ([(Cond.methodLink "MonitorBoard$Monitor" (84 : Nat) ({ cls := "MonitorBoard$Processor", name := "poke", desc := "(II)V" } : MethodName)), (Cond.instanceMethod ({ cls := "MonitorBoard$Processor", name := "poke", desc := "(II)V" } : MethodName)), (Cond.selects "MonitorBoard$Processor" ({ cls := "MonitorBoard$Processor", name := "poke", desc := "(II)V" } : MethodName) ({ cls := "MonitorBoard$Processor", name := "poke", desc := "(II)V" } : MethodName)), (Cond.initialized "MonitorBoard$Processor")] : List Cond), w ∈ fwT := c_warm_8
theorem c_warm_40 : ∀ w ∈ ([(Cond.methodLink "MonitorBoard$Monitor" (89 : Nat) ({ cls := "MonitorBoard$Processor", name := "pokeWord", desc := "(II)V" } : MethodName)), (Cond.instanceMethod ({ cls := "MonitorBoard$Processor", name := "pokeWord", desc := "(II)V" } : MethodName)), (Cond.selects "MonitorBoard$Processor" ({ cls := "MonitorBoard$Processor", name := "pokeWord", desc := "(II)V" } : MethodName) ({ cls := "MonitorBoard$Processor", name := "pokeWord", desc := "(II)V" } : MethodName)), (Cond.initialized "MonitorBoard$Processor")] : List Cond), w ∈ fwT := c_warm_18
theorem c_warm_47 : ∀ w ∈ ([(Cond.methodLink "MonitorBoard$Monitor" (92 : Nat) ({ cls := "MonitorBoard$Files", name := "forgetDrives", desc := "()V" } : MethodName)), (Cond.instanceMethod ({ cls := "MonitorBoard$Files", name := "forgetDrives", desc := "()V" } : MethodName)), (Cond.selects "MonitorBoard$Files" ({ cls := "MonitorBoard$Files", name := "forgetDrives", desc := "()V" } : MethodName) ({ cls := "MonitorBoard$Files", name := "forgetDrives", desc := "()V" } : MethodName)), (Cond.initialized "MonitorBoard$Files")] : List Cond), w ∈ fwT := fwT_all [847, 848, 849, 282] (by decide +kernel) (by decide +kernel)
theorem c_warm_61 : ∀ w ∈ ([(Cond.methodLink "MonitorBoard$Monitor" (95 : Nat) ({ cls := "MonitorBoard$Files", name := "login", desc := "(I)V" } : MethodName)), (Cond.instanceMethod ({ cls := "MonitorBoard$Files", name := "login", desc := "(I)V" } : MethodName)), (Cond.selects "MonitorBoard$Files" ({ cls := "MonitorBoard$Files", name := "login", desc := "(I)V" } : MethodName) ({ cls := "MonitorBoard$Files", name := "login", desc := "(I)V" } : MethodName)), (Cond.initialized "MonitorBoard$Files")] : List Cond), w ∈ fwT := fwT_all [851, 852, 853, 282] (by decide +kernel) (by decide +kernel)
theorem c_warm_72 : ∀ w ∈ ([(Cond.methodLink "MonitorBoard$Monitor" (102 : Nat) ({ cls := "MonitorBoard$Monitor", name := "goToCommand", desc := "()V" } : MethodName)), (Cond.instanceMethod ({ cls := "MonitorBoard$Monitor", name := "goToCommand", desc := "()V" } : MethodName)), (Cond.selects "MonitorBoard$Monitor" ({ cls := "MonitorBoard$Monitor", name := "goToCommand", desc := "()V" } : MethodName) ({ cls := "MonitorBoard$Monitor", name := "goToCommand", desc := "()V" } : MethodName)), (Cond.initialized "MonitorBoard$Monitor")] : List Cond), w ∈ fwT := fwT_all [863, 864, 865, 284] (by decide +kernel) (by decide +kernel)
theorem c_cold_8 : ∀ w ∈ ([(Cond.methodLink "MonitorBoard$Monitor" (36 : Nat) ({ cls := "java/util/Arrays", name := "fill", desc := "([BB)V" } : MethodName)), (Cond.static ({ cls := "java/util/Arrays", name := "fill", desc := "([BB)V" } : MethodName)), (Cond.initialized "java/util/Arrays")] : List Cond), w ∈ fwT := fwT_all [813, 412, 283] (by decide +kernel) (by decide +kernel)
theorem c_cold_15 : ∀ w ∈ ([(Cond.methodLink "MonitorBoard$Monitor" (42 : Nat) ({ cls := "MonitorBoard$Processor", name := "clearRegisters", desc := "()V" } : MethodName)), (Cond.instanceMethod ({ cls := "MonitorBoard$Processor", name := "clearRegisters", desc := "()V" } : MethodName)), (Cond.selects "MonitorBoard$Processor" ({ cls := "MonitorBoard$Processor", name := "clearRegisters", desc := "()V" } : MethodName) ({ cls := "MonitorBoard$Processor", name := "clearRegisters", desc := "()V" } : MethodName)), (Cond.initialized "MonitorBoard$Processor")] : List Cond), w ∈ fwT := fwT_all [814, 815, 816, 281] (by decide +kernel) (by decide +kernel)
theorem c_cold_79 : ∀ w ∈ ([(Cond.methodLink "MonitorBoard$Monitor" (77 : Nat) ({ cls := "MonitorBoard$Console", name := "tellLine", desc := "(Ljava/lang/String;)V" } : MethodName)), (Cond.instanceMethod ({ cls := "MonitorBoard$Console", name := "tellLine", desc := "(Ljava/lang/String;)V" } : MethodName)), (Cond.selects "MonitorBoard$Console" ({ cls := "MonitorBoard$Console", name := "tellLine", desc := "(Ljava/lang/String;)V" } : MethodName) ({ cls := "MonitorBoard$Console", name := "tellLine", desc := "(Ljava/lang/String;)V" } : MethodName)), (Cond.initialized "MonitorBoard$Console")] : List Cond), w ∈ fwT := c_goCmd_20
theorem c_cold_83 : ∀ w ∈ ([(Cond.methodLink "MonitorBoard$Monitor" (81 : Nat) ({ cls := "MonitorBoard$Monitor", name := "bootWarm", desc := "()V" } : MethodName)), (Cond.instanceMethod ({ cls := "MonitorBoard$Monitor", name := "bootWarm", desc := "()V" } : MethodName)), (Cond.selects "MonitorBoard$Monitor" ({ cls := "MonitorBoard$Monitor", name := "bootWarm", desc := "()V" } : MethodName) ({ cls := "MonitorBoard$Monitor", name := "bootWarm", desc := "()V" } : MethodName)), (Cond.initialized "MonitorBoard$Monitor")] : List Cond), w ∈ fwT := fwT_all [832, 833, 834, 284] (by decide +kernel) (by decide +kernel)
end
section
/-! the class's console -/
/-- cells other than those of S are as they were -/
def fwSame (S : List Nat) (σ σ' : fwS) : Prop := ∀ a, a ∉ S → (σ'.1 a = σ.1 a ∧ σ'.2 a = σ.2 a)
theorem fwSame.rf {S : List Nat} {σ : fwS} : fwSame S σ σ := fun _ _ => ⟨rfl, rfl⟩
theorem fwSame.tr {S : List Nat} {σ σ1 σ2 : fwS} (h1 : fwSame S σ σ1) (h2 : fwSame S σ1 σ2) : fwSame S σ σ2 := fun a ha => ⟨(h2 a ha).1.trans (h1 a ha).1, (h2 a ha).2.trans (h1 a ha).2⟩
theorem fwSame.up {S T : List Nat} {σ σ' : fwS} (h : fwSame S σ σ') (hs : ∀ a ∈ S, a ∈ T) : fwSame T σ σ' := fun a ha => h a (fun q => ha (hs a q))
theorem fwSame_I {S : List Nat} {σ : fwS} {i k : Nat} {v : Int32} (h : i ∈ S) : fwSame S σ (fwI σ i k v) := fun a ha => ⟨funext fun b => fwI_ne (fun q => ha (q ▸ h)), rfl⟩
theorem fwSame_L {S : List Nat} {σ : fwS} {i k : Nat} {v : Int64} (h : i ∈ S) : fwSame S σ (fwL σ i k v) := fun a ha => ⟨rfl, funext fun b => fwL_ne (fun q => ha (q ▸ h))⟩
theorem fwSame_A {S : List Nat} {σ : fwS} {i : Nat} {f : Nat → Int32} (h : i ∈ S) : fwSame S σ (fwA σ i f) := fun a ha => ⟨funext fun b => if_neg (fun q : a = i => ha (by rw [q]; exact h)), rfl⟩
def sCon : fwE := .inr (3, [.ref 5, .ref 6, .ref 7, .int 0, .int 0, .int 0, .int 0, .int 0, .int 0, .int 0])
abbrev shCon (e0 e1 e2 e3 : fwE) (re : List fwE) : List fwE := e0 :: e1 :: e2 :: e3 :: sCon :: .inl (.byte, 8000) :: .inl (.byte, 2000) :: .inl (.int, 256) :: re
/-- t signs have been told, none are gone; of the console nothing else is changed -/
def Tl (σ σ' : fwS) (t : Nat) : Prop := fwSame [4, 5] σ σ' ∧ σ'.1 4 3 = 0 ∧ σ'.1 4 4 = nI t ∧ (∀ b, b ≠ 3 → b ≠ 4 → σ'.1 4 b = σ.1 4 b) ∧ σ'.2 4 = σ.2 4 ∧ σ'.2 5 = σ.2 5
theorem Tl.tr {σ σ1 σ2 : fwS} {t t2 : Nat} (h1 : Tl σ σ1 t) (h2 : Tl σ1 σ2 t2) : Tl σ σ2 t2 :=
  ⟨h1.1.tr h2.1, h2.2.1, h2.2.2.1, fun b hb hc => (h2.2.2.2.1 b hb hc).trans (h1.2.2.2.1 b hb hc), h2.2.2.2.2.1.trans h1.2.2.2.2.1, h2.2.2.2.2.2.trans h1.2.2.2.2.2⟩
section CON
variable {l : Launch} {Z : fwZ} {e0 e1 e2 e3 : fwE} {re : List fwE} {σ : fwS}
theorem ct_tell {x : Int32} {t : Nat} (h3 : σ.1 4 3 = 0) (h4 : σ.1 4 4 = nI t) (ht : t < 8000) : fwC l Z m_tell 1 0 0 [.ref 4, .int x] (shCon e0 e1 e2 e3 re) σ (fun v sh' σ' => v = none ∧ sh' = shCon e0 e1 e2 e3 re ∧ Tl σ σ' (t + 1)) := by
  refine fwC_of (ls := [some (.ref 4), some (.int x)]) (by decide +kernel) rfl (by rw [fw_sl1]; exact Nat.le_refl 2) ?_
  have e1 : σ.1 4 3 + σ.1 4 4 - (σ.1 4 3 + σ.1 4 4) / 8000 * 8000 = nI t := by
    rw [h3, h4]
    have : (0 : Int32) + nI t = nI t := by rw [← nI_0, nI_add, Nat.zero_add]
    rw [this]
    show nI t - nI t / nI 8000 * nI 8000 = nI t
    rw [pk_rem (by omega) (by decide) (by decide), Nat.mod_eq_of_lt ht]
  refine fwRun_ok k_tell_0_ok rfl ⟨by decide, ?_⟩ ?_
  · show vp_in (σ.1 4 3 + σ.1 4 4 - (σ.1 4 3 + σ.1 4 4) / 8000 * 8000) 8000
    rw [e1]
    exact vp_in_nI ht (by decide)
  · refine fwg_cmp 43 d_tell_27 (by decide) (fun h => ?_) (fun h => ?_)
    · have h' : (8000 : Int32) ≤ σ.1 4 4 := h
      rw [h4] at h'
      exact absurd h' (nI_ge (a := t) (b := 8000) ht (by decide))
    · refine fwRun_ok k_tell_30_ok rfl trivial ?_
      refine fwg_goto 57 d_tell_40 (by decide) ?_
      refine fwg_vret rfl (Nat.le_refl _) (Nat.le_refl _) ⟨rfl, rfl, ?_⟩ d_tell_57
      refine ⟨(fwSame_I (by decide)).tr (fwSame_I (by decide)), h3, ?_, fun b hb hc => ?_, rfl, rfl⟩
      · show (fwI _ 4 4 _).1 4 4 = _
        rw [fwI_eq]
        show σ.1 4 4 + 1 = _
        rw [h4, nI_1]
      · show (fwI _ 4 4 _).1 4 b = _
        rw [fwI_ne2 hc, fwI_ne (by decide)]
/-- 'tell' of a text's signs from place j on -/
theorem tellLine_loop {c t : Nat} (hc : c < fwNs) (hL : fwSl.getD c 0 < 2 ^ 31) {Post : fwPost} : ∀ (q j : Nat) (t : Nat) (σ : fwS), j + q = fwSl.getD c 0 → σ.1 4 3 = 0 → σ.1 4 4 = nI t → t + q ≤ 8000 → (∀ σ', Tl σ σ' (t + q) → Post none (shCon e0 e1 e2 e3 re) σ') → fwG l Z m_tellLine 5 0 0 Post 0 0 14 [some (.ref 4), some (.retAddr c), some (.int (nI j))] [] (shCon e0 e1 e2 e3 re) σ := by
  intro q
  induction q with
  | zero =>
    intro j t σ hj h3 h4 ht hp
    refine fwRun_ok k_tellLine_14_ok rfl trivial ?_
    refine fwg_callK (n := 0) (as := []) (r := [.int (nI j)]) (ct_slen hc) ⟨by decide, by decide, by decide +kernel⟩ rfl m_slen_in c_tellLine_16 hc rfl rfl (Nat.le_of_ble_eq_true rfl) d_tellLine_16 ⟨Nat.le_of_ble_eq_true rfl, Nat.le_of_ble_eq_true rfl⟩ ⟨Nat.le_refl _, Nat.le_refl _⟩ (fun v sh' σ' hq => ?_)
    obtain ⟨rfl, rfl, rfl⟩ := hq
    refine fwg_cmp 37 d_tellLine_19 (by decide) (fun h => ?_) (fun h => absurd (nI_le (by omega) (by omega)) h)
    exact fwg_vret rfl (Nat.le_refl _) (Nat.le_refl _) (hp σ' ⟨fwSame.rf, h3, h4, fun _ _ _ => rfl, rfl, rfl⟩) d_tellLine_37
  | succ q ih =>
    intro j t σ hj h3 h4 ht hp
    refine fwRun_ok k_tellLine_14_ok rfl trivial ?_
    refine fwg_callK (n := 0) (as := []) (r := [.int (nI j)]) (ct_slen hc) ⟨by decide, by decide, by decide +kernel⟩ rfl m_slen_in c_tellLine_16 hc rfl rfl (Nat.le_of_ble_eq_true rfl) d_tellLine_16 ⟨Nat.le_of_ble_eq_true rfl, Nat.le_of_ble_eq_true rfl⟩ ⟨Nat.le_refl _, Nat.le_refl _⟩ (fun v sh' σ' hq => ?_)
    obtain ⟨rfl, rfl, rfl⟩ := hq
    refine fwg_cmp 37 d_tellLine_19 (by decide) (fun h => absurd (show nI (fwSl.getD c 0) ≤ nI j from h) (nI_ge (by omega) hL)) (fun h => ?_)
    refine fwRun_ok k_tellLine_22_ok rfl trivial ?_
    refine fwg_callK (n := 1) (as := [.int (nI j)]) (r := [.ref 4]) (ct_schar (j := j) hc (by omega)) ⟨by decide, by decide, by decide +kernel⟩ rfl m_schar_in c_tellLine_25 hc rfl rfl (Nat.le_of_ble_eq_true rfl) d_tellLine_25 ⟨Nat.le_of_ble_eq_true rfl, Nat.le_of_ble_eq_true rfl⟩ ⟨Nat.le_refl _, Nat.le_refl _⟩ (fun v sh' σ'' hq => ?_)
    obtain ⟨rfl, rfl, rfl⟩ := hq
    refine fwg_callV (n := 1) (i := 4) (as := [.int (fwCh c j)]) (r := []) (ct_tell h3 h4 (by omega)) ⟨by decide, by decide, by decide +kernel⟩ m_tell_in c_tellLine_28 rfl rfl rfl rfl (Nat.le_of_ble_eq_true rfl) d_tellLine_28 ⟨Nat.le_of_ble_eq_true rfl, Nat.le_of_ble_eq_true rfl⟩ ⟨Nat.le_refl _, Nat.le_refl _⟩ (fun v sh' σ3 hq => ?_)
    obtain ⟨rfl, rfl, hT⟩ := hq
    refine fwRun_ok k_tellLine_31_ok rfl trivial ?_
    refine fwg_goto 14 d_tellLine_34 (by decide) ?_
    have := ih (j + 1) (t + 1) σ3 (by omega) hT.2.1 hT.2.2.1 (by omega) (fun σ4 h4' => hp σ4 (by have := hT.tr h4'; rwa [show t + 1 + q = t + (q + 1) by omega] at this))
    rw [← nI_1] at this
    exact this
theorem ct_tellLine {c t : Nat} (hc : c < fwNs) (h3 : σ.1 4 3 = 0) (h4 : σ.1 4 4 = nI t) (ht : t + 2 + fwSl.getD c 0 ≤ 8000) : fwC l Z m_tellLine 5 0 0 [.ref 4, .retAddr c] (shCon e0 e1 e2 e3 re) σ (fun v sh' σ' => v = none ∧ sh' = shCon e0 e1 e2 e3 re ∧ Tl σ σ' (t + 2 + fwSl.getD c 0)) := by
  obtain ⟨-, hL, -⟩ := fw_sc c hc
  refine fwC_of (ls := [some (.ref 4), some (.retAddr c), none]) (by decide +kernel) rfl (by rw [fw_sl1]; exact Nat.le_of_ble_eq_true rfl) ?_
  refine fwRun_ok k_tellLine_0_ok rfl trivial ?_
  refine fwg_callV (n := 1) (i := 4) (as := [.int 13]) (r := []) (ct_tell h3 h4 (by omega)) ⟨by decide, by decide, by decide +kernel⟩ m_tell_in c_tellLine_3 rfl rfl rfl rfl (Nat.le_of_ble_eq_true rfl) d_tellLine_3 ⟨Nat.le_of_ble_eq_true rfl, Nat.le_of_ble_eq_true rfl⟩ ⟨Nat.le_refl _, Nat.le_refl _⟩ (fun v sh' σ1 hq => ?_)
  obtain ⟨rfl, rfl, hT1⟩ := hq
  refine fwRun_ok k_tellLine_6_ok rfl trivial ?_
  refine fwg_callV (n := 1) (i := 4) (as := [.int 10]) (r := []) (ct_tell hT1.2.1 hT1.2.2.1 (by omega)) ⟨by decide, by decide, by decide +kernel⟩ m_tell_in c_tellLine_9 rfl rfl rfl rfl (Nat.le_of_ble_eq_true rfl) d_tellLine_9 ⟨Nat.le_of_ble_eq_true rfl, Nat.le_of_ble_eq_true rfl⟩ ⟨Nat.le_refl _, Nat.le_refl _⟩ (fun v sh' σ2 hq => ?_)
  obtain ⟨rfl, rfl, hT2⟩ := hq
  refine fwRun_ok k_tellLine_12_ok rfl trivial ?_
  exact tellLine_loop (t := 0) hc hL (fwSl.getD c 0) 0 (t + 2) σ2 (by omega) hT2.2.1 hT2.2.2.1 (by omega) (fun σ' h => ⟨rfl, rfl, (hT1.tr hT2).tr h⟩)
end CON
end
section
/-! the class's processor, files and monitor, as far as a boot goes -/
def sPro : fwE := .inr (8, [.ref 9, .ref 10, .ref 4, .int 0, .int 0, .int 0, .long 0, .int 0])
def sFil : fwE := .inr (4, [.ref 12, .ref 13, .ref 14, .ref 15, .ref 16, .ref 17, .int 0, .int 0, .int 0, .int 0, .int 0, .int 0, .int 0, .int 0, .int 0])
def sMon : fwE := .inr (7, [.ref 8, .ref 4, .ref 11, .ref 19, .int 0, .int 0, .int 0, .int 0, .int 0])
abbrev shMon (e0 e1 e2 e3 : fwE) (re : List fwE) : List fwE := shCon e0 e1 e2 e3 (sPro :: .inl (.byte, 65536) :: .inl (.int, 8) :: sFil :: .inl (.byte, 512512) :: .inl (.int, 1944) :: .inl (.boolean, 486) :: .inl (.int, 36) :: .inl (.byte, 128) :: .inl (.int, 36) :: sMon :: .inl (.int, 36) :: re)
theorem fw_b2 (v : Int32) : v.toInt8.toInt32.toInt8.toInt32 = v.toInt8.toInt32 := (vp_nar_byte _).symm.trans (pk_vb v)
section MON
variable {l : Launch} {Z : fwZ} {e0 e1 e2 e3 : fwE} {re : List fwE} {σ : fwS}
/-- a call's last words: names are plain, parameters counted -/
theorem ct_poke {a v : Int32} : fwC l Z m_poke 1 0 0 [.ref 8, .int a, .int v] (shMon e0 e1 e2 e3 re) σ (fun w sh' σ' => w = none ∧ sh' = shMon e0 e1 e2 e3 re ∧ σ' = fwI σ 9 (a &&& 65535).toNatClampNeg v.toInt8.toInt32) := by
  refine fwC_of (ls := [some (.ref 8), some (.int a), some (.int v)]) (by decide +kernel) rfl (by rw [fw_sl1]; exact Nat.le_refl 3) ?_
  refine fwRun_ok k_poke_0_ok rfl (pk_andIn a 16 (by decide) (by decide)) ?_
  refine fwg_vret rfl (Nat.le_refl _) (Nat.le_refl _) ⟨rfl, rfl, ?_⟩ d_poke_11
  show fwI σ 9 _ v.toInt8.toInt32.toInt8.toInt32 = _
  congr 1
  exact fw_b2 v
theorem ct_pokeWord {a v : Int32} : fwC l Z m_pokeWord 1 0 0 [.ref 8, .int a, .int v] (shMon e0 e1 e2 e3 re) σ (fun w sh' σ' => w = none ∧ sh' = shMon e0 e1 e2 e3 re ∧ σ' = fwI (fwI σ 9 (a &&& 65535).toNatClampNeg v.toInt8.toInt32.toInt8.toInt32) 9 ((a + 1) &&& 65535).toNatClampNeg (v >>> (8 &&& 31)).toInt8.toInt32.toInt8.toInt32) := by
  refine fwC_of (ls := [some (.ref 8), some (.int a), some (.int v)]) (by decide +kernel) rfl (by rw [fw_sl1]; exact Nat.le_refl 3) ?_
  refine fwRun_ok k_pokeWord_0_ok rfl ⟨pk_andIn a 16 (by decide) (by decide), pk_andIn (a + 1) 16 (by decide) (by decide)⟩ ?_
  exact fwg_vret rfl (Nat.le_refl _) (Nat.le_refl _) ⟨rfl, rfl, rfl⟩ d_pokeWord_27
theorem ct_clearRegs : fwC l Z m_clearRegs 2 0 0 [.ref 8] (shMon e0 e1 e2 e3 re) σ (fun w sh' σ' => w = none ∧ sh' = shMon e0 e1 e2 e3 re ∧ σ' = fwI (fwI (fwA σ 10 (fwFill (σ.1 10) 8 0)) 8 3 2) 8 4 0) := by
  refine fwC_of (ls := [some (.ref 8)]) (by decide +kernel) rfl (by rw [fw_sl1]; exact Nat.le_refl 1) ?_
  refine fwRun_ok k_clearRegs_0_ok rfl trivial ?_
  refine fwg_callS (n := 2) (as := [.ref 10, .int 0]) (r := []) (ct_fillI (n := 8) rfl (by decide)) ⟨by decide, by decide, by decide +kernel⟩ m_fillI_in c_clearRegs_5 rfl rfl (Nat.le_of_ble_eq_true rfl) d_clearRegs_5 ⟨Nat.le_refl _, Nat.le_of_ble_eq_true rfl⟩ ⟨Nat.le_refl _, Nat.le_refl _⟩ (fun v sh' σ1 hq => ?_)
  obtain ⟨rfl, rfl, rfl⟩ := hq
  refine fwRun_ok k_clearRegs_8_ok rfl trivial ?_
  exact fwg_vret rfl (Nat.le_refl _) (Nat.le_refl _) ⟨rfl, rfl, rfl⟩ d_clearRegs_18
theorem ct_forget : fwC l Z m_forget 1 0 0 [.ref 11] (shMon e0 e1 e2 e3 re) σ (fun w sh' σ' => w = none ∧ sh' = shMon e0 e1 e2 e3 re ∧ σ' = fwI (fwI σ 11 9 0) 11 8 0) := by
  refine fwC_of (ls := [some (.ref 11)]) (by decide +kernel) rfl (by rw [fw_sl1]; exact Nat.le_refl 1) ?_
  refine fwRun_ok k_forget_0_ok rfl (Or.inl rfl) ?_
  exact fwg_vret rfl (Nat.le_refl _) (Nat.le_refl _) ⟨rfl, rfl, rfl⟩ d_forget_10
theorem ct_openLine {x : Int32} : fwC l Z m_openLine 2 0 0 [.ref 4, .int x] (shCon e0 e1 e2 e3 re) σ (fun w sh' σ' => w = none ∧ sh' = shCon e0 e1 e2 e3 re ∧ σ' = fwI (fwI (fwI σ 4 8 (if (256 : Int32) < x then 256 else x)) 4 7 0) 4 9 1) := by
  refine fwC_of (ls := [some (.ref 4), some (.int x)]) (by decide +kernel) rfl (by rw [fw_sl1]; exact Nat.le_refl 2) ?_
  refine fwRun_ok k_openLine_0_ok rfl trivial ?_
  refine fwg_callS (n := 2) (as := [.int x, .int (Int32.ofNat 256)]) (r := [.ref 4]) (ct_mmin x _) ⟨by decide, by decide, by decide +kernel⟩ m_mmin_in c_openLine_7 rfl rfl (Nat.le_of_ble_eq_true rfl) d_openLine_7 ⟨Nat.le_refl _, Nat.le_of_ble_eq_true rfl⟩ ⟨Nat.le_refl _, Nat.le_refl _⟩ (fun v sh' σ1 hq => ?_)
  obtain ⟨rfl, rfl, rfl⟩ := hq
  refine fwRun_ok k_openLine_10_ok rfl (Or.inr rfl) ?_
  exact fwg_vret rfl (Nat.le_refl _) (Nat.le_refl _) ⟨rfl, rfl, rfl⟩ d_openLine_23
/-- what a boot needs of the files: nothing stands on the disks, the records' places are on a drive -/
def FilOk (σ : fwS) : Prop := (∀ j, j < 512512 → σ.1 12 j = -27) ∧ ∀ k, k < 1944 → ∃ q, σ.1 13 k = nI q ∧ q + 128 ≤ 256256
theorem ct_entryPlace {e : Nat} (hF : FilOk σ) (he : e < 64) : fwC l Z m_entryPlace 1 0 0 [.ref 11, .int 0, .int (nI e)] (shMon e0 e1 e2 e3 re) σ (fun w sh' σ' => (∃ q, w = some (.int (nI q)) ∧ q + 32 ≤ 256256) ∧ sh' = shMon e0 e1 e2 e3 re ∧ σ' = σ) := by
  refine fwC_of (ls := [some (.ref 11), some (.int 0), some (.int (nI e))]) (by decide +kernel) rfl (by rw [fw_sl1]; exact Nat.le_refl 3) ?_
  have h1 : nI e >>> ((2 : Int32) &&& 31) = nI (e / 4) := pk_shrN (by omega) _ 2 (by decide)
  have h2 : nI e &&& 3 = nI (e % 4) := pk_andN (by omega) 2 (by decide)
  refine fwRun_ok k_entryPlace_0_ok rfl ?_ ?_
  · show vp_in (nI e >>> ((2 : Int32) &&& 31)) 1944
    rw [h1]
    exact vp_in_nI (by omega) (by decide)
  · obtain ⟨q, hq, hq2⟩ := hF.2 (e / 4) (by omega)
    refine fwg_iret rfl (Nat.le_refl _) (Nat.le_refl _) ⟨⟨q + e % 4 * 32, ?_, by omega⟩, rfl, rfl⟩ d_entryPlace_20
    show some (Value.int ((0 : Int32) * 256256 + σ.1 13 (nI e >>> ((2 : Int32) &&& 31)).toNatClampNeg + (nI e &&& 3) * 32)) = _
    rw [h1, h2, nI_clamp (by omega), hq]
    congr 2
    rw [show (0 : Int32) * 256256 = nI 0 from by decide, show (32 : Int32) = nI 32 from rfl, pk_mul, nI_add, nI_add]
    congr 1
    omega
theorem login_2 {Post : fwPost} (hF : FilOk σ) (hp : Post none (shMon e0 e1 e2 e3 re) σ) : ∀ (q e : Nat) (ls3 : Option Value), e + q = 64 → fwG l Z m_login 2 0 0 Post 0 0 63 [some (.ref 11), some (.int 0), some (.int (nI e)), ls3] [] (shMon e0 e1 e2 e3 re) σ := by
  intro q
  induction q with
  | zero =>
    intro e ls3 he
    refine fwRun_ok k_login_63_ok rfl trivial ?_
    refine fwg_cmp 105 d_login_66 (by decide) (fun h => ?_) (fun h => absurd (nI_le (a := 64) (by omega) (by omega)) h)
    exact fwg_vret rfl (Nat.le_refl _) (Nat.le_refl _) hp d_login_105
  | succ q ih =>
    intro e ls3 he
    refine fwRun_ok k_login_63_ok rfl trivial ?_
    refine fwg_cmp 105 d_login_66 (by decide) (fun h => absurd (show (64 : Int32) ≤ nI e from h) (nI_ge (b := 64) (by omega) (by decide))) (fun h => ?_)
    refine fwRun_ok k_login_69_ok rfl trivial ?_
    refine fwg_callV (n := 2) (i := 11) (as := [.int 0, .int (nI e)]) (r := []) (ct_entryPlace hF (by omega)) ⟨by decide, by decide, by decide +kernel⟩ m_entryPlace_in c_login_72 rfl rfl rfl rfl (Nat.le_of_ble_eq_true rfl) d_login_72 ⟨Nat.le_of_ble_eq_true rfl, Nat.le_of_ble_eq_true rfl⟩ ⟨Nat.le_refl _, Nat.le_refl _⟩ (fun v sh' σ' hq => ?_)
    obtain ⟨⟨z, rfl, hz⟩, rfl, rfl⟩ := hq
    refine fwRun_ok k_login_75_ok rfl (vp_in_nI (by omega) (by decide)) ?_
    refine fwg_cmp 99 d_login_89 (by decide) (fun h => ?_) (fun h => ?_)
    · refine fwRun_ok k_login_99_ok rfl trivial ?_
      refine fwg_goto 63 d_login_102 (by decide) ?_
      have := ih (e + 1) (some (.int (nI z))) (by omega)
      rw [← nI_1] at this
      exact this
    · refine absurd ?_ h
      show σ'.1 12 (nI z).toNatClampNeg &&& 255 = 229
      rw [nI_clamp (by omega), hF.1 z (by omega)]
      decide
theorem login_1 {Post : fwPost} {σ0 : fwS} (hF : FilOk σ0) (hp : ∀ σ', fwSame [14] σ0 σ' → Post none (shMon e0 e1 e2 e3 re) σ') : ∀ (q b : Nat) (σ : fwS), b + q = 243 → fwSame [14] σ0 σ → fwG l Z m_login 2 0 0 Post 0 0 26 [some (.ref 11), some (.int 0), some (.int (nI b)), none] [] (shMon e0 e1 e2 e3 re) σ := by
  intro q
  induction q with
  | zero =>
    intro b σ hb hs
    refine fwRun_ok k_login_26_ok rfl trivial ?_
    refine fwg_cmp 61 d_login_30 (by decide) (fun h => ?_) (fun h => absurd (nI_le (a := 243) (by omega) (by omega)) h)
    refine fwRun_ok k_login_61_ok rfl trivial ?_
    refine login_2 ⟨fun j hj => ?_, fun k hk => ?_⟩ (hp σ hs) 64 0 none rfl
    · rw [(hs 12 (by decide)).1]; exact hF.1 j hj
    · rw [(hs 13 (by decide)).1]; exact hF.2 k hk
  | succ q ih =>
    intro b σ hb hs
    refine fwRun_ok k_login_26_ok rfl trivial ?_
    refine fwg_cmp 61 d_login_30 (by decide) (fun h => absurd (show (243 : Int32) ≤ nI b from h) (nI_ge (b := 243) (by omega) (by decide))) (fun h => ?_)
    refine fwRun_ok k_login_33_ok rfl trivial ?_
    have key : ∀ x : Int32, fwG l Z m_login 2 0 0 Post 0 0 54 [some (.ref 11), some (.int 0), some (.int (nI b)), none] [.int x, .int ((0 : Int32) * 243 + nI b), .ref 14] (shMon e0 e1 e2 e3 re) σ := by
      intro x
      have hx : (0 : Int32) * 243 + nI b = nI b := by rw [show (0 : Int32) * 243 = nI 0 from by decide, nI_add, Nat.zero_add]
      rw [hx]
      refine fwRun_ok k_login_54_ok rfl (vp_in_nI (by omega) (by decide)) ?_
      refine fwg_goto 26 d_login_58 (by decide) ?_
      have := ih (b + 1) (fwI σ 14 (nI b).toNatClampNeg (x &&& 1)) (by omega) (hs.tr (fwSame_I (by decide)))
      rw [← nI_1] at this
      exact this
    refine fwg_cmp 53 d_login_46 (by decide) (fun h => ?_) (fun h => ?_)
    · refine fwRun_ok k_login_53_ok rfl trivial ?_
      exact key 0
    · refine fwRun_ok k_login_49_ok rfl trivial ?_
      refine fwg_goto 54 d_login_50 (by decide) ?_
      exact key 1
theorem ct_login (hF : FilOk σ) (h0 : σ.1 11 9 = 0) : fwC l Z m_login 2 0 0 [.ref 11, .int 0] (shMon e0 e1 e2 e3 re) σ (fun w sh' σ' => w = none ∧ sh' = shMon e0 e1 e2 e3 re ∧ fwSame [14] (fwI σ 11 9 1) σ') := by
  refine fwC_of (ls := [some (.ref 11), some (.int 0), none, none]) (by decide +kernel) rfl (by rw [fw_sl1]; exact Nat.le_of_ble_eq_true rfl) ?_
  refine fwRun_ok k_login_0_ok rfl trivial ?_
  refine fwg_if 12 d_login_8 (by decide) (fun h => ?_) (fun h => ?_)
  · refine fwRun_ok k_login_12_ok rfl trivial ?_
    show fwG l Z m_login 2 0 0 _ 0 0 26 _ _ _ (fwI σ 11 9 (σ.1 11 9 ||| (1 : Int32) <<< ((0 : Int32) &&& 31)))
    rw [h0, show ((0 : Int32) ||| (1 : Int32) <<< ((0 : Int32) &&& 31)) = 1 from by decide]
    refine login_1 (σ0 := fwI σ 11 9 1) ⟨fun j hj => ?_, fun k hk => ?_⟩ (fun σ' h => ⟨rfl, rfl, h⟩) 243 0 _ rfl fwSame.rf
    · rw [fwI_ne (by decide)]; exact hF.1 j hj
    · rw [fwI_ne (by decide)]; exact hF.2 k hk
  · refine absurd ?_ h
    show (σ.1 11 9 >>> ((0 : Int32) &&& 31)) &&& 1 = 0
    rw [h0]
    decide
end MON
end
section
/-! the boots -/
/-- a call of one of the class's own methods on cell i -/
theorem fwSame.c {S : List Nat} {σ σ' : fwS} (h : fwSame S σ σ') {a : Nat} (ha : a ∉ S) (b : Nat) : σ'.1 a b = σ.1 a b := by rw [(h a ha).1]
theorem fwSame.c2 {S : List Nat} {σ σ' : fwS} (h : fwSame S σ σ') {a : Nat} (ha : a ∉ S) (b : Nat) : σ'.2 a b = σ.2 a b := by rw [(h a ha).2]
theorem fwA_ne {σ : fwS} {i a b : Nat} {f : Nat → Int32} (h : a ≠ i) : (fwA σ i f).1 a b = σ.1 a b := if_neg h
section BOOT
variable {l : Launch} {Z : fwZ} {e0 e1 e2 e3 : fwE} {re : List fwE} {σ : fwS}
/-- at the command line -/
def Cmd (σ σ' : fwS) (t : Nat) : Prop := fwSame [4, 5, 8, 18] σ σ' ∧ (σ'.1 4 3 = 0 ∧ σ'.1 4 4 = nI t ∧ σ'.1 4 5 = σ.1 4 5 ∧ σ'.1 4 6 = σ.1 4 6 ∧ σ'.1 4 7 = 0 ∧ σ'.1 4 8 = 127 ∧ σ'.1 4 9 = 1) ∧ (σ'.1 8 5 = 60419 ∧ (∀ b, b ≠ 5 → σ'.1 8 b = σ.1 8 b) ∧ σ'.2 8 = σ.2 8) ∧ σ'.1 18 8 = 1 ∧ ∀ b, b ≠ 8 → σ'.1 18 b = σ.1 18 b
theorem ct_goCmd {t : Nat} (h3 : σ.1 4 3 = 0) (h4 : σ.1 4 4 = nI t) (ht : t + 4 ≤ 8000) (hh : σ.1 11 11 = 0) (hu : σ.1 11 12 = 0) : fwC l Z m_goCmd 6 0 0 [.ref 18] (shMon e0 e1 e2 e3 re) σ (fun w sh' σ' => w = none ∧ sh' = shMon e0 e1 e2 e3 re ∧ Cmd σ σ' (t + 4)) := by
  refine fwC_of (ls := [some (.ref 18)]) (by decide +kernel) rfl (by rw [fw_sl1]; exact Nat.le_refl 1) ?_
  refine fwRun_ok k_goCmd_0_ok rfl (Or.inr rfl) ?_
  refine fwg_callV (n := 1) (i := 4) (as := [.retAddr 3]) (r := []) (ct_tellLine (c := 3) (t := t) (by decide) h3 h4 (by show t + 2 + 0 ≤ 8000; omega)) ⟨by decide, by decide, by decide +kernel⟩ m_tellLine_in c_goCmd_20 rfl rfl rfl rfl (Nat.le_of_ble_eq_true rfl) d_goCmd_20 ⟨Nat.le_of_ble_eq_true rfl, Nat.le_of_ble_eq_true rfl⟩ ⟨Nat.le_refl _, Nat.le_refl _⟩ (fun v sh' σ1 hq => ?_)
  obtain ⟨rfl, rfl, hT1⟩ := hq
  refine fwRun_ok k_goCmd_23_ok rfl trivial ?_
  refine fwg_callV (n := 1) (i := 4) (as := [.int (65 + σ1.1 11 11)]) (r := []) (ct_tell hT1.2.1 hT1.2.2.1 (by show t + 2 + 0 < 8000; omega)) ⟨by decide, by decide, by decide +kernel⟩ m_tell_in c_goCmd_37 rfl rfl rfl rfl (Nat.le_of_ble_eq_true rfl) d_goCmd_37 ⟨Nat.le_of_ble_eq_true rfl, Nat.le_of_ble_eq_true rfl⟩ ⟨Nat.le_refl _, Nat.le_refl _⟩ (fun v sh' σ2 hq => ?_)
  obtain ⟨rfl, rfl, hT2⟩ := hq
  refine fwRun_ok k_goCmd_40_ok rfl trivial ?_
  have hT := hT1.tr hT2
  refine fwg_if 64 d_goCmd_47 (by decide) (fun h => ?_) (fun h => ?_)
  · refine fwRun_ok k_goCmd_64_ok rfl trivial ?_
    refine fwg_callV (n := 1) (i := 4) (as := [.int 62]) (r := []) (ct_tell hT2.2.1 hT2.2.2.1 (by show t + 2 + 0 + 1 < 8000; omega)) ⟨by decide, by decide, by decide +kernel⟩ m_tell_in c_goCmd_70 rfl rfl rfl rfl (Nat.le_of_ble_eq_true rfl) d_goCmd_70 ⟨Nat.le_of_ble_eq_true rfl, Nat.le_of_ble_eq_true rfl⟩ ⟨Nat.le_refl _, Nat.le_refl _⟩ (fun v sh' σ3 hq => ?_)
    obtain ⟨rfl, rfl, hT3⟩ := hq
    refine fwRun_ok k_goCmd_73_ok rfl trivial ?_
    refine fwg_callV (n := 1) (i := 4) (as := [.int 127]) (r := []) ct_openLine ⟨by decide, by decide, by decide +kernel⟩ m_openLine_in c_goCmd_79 rfl rfl rfl rfl (Nat.le_of_ble_eq_true rfl) d_goCmd_79 ⟨Nat.le_of_ble_eq_true rfl, Nat.le_of_ble_eq_true rfl⟩ ⟨Nat.le_refl _, Nat.le_refl _⟩ (fun v sh' σ4 hq => ?_)
    obtain ⟨rfl, rfl, rfl⟩ := hq
    refine fwg_vret rfl (Nat.le_refl _) (Nat.le_refl _) ⟨rfl, rfl, ?_⟩ d_goCmd_82
    have hT' := hT.tr hT3
    refine ⟨?_, ⟨hT'.2.1, hT'.2.2.1, hT'.2.2.2.1 5 (by decide) (by decide), hT'.2.2.2.1 6 (by decide) (by decide), rfl, rfl, rfl⟩, ⟨?_, fun b hb => ?_, ?_⟩, ?_, fun b hb => ?_⟩
    · refine fwSame.tr (σ1 := fwI (fwI σ 8 5 60419) 18 8 1) ((fwSame_I (by decide)).tr (fwSame_I (by decide))) ((hT'.1.up (by decide)).tr (((fwSame_I (by decide)).tr (fwSame_I (by decide))).tr (fwSame_I (by decide))))
    · exact hT'.1.c (a := 8) (by decide) 5
    · refine (hT'.1.c (a := 8) (by decide) b).trans ?_
      show (fwI (fwI σ 8 5 60419) 18 8 1).1 8 b = _
      rw [fwI_ne (by decide), fwI_ne2 hb]
    · exact (hT'.1 8 (by decide)).2
    · exact hT'.1.c (a := 18) (by decide) 8
    · refine (hT'.1.c (a := 18) (by decide) b).trans ?_
      show (fwI (fwI σ 8 5 60419) 18 8 1).1 18 b = _
      rw [fwI_ne2 hb, fwI_ne (by decide)]
  · refine absurd ?_ h
    show σ2.1 11 12 = 0
    rw [hT.1.c (a := 11) (by decide) 12]
    exact hu
theorem fwI_row (σ : fwS) (i k : Nat) (v : Int32) : (fwI σ i k v).1 i = fun j => if j = k then v else σ.1 i j := by
  funext j
  show (if i = i ∧ j = k then v else σ.1 i j) = _
  by_cases h : j = k
  · rw [if_pos ⟨rfl, h⟩, if_pos h]
  · rw [if_neg (fun q => h q.2), if_neg h]
/-- 0 .. 2 and 5 .. 7 as a warm boot leaves them -/
def memW (f : Nat → Int32) : Nat → Int32 := fun j => if j = 7 then -18 else if j = 6 then 6 else if j = 5 then -61 else if j = 2 then -20 else if j = 1 then 3 else if j = 0 then -61 else f j
def Wrm (σ σ' : fwS) (t : Nat) : Prop := fwSame [4, 5, 8, 9, 11, 14, 18] σ σ' ∧ (σ'.1 4 3 = 0 ∧ σ'.1 4 4 = nI t ∧ σ'.1 4 5 = σ.1 4 5 ∧ σ'.1 4 6 = σ.1 4 6 ∧ σ'.1 4 7 = 0 ∧ σ'.1 4 8 = 127 ∧ σ'.1 4 9 = 1) ∧ (σ'.1 8 5 = 60419 ∧ (∀ b, b ≠ 5 → σ'.1 8 b = σ.1 8 b) ∧ σ'.2 8 = σ.2 8) ∧ (σ'.1 18 8 = 1 ∧ σ'.1 18 4 = 128) ∧ σ'.1 9 = memW (σ.1 9) ∧ ∀ b, b ≠ 8 → b ≠ 9 → σ'.1 11 b = σ.1 11 b
theorem ct_warm {t : Nat} (h3 : σ.1 4 3 = 0) (h4 : σ.1 4 4 = nI t) (ht : t + 4 ≤ 8000) (hh : σ.1 11 11 = 0) (hu : σ.1 11 12 = 0) (hF : FilOk σ) : fwC l Z m_warm 7 0 0 [.ref 18] (shMon e0 e1 e2 e3 re) σ (fun w sh' σ' => w = none ∧ sh' = shMon e0 e1 e2 e3 re ∧ Wrm σ σ' (t + 4)) := by
  refine fwC_of (ls := [some (.ref 18)]) (by decide +kernel) rfl (by rw [fw_sl1]; exact Nat.le_refl 1) ?_
  refine fwRun_ok k_warm_0_ok rfl trivial ?_
  refine fwg_callV (n := 2) (i := 8) (as := [.int 0, .int 195]) (r := []) ct_poke ⟨by decide, by decide, by decide +kernel⟩ m_poke_in c_warm_8 rfl rfl rfl rfl (Nat.le_of_ble_eq_true rfl) d_warm_8 ⟨Nat.le_of_ble_eq_true rfl, Nat.le_of_ble_eq_true rfl⟩ ⟨Nat.le_refl _, Nat.le_refl _⟩ (fun v sh' σ1 hq => ?_)
  obtain ⟨rfl, rfl, hs1⟩ := hq
  refine fwRun_ok k_warm_11_ok rfl trivial ?_
  refine fwg_callV (n := 2) (i := 8) (as := [.int 1, .int 60419]) (r := []) ct_pokeWord ⟨by decide, by decide, by decide +kernel⟩ m_pokeWord_in c_warm_18 rfl rfl rfl rfl (Nat.le_of_ble_eq_true rfl) d_warm_18 ⟨Nat.le_of_ble_eq_true rfl, Nat.le_of_ble_eq_true rfl⟩ ⟨Nat.le_refl _, Nat.le_refl _⟩ (fun v sh' σ2 hq => ?_)
  obtain ⟨rfl, rfl, hs2⟩ := hq
  refine fwRun_ok k_warm_21_ok rfl trivial ?_
  refine fwg_callV (n := 2) (i := 8) (as := [.int 5, .int 195]) (r := []) ct_poke ⟨by decide, by decide, by decide +kernel⟩ m_poke_in c_warm_29 rfl rfl rfl rfl (Nat.le_of_ble_eq_true rfl) d_warm_29 ⟨Nat.le_of_ble_eq_true rfl, Nat.le_of_ble_eq_true rfl⟩ ⟨Nat.le_refl _, Nat.le_refl _⟩ (fun v sh' σ3 hq => ?_)
  obtain ⟨rfl, rfl, hs3⟩ := hq
  refine fwRun_ok k_warm_32_ok rfl trivial ?_
  refine fwg_callV (n := 2) (i := 8) (as := [.int 6, .int 60934]) (r := []) ct_pokeWord ⟨by decide, by decide, by decide +kernel⟩ m_pokeWord_in c_warm_40 rfl rfl rfl rfl (Nat.le_of_ble_eq_true rfl) d_warm_40 ⟨Nat.le_of_ble_eq_true rfl, Nat.le_of_ble_eq_true rfl⟩ ⟨Nat.le_refl _, Nat.le_refl _⟩ (fun v sh' σ4 hq => ?_)
  obtain ⟨rfl, rfl, hs4⟩ := hq
  have hm : σ4.1 9 = memW (σ.1 9) := by
    rw [hs4, fwI_row, fwI_row, hs3, fwI_row, hs2, fwI_row, fwI_row, hs1, fwI_row]
    rfl
  have hS4 : fwSame [9] σ σ4 := by
    rw [hs4, hs3, hs2, hs1]
    exact (((((fwSame_I (by decide)).tr (fwSame_I (by decide))).tr (fwSame_I (by decide))).tr (fwSame_I (by decide))).tr (fwSame_I (by decide))).tr (fwSame_I (by decide))
  clear hs1 hs2 hs3 hs4
  refine fwRun_ok k_warm_43_ok rfl trivial ?_
  refine fwg_callV (n := 0) (i := 11) (as := []) (r := []) ct_forget ⟨by decide, by decide, by decide +kernel⟩ m_forget_in c_warm_47 rfl rfl rfl rfl (Nat.le_of_ble_eq_true rfl) d_warm_47 ⟨Nat.le_of_ble_eq_true rfl, Nat.le_of_ble_eq_true rfl⟩ ⟨Nat.le_refl _, Nat.le_refl _⟩ (fun v sh' σ5 hq => ?_)
  obtain ⟨rfl, rfl, hs5⟩ := hq
  have hS5 : fwSame [11] σ4 σ5 := by rw [hs5]; exact (fwSame_I (by decide)).tr (fwSame_I (by decide))
  have h11 : ∀ b, b ≠ 8 → b ≠ 9 → σ5.1 11 b = σ.1 11 b := fun b hb hc => by rw [hs5, fwI_ne2 hb, fwI_ne2 hc]; exact hS4.c (by decide) b
  have h119 : σ5.1 11 9 = 0 := by rw [hs5, fwI_ne2 (by decide), fwI_eq]
  clear hs5
  have hF5 : FilOk σ5 := ⟨fun j hj => by rw [hS5.c (by decide), hS4.c (by decide)]; exact hF.1 j hj, fun k hk => by rw [hS5.c (by decide), hS4.c (by decide)]; exact hF.2 k hk⟩
  refine fwRun_ok k_warm_50_ok rfl trivial ?_
  have hh5 : σ5.1 11 11 = 0 := by rw [h11 11 (by decide) (by decide)]; exact hh
  show fwG l Z m_warm 7 0 0 _ 0 0 61 _ [.int (σ5.1 11 11), .ref 11] _ σ5
  rw [hh5]
  refine fwg_callV (n := 1) (i := 11) (as := [.int 0]) (r := []) (ct_login hF5 h119) ⟨by decide, by decide, by decide +kernel⟩ m_login_in c_warm_61 rfl rfl rfl rfl (Nat.le_of_ble_eq_true rfl) d_warm_61 ⟨Nat.le_of_ble_eq_true rfl, Nat.le_of_ble_eq_true rfl⟩ ⟨Nat.le_refl _, Nat.le_refl _⟩ (fun v sh' σ6 hq => ?_)
  obtain ⟨rfl, rfl, hS6⟩ := hq
  refine fwRun_ok k_warm_64_ok rfl trivial ?_
  have c4 : ∀ b, σ6.1 4 b = σ.1 4 b := fun b => by rw [hS6.c (by decide), fwI_ne (by decide), hS5.c (by decide), hS4.c (by decide)]
  have c11 : ∀ b, b ≠ 8 → b ≠ 9 → σ6.1 11 b = σ.1 11 b := fun b hb hc => by rw [hS6.c (by decide), fwI_ne2 hc]; exact h11 b hb hc
  refine fwg_callV (n := 0) (i := 18) (as := []) (r := []) (ct_goCmd (t := t) (by show (fwI σ6 18 4 128).1 4 3 = 0; rw [fwI_ne (by decide), c4]; exact h3) (by show (fwI σ6 18 4 128).1 4 4 = _; rw [fwI_ne (by decide), c4]; exact h4) ht (by show (fwI σ6 18 4 128).1 11 11 = 0; rw [fwI_ne (by decide), c11 11 (by decide) (by decide)]; exact hh) (by show (fwI σ6 18 4 128).1 11 12 = 0; rw [fwI_ne (by decide), c11 12 (by decide) (by decide)]; exact hu)) ⟨by decide, by decide, by decide +kernel⟩ m_goCmd_in c_warm_72 rfl rfl rfl rfl (Nat.le_of_ble_eq_true rfl) d_warm_72 ⟨Nat.le_of_ble_eq_true rfl, Nat.le_of_ble_eq_true rfl⟩ ⟨Nat.le_refl _, Nat.le_refl _⟩ (fun v sh' σ7 hq => ?_)
  obtain ⟨rfl, rfl, hC⟩ := hq
  refine fwg_vret rfl (Nat.le_refl _) (Nat.le_refl _) ⟨rfl, rfl, ?_⟩ d_warm_75
  obtain ⟨q1, ⟨a3, a4, a5, a6, a7, a8, a9⟩, ⟨b5, bo, bl⟩, d8, dO⟩ := hC
  refine ⟨?_, ⟨a3, a4, a5.trans ?_, a6.trans ?_, a7, a8, a9⟩, ⟨b5, fun b hb => (bo b hb).trans ?_, bl.trans ?_⟩, ⟨d8, ?_⟩, ?_, fun b hb hc => ?_⟩
  · exact (((((hS4.up (by decide)).tr (hS5.up (by decide))).tr (fwSame_I (i := 11) (by decide))).tr (hS6.up (by decide))).tr (fwSame_I (i := 18) (by decide))).tr (q1.up (by decide))
  · show (fwI σ6 18 4 128).1 4 5 = _; rw [fwI_ne (by decide), c4]
  · show (fwI σ6 18 4 128).1 4 6 = _; rw [fwI_ne (by decide), c4]
  · show (fwI σ6 18 4 128).1 8 b = _; rw [fwI_ne (by decide), hS6.c (by decide), fwI_ne (by decide), hS5.c (by decide), hS4.c (by decide)]
  · show σ6.2 8 = _; rw [(hS6 8 (by decide)).2]; show σ5.2 8 = _; rw [(hS5 8 (by decide)).2, (hS4 8 (by decide)).2]
  · rw [dO 4 (by decide)]; exact fwI_eq
  · rw [(q1 9 (by decide)).1]
    show (fwI σ6 18 4 128).1 9 = _
    rw [((fwSame_I (S := [18]) (by decide)) 9 (by decide)).1, (hS6 9 (by decide)).1, ((fwSame_I (S := [11]) (by decide)) 9 (by decide)).1, (hS5 9 (by decide)).1]
    exact hm
  · rw [q1.c (by decide)]
    show (fwI σ6 18 4 128).1 11 b = _
    rw [fwI_ne (by decide)]
    exact c11 b hb hc
/-- the board as a cold boot leaves it -/
def Cld (σ σ' : fwS) (t : Nat) : Prop := fwSame [4, 5, 8, 9, 10, 11, 14, 18] σ σ' ∧ (σ'.1 4 3 = 0 ∧ σ'.1 4 4 = nI t ∧ σ'.1 4 5 = σ.1 4 5 ∧ σ'.1 4 6 = 0 ∧ σ'.1 4 7 = 0 ∧ σ'.1 4 8 = 127 ∧ σ'.1 4 9 = 1) ∧ (σ'.1 8 3 = 2 ∧ σ'.1 8 4 = 0 ∧ σ'.1 8 5 = 60419 ∧ σ'.1 8 7 = 0 ∧ σ'.2 8 = σ.2 8) ∧ (∀ j, j < 65536 → σ'.1 9 j = memW (fun _ => 0) j) ∧ (∀ j, j < 8 → σ'.1 10 j = 0) ∧ (σ'.1 11 11 = 0 ∧ σ'.1 11 12 = 0) ∧ σ'.1 18 8 = 1 ∧ σ'.1 18 4 = 128
theorem ct_cold {t : Nat} (h3 : σ.1 4 3 = 0) (h4 : σ.1 4 4 = nI t) (ht : t + 9 ≤ 8000) (hF : FilOk σ) : fwC l Z m_cold 8 0 0 [.ref 18] (shMon e0 e1 e2 e3 re) σ (fun w sh' σ' => w = none ∧ sh' = shMon e0 e1 e2 e3 re ∧ Cld σ σ' (t + 9)) := by
  refine fwC_of (ls := [some (.ref 18)]) (by decide +kernel) rfl (by rw [fw_sl1]; exact Nat.le_refl 1) ?_
  refine fwRun_ok k_cold_0_ok rfl trivial ?_
  refine fwg_callS (n := 2) (as := [.ref 9, .int 0]) (r := []) (ct_fillB (n := 65536) rfl (by decide)) ⟨by decide, by decide, by decide +kernel⟩ m_fillB_in c_cold_8 rfl rfl (Nat.le_of_ble_eq_true rfl) d_cold_8 ⟨Nat.le_of_ble_eq_true rfl, Nat.le_of_ble_eq_true rfl⟩ ⟨Nat.le_refl _, Nat.le_refl _⟩ (fun v sh' σ1 hq => ?_)
  obtain ⟨rfl, rfl, hs1⟩ := hq
  refine fwRun_ok k_cold_11_ok rfl trivial ?_
  refine fwg_callV (n := 0) (i := 8) (as := []) (r := []) ct_clearRegs ⟨by decide, by decide, by decide +kernel⟩ m_clearRegs_in c_cold_15 rfl rfl rfl rfl (Nat.le_of_ble_eq_true rfl) d_cold_15 ⟨Nat.le_of_ble_eq_true rfl, Nat.le_of_ble_eq_true rfl⟩ ⟨Nat.le_refl _, Nat.le_refl _⟩ (fun v sh' σ2 hq => ?_)
  obtain ⟨rfl, rfl, hs2⟩ := hq
  refine fwRun_ok k_cold_18_ok rfl (Or.inl rfl) ?_
  generalize hs3 : fwI (fwI (fwI (fwI (fwI (fwI (fwI (fwI σ2 8 7 0) 11 10 0) 11 11 0) 11 12 0) 18 5 0) 18 6 0) 18 7 1) 4 6 0 = σ3
  have m9 : ∀ j, j < 65536 → σ3.1 9 j = 0 := fun j hj => by
    rw [← hs3, fwI_ne (by decide), fwI_ne (by decide), fwI_ne (by decide), fwI_ne (by decide), fwI_ne (by decide), fwI_ne (by decide), fwI_ne (by decide), fwI_ne (by decide), hs2, fwI_ne (by decide), fwI_ne (by decide)]
    rw [fwA_ne (by decide), hs1, fwA_at]
    exact if_pos hj
  have m10 : ∀ j, j < 8 → σ3.1 10 j = 0 := fun j hj => by
    rw [← hs3, fwI_ne (by decide), fwI_ne (by decide), fwI_ne (by decide), fwI_ne (by decide), fwI_ne (by decide), fwI_ne (by decide), fwI_ne (by decide), fwI_ne (by decide), hs2, fwI_ne (by decide), fwI_ne (by decide), fwA_at]
    exact if_pos hj
  have m4 : ∀ b, b ≠ 6 → σ3.1 4 b = σ.1 4 b := fun b hb => by
    rw [← hs3, fwI_ne2 hb, fwI_ne (by decide), fwI_ne (by decide), fwI_ne (by decide), fwI_ne (by decide), fwI_ne (by decide), fwI_ne (by decide), fwI_ne (by decide), hs2, fwI_ne (by decide), fwI_ne (by decide)]
    rw [fwA_ne (by decide), hs1, fwA_ne (by decide)]
  have m46 : σ3.1 4 6 = 0 := by rw [← hs3, fwI_eq]
  have m8 : σ3.1 8 3 = 2 ∧ σ3.1 8 4 = 0 ∧ σ3.1 8 7 = 0 := by
    rw [← hs3, hs2]
    exact ⟨rfl, rfl, rfl⟩
  have m11 : σ3.1 11 11 = 0 ∧ σ3.1 11 12 = 0 := by
    rw [← hs3]
    exact ⟨rfl, rfl⟩
  have hS3 : fwSame [4, 8, 9, 10, 11, 18] σ σ3 := by
    rw [← hs3, hs2, hs1]
    exact (((((((((((fwSame_A (by decide)).tr (fwSame_A (by decide))).tr (fwSame_I (by decide))).tr (fwSame_I (by decide))).tr (fwSame_I (by decide))).tr (fwSame_I (by decide))).tr (fwSame_I (by decide))).tr (fwSame_I (by decide))).tr (fwSame_I (by decide))).tr (fwSame_I (by decide))).tr (fwSame_I (by decide))).tr (fwSame_I (by decide))
  have ml : ∀ a, σ3.2 a = σ.2 a := fun a => by rw [← hs3, hs2, hs1]; rfl
  clear hs1 hs2 hs3
  refine fwg_callV (n := 1) (i := 4) (as := [.retAddr 2]) (r := []) (ct_tellLine (c := 2) (t := t) (by decide) (by rw [m4 3 (by decide)]; exact h3) (by rw [m4 4 (by decide)]; exact h4) (by show t + 2 + 3 ≤ 8000; omega)) ⟨by decide, by decide, by decide +kernel⟩ m_tellLine_in c_cold_79 rfl rfl rfl rfl (Nat.le_of_ble_eq_true rfl) d_cold_79 ⟨Nat.le_of_ble_eq_true rfl, Nat.le_of_ble_eq_true rfl⟩ ⟨Nat.le_refl _, Nat.le_refl _⟩ (fun v sh' σ4 hq => ?_)
  obtain ⟨rfl, rfl, hT⟩ := hq
  have hT4 : σ4.1 4 4 = nI (t + 5) := hT.2.2.1
  refine fwRun_ok k_cold_82_ok rfl trivial ?_
  refine fwg_callV (n := 0) (i := 18) (as := []) (r := []) (ct_warm (t := t + 5) hT.2.1 hT4 (by omega) (by rw [hT.1.c (by decide)]; exact m11.1) (by rw [hT.1.c (by decide)]; exact m11.2) ⟨fun j hj => by rw [hT.1.c (by decide), hS3.c (by decide)]; exact hF.1 j hj, fun k hk => by rw [hT.1.c (by decide), hS3.c (by decide)]; exact hF.2 k hk⟩) ⟨by decide, by decide, by decide +kernel⟩ m_warm_in c_cold_83 rfl rfl rfl rfl (Nat.le_of_ble_eq_true rfl) d_cold_83 ⟨Nat.le_of_ble_eq_true rfl, Nat.le_of_ble_eq_true rfl⟩ ⟨Nat.le_refl _, Nat.le_refl _⟩ (fun v sh' σ5 hq => ?_)
  obtain ⟨rfl, rfl, q1, ⟨a3, a4, a5, a6, a7, a8, a9⟩, ⟨b5, bo, bl⟩, ⟨d8, d4⟩, hm, h11⟩ := hq
  refine fwg_vret rfl (Nat.le_refl _) (Nat.le_refl _) ⟨rfl, rfl, ?_⟩ d_cold_86
  refine ⟨((hS3.up (by decide)).tr (hT.1.up (by decide))).tr (q1.up (by decide)), ⟨a3, a4, ?_, ?_, a7, a8, a9⟩, ⟨?_, ?_, b5, ?_, ?_⟩, fun j hj => ?_, fun j hj => ?_, ⟨?_, ?_⟩, d8, d4⟩
  · rw [a5, hT.2.2.2.1 5 (by decide) (by decide)]; exact m4 5 (by decide)
  · rw [a6, hT.2.2.2.1 6 (by decide) (by decide)]; exact m46
  · rw [bo 3 (by decide), hT.1.c (by decide)]; exact m8.1
  · rw [bo 4 (by decide), hT.1.c (by decide)]; exact m8.2.1
  · rw [bo 7 (by decide), hT.1.c (by decide)]; exact m8.2.2
  · rw [bl, (hT.1 8 (by decide)).2]; exact ml 8
  · rw [hm]
    unfold memW
    rw [hT.1.c (by decide), m9 j hj]
  · rw [q1.c (by decide), hT.1.c (by decide)]; exact m10 j hj
  · rw [h11 11 (by decide) (by decide), hT.1.c (by decide)]; exact m11.1
  · rw [h11 12 (by decide) (by decide), hT.1.c (by decide)]; exact m11.2
end BOOT
end
section
/-! methods, their instructions, by program (wip/whole/methods.py) -/
/-- MonitorBoard$Console.<init>()V -/
abbrev m_iCon : fwM := (⟨"MonitorBoard$Console", "<init>", "()V"⟩, prog_4_method_1_code, 1, (none : Option FieldType))
theorem m_iCon_in : Cond.code m_iCon.1 m_iCon.2.1 m_iCon.2.2.1 m_iCon.2.2.2 ∈ fwT := fwT_mem (List.mem_of_getElem? (i := 313) (by decide +kernel)) rfl
def k_iCon_0 : List fwO := [(.aload_n 0, 0, 0, .null)]
theorem k_iCon_0_ok : fwChain m_iCon.1.cls m_iCon.2.1 0 k_iCon_0 1 = true := by decide +kernel
theorem d_iCon_1 : decode m_iCon.2.1 1 = .ok (.invokespecial 3, 3) := by decide +kernel
def k_iCon_4 : List fwO := [(.aload_n 0, 0, 0, .null), (.sipush 8000, 0, 0, .int 8000)]
theorem k_iCon_4_ok : fwChain m_iCon.1.cls m_iCon.2.1 4 k_iCon_4 8 = true := by decide +kernel
theorem d_iCon_8 : decode m_iCon.2.1 8 = .ok (.newarray .byte, 2) := by decide +kernel
theorem d_iCon_10 : decode m_iCon.2.1 10 = .ok (.putfield 9, 3) := by decide +kernel
def k_iCon_13 : List fwO := [(.aload_n 0, 0, 0, .null), (.sipush 2000, 0, 0, .int 2000)]
theorem k_iCon_13_ok : fwChain m_iCon.1.cls m_iCon.2.1 13 k_iCon_13 17 = true := by decide +kernel
theorem d_iCon_17 : decode m_iCon.2.1 17 = .ok (.newarray .byte, 2) := by decide +kernel
theorem d_iCon_19 : decode m_iCon.2.1 19 = .ok (.putfield 15, 3) := by decide +kernel
def k_iCon_22 : List fwO := [(.aload_n 0, 0, 0, .null), (.sipush 256, 0, 0, .int 256)]
theorem k_iCon_22_ok : fwChain m_iCon.1.cls m_iCon.2.1 22 k_iCon_22 26 = true := by decide +kernel
theorem d_iCon_26 : decode m_iCon.2.1 26 = .ok (.newarray .int, 2) := by decide +kernel
theorem d_iCon_28 : decode m_iCon.2.1 28 = .ok (.putfield 18, 3) := by decide +kernel
theorem d_iCon_31 : decode m_iCon.2.1 31 = .ok (.return_, 1) := by decide +kernel
/-- MonitorBoard$Processor.<init>(LMonitorBoard$Console;)V -/
abbrev m_iPro : fwM := (⟨"MonitorBoard$Processor", "<init>", "(LMonitorBoard$Console;)V"⟩, prog_9_method_1_code, 2, (none : Option FieldType))
theorem m_iPro_in : Cond.code m_iPro.1 m_iPro.2.1 m_iPro.2.2.1 m_iPro.2.2.2 ∈ fwT := fwT_mem (List.mem_of_getElem? (i := 360) (by decide +kernel)) rfl
def k_iPro_0 : List fwO := [(.aload_n 0, 0, 0, .null)]
theorem k_iPro_0_ok : fwChain m_iPro.1.cls m_iPro.2.1 0 k_iPro_0 1 = true := by decide +kernel
theorem d_iPro_1 : decode m_iPro.2.1 1 = .ok (.invokespecial 3, 3) := by decide +kernel
def k_iPro_4 : List fwO := [(.aload_n 0, 0, 0, .null), (.ldc 9, 1, 0, .int 65536)]
theorem k_iPro_4_ok : fwChain m_iPro.1.cls m_iPro.2.1 4 k_iPro_4 7 = true := by decide +kernel
theorem d_iPro_7 : decode m_iPro.2.1 7 = .ok (.newarray .byte, 2) := by decide +kernel
theorem d_iPro_9 : decode m_iPro.2.1 9 = .ok (.putfield 10, 3) := by decide +kernel
def k_iPro_12 : List fwO := [(.aload_n 0, 0, 0, .null), (.bipush 8, 0, 0, .int 8)]
theorem k_iPro_12_ok : fwChain m_iPro.1.cls m_iPro.2.1 12 k_iPro_12 15 = true := by decide +kernel
theorem d_iPro_15 : decode m_iPro.2.1 15 = .ok (.newarray .int, 2) := by decide +kernel
theorem d_iPro_17 : decode m_iPro.2.1 17 = .ok (.putfield 16, 3) := by decide +kernel
def k_iPro_20 : List fwO := [(.aload_n 0, 0, 0, .null), (.iconst 2, 0, 0, .int 2), (.putfield 20, 8, 3, .retAddr 26), (.aload_n 0, 0, 0, .null), (.aload_n 1, 0, 0, .null)]
theorem k_iPro_20_ok : fwChain m_iPro.1.cls m_iPro.2.1 20 k_iPro_20 27 = true := by decide +kernel
theorem d_iPro_27 : decode m_iPro.2.1 27 = .ok (.putfield 24, 3) := by decide +kernel
theorem d_iPro_30 : decode m_iPro.2.1 30 = .ok (.return_, 1) := by decide +kernel
/-- MonitorBoard$Files.sectorOf(I)I -/
abbrev m_sectorOf : fwM := (⟨"MonitorBoard$Files", "sectorOf", "(I)I"⟩, prog_5_method_2_code, 1, (some FieldType.int))
theorem m_sectorOf_in : Cond.code m_sectorOf.1 m_sectorOf.2.1 m_sectorOf.2.2.1 m_sectorOf.2.2.2 ∈ fwT := fwT_mem (List.mem_of_getElem? (i := 416) (by decide +kernel)) rfl
def k_sectorOf_0 : List fwO := [(.iconst 1, 0, 0, .int 1), (.bipush 6, 0, 0, .int 6), (.iload_n 0, 0, 0, .null), (.imul, 0, 0, .null), (.iload_n 0, 0, 0, .null), (.bipush 13, 0, 0, .int 13), (.idiv, 0, 0, .null), (.iadd, 0, 0, .null), (.bipush 26, 0, 0, .int 26), (.irem, 0, 0, .null), (.iadd, 0, 0, .null)]
theorem k_sectorOf_0_ok : fwChain m_sectorOf.1.cls m_sectorOf.2.1 0 k_sectorOf_0 14 = true := by decide +kernel
theorem d_sectorOf_14 : decode m_sectorOf.2.1 14 = .ok (.ireturn, 1) := by decide +kernel
/-- MonitorBoard$Files.sectorPlace(III)I -/
abbrev m_sectorPlace : fwM := (⟨"MonitorBoard$Files", "sectorPlace", "(III)I"⟩, prog_5_method_4_code, 3, (some FieldType.int))
theorem m_sectorPlace_in : Cond.code m_sectorPlace.1 m_sectorPlace.2.1 m_sectorPlace.2.2.1 m_sectorPlace.2.2.2 ∈ fwT := fwT_mem (List.mem_of_getElem? (i := 419) (by decide +kernel)) rfl
def k_sectorPlace_0 : List fwO := [(.iload_n 0, 0, 0, .null), (.ldc 47, 3, 0, .int 256256), (.imul, 0, 0, .null), (.iload_n 1, 0, 0, .null), (.bipush 26, 0, 0, .int 26), (.imul, 0, 0, .null), (.iload_n 2, 0, 0, .null), (.iadd, 0, 0, .null), (.iconst 1, 0, 0, .int 1), (.isub, 0, 0, .null), (.sipush 128, 0, 0, .int 128), (.imul, 0, 0, .null), (.iadd, 0, 0, .null)]
theorem k_sectorPlace_0_ok : fwChain m_sectorPlace.1.cls m_sectorPlace.2.1 0 k_sectorPlace_0 17 = true := by decide +kernel
theorem d_sectorPlace_17 : decode m_sectorPlace.2.1 17 = .ok (.ireturn, 1) := by decide +kernel
/-- MonitorBoard$Files.<init>()V -/
abbrev m_iFil : fwM := (⟨"MonitorBoard$Files", "<init>", "()V"⟩, prog_5_method_1_code, 2, (none : Option FieldType))
theorem m_iFil_in : Cond.code m_iFil.1 m_iFil.2.1 m_iFil.2.2.1 m_iFil.2.2.2 ∈ fwT := fwT_mem (List.mem_of_getElem? (i := 408) (by decide +kernel)) rfl
def k_iFil_0 : List fwO := [(.aload_n 0, 0, 0, .null)]
theorem k_iFil_0_ok : fwChain m_iFil.1.cls m_iFil.2.1 0 k_iFil_0 1 = true := by decide +kernel
theorem d_iFil_1 : decode m_iFil.2.1 1 = .ok (.invokespecial 3, 3) := by decide +kernel
def k_iFil_4 : List fwO := [(.aload_n 0, 0, 0, .null), (.ldc 9, 2, 0, .int 512512)]
theorem k_iFil_4_ok : fwChain m_iFil.1.cls m_iFil.2.1 4 k_iFil_4 7 = true := by decide +kernel
theorem d_iFil_7 : decode m_iFil.2.1 7 = .ok (.newarray .byte, 2) := by decide +kernel
theorem d_iFil_9 : decode m_iFil.2.1 9 = .ok (.putfield 10, 3) := by decide +kernel
def k_iFil_12 : List fwO := [(.aload_n 0, 0, 0, .null), (.sipush 1944, 0, 0, .int 1944)]
theorem k_iFil_12_ok : fwChain m_iFil.1.cls m_iFil.2.1 12 k_iFil_12 16 = true := by decide +kernel
theorem d_iFil_16 : decode m_iFil.2.1 16 = .ok (.newarray .int, 2) := by decide +kernel
theorem d_iFil_18 : decode m_iFil.2.1 18 = .ok (.putfield 16, 3) := by decide +kernel
def k_iFil_21 : List fwO := [(.aload_n 0, 0, 0, .null), (.sipush 486, 0, 0, .int 486)]
theorem k_iFil_21_ok : fwChain m_iFil.1.cls m_iFil.2.1 21 k_iFil_21 25 = true := by decide +kernel
theorem d_iFil_25 : decode m_iFil.2.1 25 = .ok (.newarray .boolean, 2) := by decide +kernel
theorem d_iFil_27 : decode m_iFil.2.1 27 = .ok (.putfield 20, 3) := by decide +kernel
def k_iFil_30 : List fwO := [(.aload_n 0, 0, 0, .null), (.bipush 36, 0, 0, .int 36)]
theorem k_iFil_30_ok : fwChain m_iFil.1.cls m_iFil.2.1 30 k_iFil_30 33 = true := by decide +kernel
theorem d_iFil_33 : decode m_iFil.2.1 33 = .ok (.newarray .int, 2) := by decide +kernel
theorem d_iFil_35 : decode m_iFil.2.1 35 = .ok (.putfield 24, 3) := by decide +kernel
def k_iFil_38 : List fwO := [(.aload_n 0, 0, 0, .null), (.sipush 128, 0, 0, .int 128)]
theorem k_iFil_38_ok : fwChain m_iFil.1.cls m_iFil.2.1 38 k_iFil_38 42 = true := by decide +kernel
theorem d_iFil_42 : decode m_iFil.2.1 42 = .ok (.newarray .byte, 2) := by decide +kernel
theorem d_iFil_44 : decode m_iFil.2.1 44 = .ok (.putfield 27, 3) := by decide +kernel
def k_iFil_47 : List fwO := [(.aload_n 0, 0, 0, .null), (.bipush 36, 0, 0, .int 36)]
theorem k_iFil_47_ok : fwChain m_iFil.1.cls m_iFil.2.1 47 k_iFil_47 50 = true := by decide +kernel
theorem d_iFil_50 : decode m_iFil.2.1 50 = .ok (.newarray .int, 2) := by decide +kernel
theorem d_iFil_52 : decode m_iFil.2.1 52 = .ok (.putfield 30, 3) := by decide +kernel
def k_iFil_55 : List fwO := [(.aload_n 0, 0, 0, .null), (.getfield 10, 4, 0, .retAddr 42), (.bipush (-27), 0, 0, .int (-27))]
theorem k_iFil_55_ok : fwChain m_iFil.1.cls m_iFil.2.1 55 k_iFil_55 61 = true := by decide +kernel
theorem d_iFil_61 : decode m_iFil.2.1 61 = .ok (.invokestatic 33, 3) := by decide +kernel
def k_iFil_64 : List fwO := [(.iconst 0, 0, 0, .int 0), (.istore_n 1, 0, 0, .null)]
theorem k_iFil_64_ok : fwChain m_iFil.1.cls m_iFil.2.1 64 k_iFil_64 66 = true := by decide +kernel
def k_iFil_66 : List fwO := [(.iload_n 1, 0, 0, .null), (.aload_n 0, 0, 0, .null), (.getfield 16, 4, 1, .retAddr 47), (.arraylength, 0, 0, .null)]
theorem k_iFil_66_ok : fwChain m_iFil.1.cls m_iFil.2.1 66 k_iFil_66 72 = true := by decide +kernel
theorem d_iFil_72 : decode m_iFil.2.1 72 = .ok (.if_icmp .ge 32, 3) := by decide +kernel
def k_iFil_75 : List fwO := [(.aload_n 0, 0, 0, .null), (.getfield 16, 4, 1, .retAddr 47), (.iload_n 1, 0, 0, .null), (.iconst 0, 0, 0, .int 0), (.iconst 2, 0, 0, .int 2), (.iload_n 1, 0, 0, .null), (.bipush 26, 0, 0, .int 26), (.idiv, 0, 0, .null), (.iadd, 0, 0, .null), (.iload_n 1, 0, 0, .null), (.bipush 26, 0, 0, .int 26), (.irem, 0, 0, .null)]
theorem k_iFil_75_ok : fwChain m_iFil.1.cls m_iFil.2.1 75 k_iFil_75 91 = true := by decide +kernel
theorem d_iFil_91 : decode m_iFil.2.1 91 = .ok (.invokestatic 39, 3) := by decide +kernel
theorem d_iFil_94 : decode m_iFil.2.1 94 = .ok (.invokestatic 43, 3) := by decide +kernel
def k_iFil_97 : List fwO := [(.iastore, 0, 0, .null), (.iinc 1 1, 0, 0, .int 1)]
theorem k_iFil_97_ok : fwChain m_iFil.1.cls m_iFil.2.1 97 k_iFil_97 101 = true := by decide +kernel
theorem d_iFil_101 : decode m_iFil.2.1 101 = .ok (.goto (-35), 3) := by decide +kernel
theorem d_iFil_104 : decode m_iFil.2.1 104 = .ok (.return_, 1) := by decide +kernel
/-- MonitorBoard$Monitor.<init>(LMonitorBoard$Processor;LMonitorBoard$Console;LMonitorBoard$Files;)V -/
abbrev m_iMon : fwM := (⟨"MonitorBoard$Monitor", "<init>", "(LMonitorBoard$Processor;LMonitorBoard$Console;LMonitorBoard$Files;)V"⟩, prog_8_method_1_code, 4, (none : Option FieldType))
theorem m_iMon_in : Cond.code m_iMon.1 m_iMon.2.1 m_iMon.2.2.1 m_iMon.2.2.2 ∈ fwT := fwT_mem (List.mem_of_getElem? (i := 492) (by decide +kernel)) rfl
def k_iMon_0 : List fwO := [(.aload_n 0, 0, 0, .null)]
theorem k_iMon_0_ok : fwChain m_iMon.1.cls m_iMon.2.1 0 k_iMon_0 1 = true := by decide +kernel
theorem d_iMon_1 : decode m_iMon.2.1 1 = .ok (.invokespecial 5, 3) := by decide +kernel
def k_iMon_4 : List fwO := [(.aload_n 0, 0, 0, .null), (.bipush 36, 0, 0, .int 36)]
theorem k_iMon_4_ok : fwChain m_iMon.1.cls m_iMon.2.1 4 k_iMon_4 7 = true := by decide +kernel
theorem d_iMon_7 : decode m_iMon.2.1 7 = .ok (.newarray .int, 2) := by decide +kernel
theorem d_iMon_9 : decode m_iMon.2.1 9 = .ok (.putfield 11, 3) := by decide +kernel
def k_iMon_12 : List fwO := [(.aload_n 0, 0, 0, .null), (.aload_n 1, 0, 0, .null)]
theorem k_iMon_12_ok : fwChain m_iMon.1.cls m_iMon.2.1 12 k_iMon_12 14 = true := by decide +kernel
theorem d_iMon_14 : decode m_iMon.2.1 14 = .ok (.putfield 15, 3) := by decide +kernel
def k_iMon_17 : List fwO := [(.aload_n 0, 0, 0, .null), (.aload_n 2, 0, 0, .null)]
theorem k_iMon_17_ok : fwChain m_iMon.1.cls m_iMon.2.1 17 k_iMon_17 19 = true := by decide +kernel
theorem d_iMon_19 : decode m_iMon.2.1 19 = .ok (.putfield 19, 3) := by decide +kernel
def k_iMon_22 : List fwO := [(.aload_n 0, 0, 0, .null), (.aload_n 3, 0, 0, .null)]
theorem k_iMon_22_ok : fwChain m_iMon.1.cls m_iMon.2.1 22 k_iMon_22 24 = true := by decide +kernel
theorem d_iMon_24 : decode m_iMon.2.1 24 = .ok (.putfield 23, 3) := by decide +kernel
theorem d_iMon_27 : decode m_iMon.2.1 27 = .ok (.return_, 1) := by decide +kernel
/-- MonitorBoard$HexText.<init>()V -/
abbrev m_iHex : fwM := (⟨"MonitorBoard$HexText", "<init>", "()V"⟩, prog_6_method_1_code, 1, (none : Option FieldType))
theorem m_iHex_in : Cond.code m_iHex.1 m_iHex.2.1 m_iHex.2.2.1 m_iHex.2.2.2 ∈ fwT := fwT_mem (List.mem_of_getElem? (i := 539) (by decide +kernel)) rfl
def k_iHex_0 : List fwO := [(.aload_n 0, 0, 0, .null)]
theorem k_iHex_0_ok : fwChain m_iHex.1.cls m_iHex.2.1 0 k_iHex_0 1 = true := by decide +kernel
theorem d_iHex_1 : decode m_iHex.2.1 1 = .ok (.invokespecial 3, 3) := by decide +kernel
def k_iHex_4 : List fwO := [(.aload_n 0, 0, 0, .null), (.ldc 9, 4, 0, .int 58112)]
theorem k_iHex_4_ok : fwChain m_iHex.1.cls m_iHex.2.1 4 k_iHex_4 7 = true := by decide +kernel
theorem d_iHex_7 : decode m_iHex.2.1 7 = .ok (.newarray .byte, 2) := by decide +kernel
theorem d_iHex_9 : decode m_iHex.2.1 9 = .ok (.putfield 10, 3) := by decide +kernel
theorem d_iHex_12 : decode m_iHex.2.1 12 = .ok (.return_, 1) := by decide +kernel
/-- MonitorBoard$Reader.<init>(LMonitorBoard$Files;)V -/
abbrev m_iRea : fwM := (⟨"MonitorBoard$Reader", "<init>", "(LMonitorBoard$Files;)V"⟩, prog_10_method_1_code, 2, (none : Option FieldType))
theorem m_iRea_in : Cond.code m_iRea.1 m_iRea.2.1 m_iRea.2.2.1 m_iRea.2.2.2 ∈ fwT := fwT_mem (List.mem_of_getElem? (i := 631) (by decide +kernel)) rfl
def k_iRea_0 : List fwO := [(.aload_n 0, 0, 0, .null)]
theorem k_iRea_0_ok : fwChain m_iRea.1.cls m_iRea.2.1 0 k_iRea_0 1 = true := by decide +kernel
theorem d_iRea_1 : decode m_iRea.2.1 1 = .ok (.invokespecial 3, 3) := by decide +kernel
def k_iRea_4 : List fwO := [(.aload_n 0, 0, 0, .null), (.bipush 36, 0, 0, .int 36)]
theorem k_iRea_4_ok : fwChain m_iRea.1.cls m_iRea.2.1 4 k_iRea_4 7 = true := by decide +kernel
theorem d_iRea_7 : decode m_iRea.2.1 7 = .ok (.newarray .int, 2) := by decide +kernel
theorem d_iRea_9 : decode m_iRea.2.1 9 = .ok (.putfield 9, 3) := by decide +kernel
def k_iRea_12 : List fwO := [(.aload_n 0, 0, 0, .null), (.sipush 128, 0, 0, .int 128)]
theorem k_iRea_12_ok : fwChain m_iRea.1.cls m_iRea.2.1 12 k_iRea_12 16 = true := by decide +kernel
theorem d_iRea_16 : decode m_iRea.2.1 16 = .ok (.newarray .byte, 2) := by decide +kernel
theorem d_iRea_18 : decode m_iRea.2.1 18 = .ok (.putfield 15, 3) := by decide +kernel
def k_iRea_21 : List fwO := [(.aload_n 0, 0, 0, .null), (.aload_n 1, 0, 0, .null)]
theorem k_iRea_21_ok : fwChain m_iRea.1.cls m_iRea.2.1 21 k_iRea_21 23 = true := by decide +kernel
theorem d_iRea_23 : decode m_iRea.2.1 23 = .ok (.putfield 19, 3) := by decide +kernel
theorem d_iRea_26 : decode m_iRea.2.1 26 = .ok (.return_, 1) := by decide +kernel
/-- MonitorBoard.packed(JI)J -/
abbrev m_packed : fwM := (⟨"MonitorBoard", "packed", "(JI)J"⟩, prog_1_method_24_code, 3, (some FieldType.long))
theorem m_packed_in : Cond.code m_packed.1 m_packed.2.1 m_packed.2.2.1 m_packed.2.2.2 ∈ fwT := fwT_mem (List.mem_of_getElem? (i := 625) (by decide +kernel)) rfl
def k_packed_0 : List fwO := [(.lload_n 0, 0, 0, .null), (.ldc2_w 230, 0, 0, .long 128), (.lmul, 0, 0, .null), (.iload_n 2, 0, 0, .null), (.i2l, 0, 0, .null), (.ladd, 0, 0, .null)]
theorem k_packed_0_ok : fwChain m_packed.1.cls m_packed.2.1 0 k_packed_0 8 = true := by decide +kernel
theorem d_packed_8 : decode m_packed.2.1 8 = .ok (.lreturn, 1) := by decide +kernel
/-- MonitorBoard.packedWords(Ljava/lang/String;I)[J -/
abbrev m_packedWords : fwM := (⟨"MonitorBoard", "packedWords", "(Ljava/lang/String;I)[J"⟩, prog_1_method_25_code, 7, (some (FieldType.array FieldType.long)))
theorem m_packedWords_in : Cond.code m_packedWords.1 m_packedWords.2.1 m_packedWords.2.2.1 m_packedWords.2.2.2 ∈ fwT := fwT_mem (List.mem_of_getElem? (i := 574) (by decide +kernel)) rfl
def k_packedWords_0 : List fwO := [(.iload_n 1, 0, 0, .null)]
theorem k_packedWords_0_ok : fwChain m_packedWords.1.cls m_packedWords.2.1 0 k_packedWords_0 1 = true := by decide +kernel
theorem d_packedWords_1 : decode m_packedWords.2.1 1 = .ok (.newarray .long, 2) := by decide +kernel
def k_packedWords_3 : List fwO := [(.astore_n 2, 0, 0, .null), (.iconst 0, 0, 0, .int 0), (.istore_n 3, 0, 0, .null), (.lconst 1, 0, 0, .long 1), (.lstore 4, 0, 0, .null), (.iconst 0, 0, 0, .int 0), (.istore 6, 0, 0, .null)]
theorem k_packedWords_3_ok : fwChain m_packedWords.1.cls m_packedWords.2.1 3 k_packedWords_3 12 = true := by decide +kernel
def k_packedWords_12 : List fwO := [(.iload 6, 0, 0, .null), (.aload_n 0, 0, 0, .null)]
theorem k_packedWords_12_ok : fwChain m_packedWords.1.cls m_packedWords.2.1 12 k_packedWords_12 15 = true := by decide +kernel
theorem d_packedWords_15 : decode m_packedWords.2.1 15 = .ok (.invokevirtual 226, 3) := by decide +kernel
theorem d_packedWords_18 : decode m_packedWords.2.1 18 = .ok (.if_icmp .gt 61, 3) := by decide +kernel
def k_packedWords_21 : List fwO := [(.iload_n 3, 0, 0, .null), (.iload_n 1, 0, 0, .null)]
theorem k_packedWords_21_ok : fwChain m_packedWords.1.cls m_packedWords.2.1 21 k_packedWords_21 23 = true := by decide +kernel
theorem d_packedWords_23 : decode m_packedWords.2.1 23 = .ok (.if_icmp .ge 56, 3) := by decide +kernel
def k_packedWords_26 : List fwO := [(.iload 6, 0, 0, .null), (.aload_n 0, 0, 0, .null)]
theorem k_packedWords_26_ok : fwChain m_packedWords.1.cls m_packedWords.2.1 26 k_packedWords_26 29 = true := by decide +kernel
theorem d_packedWords_29 : decode m_packedWords.2.1 29 = .ok (.invokevirtual 226, 3) := by decide +kernel
theorem d_packedWords_32 : decode m_packedWords.2.1 32 = .ok (.if_icmp .eq 14, 3) := by decide +kernel
def k_packedWords_35 : List fwO := [(.aload_n 0, 0, 0, .null), (.iload 6, 0, 0, .null)]
theorem k_packedWords_35_ok : fwChain m_packedWords.1.cls m_packedWords.2.1 35 k_packedWords_35 38 = true := by decide +kernel
theorem d_packedWords_38 : decode m_packedWords.2.1 38 = .ok (.invokevirtual 217, 3) := by decide +kernel
def k_packedWords_41 : List fwO := [(.bipush 32, 0, 0, .int 32)]
theorem k_packedWords_41_ok : fwChain m_packedWords.1.cls m_packedWords.2.1 41 k_packedWords_41 43 = true := by decide +kernel
theorem d_packedWords_43 : decode m_packedWords.2.1 43 = .ok (.if_icmp .ne 17, 3) := by decide +kernel
def k_packedWords_46 : List fwO := [(.aload_n 2, 0, 0, .null), (.iload_n 3, 0, 0, .null), (.lload 4, 0, 0, .null), (.lastore, 0, 0, .null), (.iinc 3 1, 0, 0, .int 1), (.lconst 1, 0, 0, .long 1), (.lstore 4, 0, 0, .null)]
theorem k_packedWords_46_ok : fwChain m_packedWords.1.cls m_packedWords.2.1 46 k_packedWords_46 57 = true := by decide +kernel
theorem d_packedWords_57 : decode m_packedWords.2.1 57 = .ok (.goto 16, 3) := by decide +kernel
def k_packedWords_60 : List fwO := [(.lload 4, 0, 0, .null), (.aload_n 0, 0, 0, .null), (.iload 6, 0, 0, .null)]
theorem k_packedWords_60_ok : fwChain m_packedWords.1.cls m_packedWords.2.1 60 k_packedWords_60 65 = true := by decide +kernel
theorem d_packedWords_65 : decode m_packedWords.2.1 65 = .ok (.invokevirtual 217, 3) := by decide +kernel
theorem d_packedWords_68 : decode m_packedWords.2.1 68 = .ok (.invokestatic 232, 3) := by decide +kernel
def k_packedWords_71 : List fwO := [(.lstore 4, 0, 0, .null)]
theorem k_packedWords_71_ok : fwChain m_packedWords.1.cls m_packedWords.2.1 71 k_packedWords_71 73 = true := by decide +kernel
def k_packedWords_73 : List fwO := [(.iinc 6 1, 0, 0, .int 1)]
theorem k_packedWords_73_ok : fwChain m_packedWords.1.cls m_packedWords.2.1 73 k_packedWords_73 76 = true := by decide +kernel
theorem d_packedWords_76 : decode m_packedWords.2.1 76 = .ok (.goto (-64), 3) := by decide +kernel
def k_packedWords_79 : List fwO := [(.aload_n 2, 0, 0, .null)]
theorem k_packedWords_79_ok : fwChain m_packedWords.1.cls m_packedWords.2.1 79 k_packedWords_79 80 = true := by decide +kernel
theorem d_packedWords_80 : decode m_packedWords.2.1 80 = .ok (.areturn, 1) := by decide +kernel
/-- MonitorBoard$Shell.<init>(LMonitorBoard$Monitor;)V -/
abbrev m_iShe : fwM := (⟨"MonitorBoard$Shell", "<init>", "(LMonitorBoard$Monitor;)V"⟩, prog_11_method_1_code, 2, (none : Option FieldType))
theorem m_iShe_in : Cond.code m_iShe.1 m_iShe.2.1 m_iShe.2.2.1 m_iShe.2.2.2 ∈ fwT := fwT_mem (List.mem_of_getElem? (i := 533) (by decide +kernel)) rfl
def k_iShe_0 : List fwO := [(.aload_n 0, 0, 0, .null)]
theorem k_iShe_0_ok : fwChain m_iShe.1.cls m_iShe.2.1 0 k_iShe_0 1 = true := by decide +kernel
theorem d_iShe_1 : decode m_iShe.2.1 1 = .ok (.invokespecial 3, 3) := by decide +kernel
def k_iShe_4 : List fwO := [(.aload_n 0, 0, 0, .null)]
theorem k_iShe_4_ok : fwChain m_iShe.1.cls m_iShe.2.1 4 k_iShe_4 5 = true := by decide +kernel
theorem d_iShe_5 : decode m_iShe.2.1 5 = .ok (.new 9, 3) := by decide +kernel
def k_iShe_8 : List fwO := [(.dup, 0, 0, .null)]
theorem k_iShe_8_ok : fwChain m_iShe.1.cls m_iShe.2.1 8 k_iShe_8 9 = true := by decide +kernel
theorem d_iShe_9 : decode m_iShe.2.1 9 = .ok (.invokespecial 11, 3) := by decide +kernel
theorem d_iShe_12 : decode m_iShe.2.1 12 = .ok (.putfield 12, 3) := by decide +kernel
def k_iShe_15 : List fwO := [(.aload_n 0, 0, 0, .null), (.ldc 18, 0, 0, .retAddr 0), (.bipush 10, 0, 0, .int 10)]
theorem k_iShe_15_ok : fwChain m_iShe.1.cls m_iShe.2.1 15 k_iShe_15 20 = true := by decide +kernel
theorem d_iShe_20 : decode m_iShe.2.1 20 = .ok (.invokestatic 20, 3) := by decide +kernel
theorem d_iShe_23 : decode m_iShe.2.1 23 = .ok (.putfield 24, 3) := by decide +kernel
def k_iShe_26 : List fwO := [(.aload_n 0, 0, 0, .null), (.bipush 127, 0, 0, .int 127)]
theorem k_iShe_26_ok : fwChain m_iShe.1.cls m_iShe.2.1 26 k_iShe_26 29 = true := by decide +kernel
theorem d_iShe_29 : decode m_iShe.2.1 29 = .ok (.newarray .int, 2) := by decide +kernel
theorem d_iShe_31 : decode m_iShe.2.1 31 = .ok (.putfield 28, 3) := by decide +kernel
def k_iShe_34 : List fwO := [(.aload_n 0, 0, 0, .null), (.iconst 2, 0, 0, .int 2)]
theorem k_iShe_34_ok : fwChain m_iShe.1.cls m_iShe.2.1 34 k_iShe_34 36 = true := by decide +kernel
theorem d_iShe_36 : decode m_iShe.2.1 36 = .ok (.newarray .int, 2) := by decide +kernel
theorem d_iShe_38 : decode m_iShe.2.1 38 = .ok (.putfield 32, 3) := by decide +kernel
def k_iShe_41 : List fwO := [(.aload_n 0, 0, 0, .null), (.iconst 2, 0, 0, .int 2)]
theorem k_iShe_41_ok : fwChain m_iShe.1.cls m_iShe.2.1 41 k_iShe_41 43 = true := by decide +kernel
theorem d_iShe_43 : decode m_iShe.2.1 43 = .ok (.newarray .int, 2) := by decide +kernel
theorem d_iShe_45 : decode m_iShe.2.1 45 = .ok (.putfield 35, 3) := by decide +kernel
def k_iShe_48 : List fwO := [(.aload_n 0, 0, 0, .null), (.bipush 36, 0, 0, .int 36)]
theorem k_iShe_48_ok : fwChain m_iShe.1.cls m_iShe.2.1 48 k_iShe_48 51 = true := by decide +kernel
theorem d_iShe_51 : decode m_iShe.2.1 51 = .ok (.newarray .int, 2) := by decide +kernel
theorem d_iShe_53 : decode m_iShe.2.1 53 = .ok (.putfield 38, 3) := by decide +kernel
def k_iShe_56 : List fwO := [(.aload_n 0, 0, 0, .null), (.bipush 36, 0, 0, .int 36)]
theorem k_iShe_56_ok : fwChain m_iShe.1.cls m_iShe.2.1 56 k_iShe_56 59 = true := by decide +kernel
theorem d_iShe_59 : decode m_iShe.2.1 59 = .ok (.newarray .int, 2) := by decide +kernel
theorem d_iShe_61 : decode m_iShe.2.1 61 = .ok (.putfield 41, 3) := by decide +kernel
def k_iShe_64 : List fwO := [(.aload_n 0, 0, 0, .null), (.aload_n 1, 0, 0, .null)]
theorem k_iShe_64_ok : fwChain m_iShe.1.cls m_iShe.2.1 64 k_iShe_64 66 = true := by decide +kernel
theorem d_iShe_66 : decode m_iShe.2.1 66 = .ok (.putfield 44, 3) := by decide +kernel
def k_iShe_69 : List fwO := [(.aload_n 0, 0, 0, .null), (.aload_n 1, 0, 0, .null), (.getfield 48, 7, 0, .retAddr 78)]
theorem k_iShe_69_ok : fwChain m_iShe.1.cls m_iShe.2.1 69 k_iShe_69 74 = true := by decide +kernel
theorem d_iShe_74 : decode m_iShe.2.1 74 = .ok (.putfield 54, 3) := by decide +kernel
def k_iShe_77 : List fwO := [(.aload_n 0, 0, 0, .null), (.aload_n 1, 0, 0, .null), (.getfield 55, 7, 1, .retAddr 80)]
theorem k_iShe_77_ok : fwChain m_iShe.1.cls m_iShe.2.1 77 k_iShe_77 82 = true := by decide +kernel
theorem d_iShe_82 : decode m_iShe.2.1 82 = .ok (.putfield 59, 3) := by decide +kernel
def k_iShe_85 : List fwO := [(.aload_n 0, 0, 0, .null), (.aload_n 1, 0, 0, .null), (.getfield 60, 7, 2, .retAddr 82)]
theorem k_iShe_85_ok : fwChain m_iShe.1.cls m_iShe.2.1 85 k_iShe_85 90 = true := by decide +kernel
theorem d_iShe_90 : decode m_iShe.2.1 90 = .ok (.putfield 64, 3) := by decide +kernel
def k_iShe_93 : List fwO := [(.aload_n 0, 0, 0, .null)]
theorem k_iShe_93_ok : fwChain m_iShe.1.cls m_iShe.2.1 93 k_iShe_93 94 = true := by decide +kernel
theorem d_iShe_94 : decode m_iShe.2.1 94 = .ok (.new 65, 3) := by decide +kernel
def k_iShe_97 : List fwO := [(.dup, 0, 0, .null), (.aload_n 0, 0, 0, .null), (.getfield 64, 10, 3, .retAddr 115)]
theorem k_iShe_97_ok : fwChain m_iShe.1.cls m_iShe.2.1 97 k_iShe_97 102 = true := by decide +kernel
theorem d_iShe_102 : decode m_iShe.2.1 102 = .ok (.invokespecial 67, 3) := by decide +kernel
theorem d_iShe_105 : decode m_iShe.2.1 105 = .ok (.putfield 70, 3) := by decide +kernel
theorem d_iShe_108 : decode m_iShe.2.1 108 = .ok (.return_, 1) := by decide +kernel
/-- MonitorBoard.capital(I)I -/
abbrev m_capital : fwM := (⟨"MonitorBoard", "capital", "(I)I"⟩, prog_1_method_27_code, 1, (some FieldType.int))
theorem m_capital_in : Cond.code m_capital.1 m_capital.2.1 m_capital.2.2.1 m_capital.2.2.2 ∈ fwT := fwT_mem (List.mem_of_getElem? (i := 728) (by decide +kernel)) rfl
def k_capital_0 : List fwO := [(.iload_n 0, 0, 0, .null), (.bipush 97, 0, 0, .int 97)]
theorem k_capital_0_ok : fwChain m_capital.1.cls m_capital.2.1 0 k_capital_0 3 = true := by decide +kernel
theorem d_capital_3 : decode m_capital.2.1 3 = .ok (.if_icmp .lt 16, 3) := by decide +kernel
def k_capital_6 : List fwO := [(.iload_n 0, 0, 0, .null), (.bipush 122, 0, 0, .int 122)]
theorem k_capital_6_ok : fwChain m_capital.1.cls m_capital.2.1 6 k_capital_6 9 = true := by decide +kernel
theorem d_capital_9 : decode m_capital.2.1 9 = .ok (.if_icmp .gt 10, 3) := by decide +kernel
def k_capital_12 : List fwO := [(.iload_n 0, 0, 0, .null), (.bipush 32, 0, 0, .int 32), (.isub, 0, 0, .null)]
theorem k_capital_12_ok : fwChain m_capital.1.cls m_capital.2.1 12 k_capital_12 16 = true := by decide +kernel
theorem d_capital_16 : decode m_capital.2.1 16 = .ok (.goto 4, 3) := by decide +kernel
def k_capital_19 : List fwO := [(.iload_n 0, 0, 0, .null)]
theorem k_capital_19_ok : fwChain m_capital.1.cls m_capital.2.1 19 k_capital_19 20 = true := by decide +kernel
theorem d_capital_20 : decode m_capital.2.1 20 = .ok (.ireturn, 1) := by decide +kernel
/-- MonitorBoard$Assembler.<init>([B[B)V -/
abbrev m_iAsm : fwM := (⟨"MonitorBoard$Assembler", "<init>", "([B[B)V"⟩, prog_2_method_1_code, 5, (none : Option FieldType))
theorem m_iAsm_in : Cond.code m_iAsm.1 m_iAsm.2.1 m_iAsm.2.2.1 m_iAsm.2.2.2 ∈ fwT := fwT_mem (List.mem_of_getElem? (i := 722) (by decide +kernel)) rfl
def k_iAsm_0 : List fwO := [(.aload_n 0, 0, 0, .null)]
theorem k_iAsm_0_ok : fwChain m_iAsm.1.cls m_iAsm.2.1 0 k_iAsm_0 1 = true := by decide +kernel
theorem d_iAsm_1 : decode m_iAsm.2.1 1 = .ok (.invokespecial 3, 3) := by decide +kernel
def k_iAsm_4 : List fwO := [(.aload_n 0, 0, 0, .null), (.ldc 11, 1, 0, .retAddr 1), (.bipush 84, 0, 0, .int 84)]
theorem k_iAsm_4_ok : fwChain m_iAsm.1.cls m_iAsm.2.1 4 k_iAsm_4 9 = true := by decide +kernel
theorem d_iAsm_9 : decode m_iAsm.2.1 9 = .ok (.invokestatic 13, 3) := by decide +kernel
theorem d_iAsm_12 : decode m_iAsm.2.1 12 = .ok (.putfield 17, 3) := by decide +kernel
def k_iAsm_15 : List fwO := [(.aload_n 0, 0, 0, .null), (.sipush 256, 0, 0, .int 256)]
theorem k_iAsm_15_ok : fwChain m_iAsm.1.cls m_iAsm.2.1 15 k_iAsm_15 19 = true := by decide +kernel
theorem d_iAsm_19 : decode m_iAsm.2.1 19 = .ok (.newarray .int, 2) := by decide +kernel
theorem d_iAsm_21 : decode m_iAsm.2.1 21 = .ok (.putfield 23, 3) := by decide +kernel
def k_iAsm_24 : List fwO := [(.aload_n 0, 0, 0, .null), (.bipush 100, 0, 0, .int 100)]
theorem k_iAsm_24_ok : fwChain m_iAsm.1.cls m_iAsm.2.1 24 k_iAsm_24 27 = true := by decide +kernel
theorem d_iAsm_27 : decode m_iAsm.2.1 27 = .ok (.newarray .long, 2) := by decide +kernel
theorem d_iAsm_29 : decode m_iAsm.2.1 29 = .ok (.putfield 27, 3) := by decide +kernel
def k_iAsm_32 : List fwO := [(.aload_n 0, 0, 0, .null), (.bipush 100, 0, 0, .int 100)]
theorem k_iAsm_32_ok : fwChain m_iAsm.1.cls m_iAsm.2.1 32 k_iAsm_32 35 = true := by decide +kernel
theorem d_iAsm_35 : decode m_iAsm.2.1 35 = .ok (.newarray .int, 2) := by decide +kernel
theorem d_iAsm_37 : decode m_iAsm.2.1 37 = .ok (.putfield 30, 3) := by decide +kernel
def k_iAsm_40 : List fwO := [(.aload_n 0, 0, 0, .null), (.sipush 300, 0, 0, .int 300)]
theorem k_iAsm_40_ok : fwChain m_iAsm.1.cls m_iAsm.2.1 40 k_iAsm_40 44 = true := by decide +kernel
theorem d_iAsm_44 : decode m_iAsm.2.1 44 = .ok (.newarray .int, 2) := by decide +kernel
theorem d_iAsm_46 : decode m_iAsm.2.1 46 = .ok (.putfield 33, 3) := by decide +kernel
def k_iAsm_49 : List fwO := [(.aload_n 0, 0, 0, .null), (.aload_n 1, 0, 0, .null)]
theorem k_iAsm_49_ok : fwChain m_iAsm.1.cls m_iAsm.2.1 49 k_iAsm_49 51 = true := by decide +kernel
theorem d_iAsm_51 : decode m_iAsm.2.1 51 = .ok (.putfield 36, 3) := by decide +kernel
def k_iAsm_54 : List fwO := [(.aload_n 0, 0, 0, .null), (.aload_n 2, 0, 0, .null)]
theorem k_iAsm_54_ok : fwChain m_iAsm.1.cls m_iAsm.2.1 54 k_iAsm_54 56 = true := by decide +kernel
theorem d_iAsm_56 : decode m_iAsm.2.1 56 = .ok (.putfield 40, 3) := by decide +kernel
def k_iAsm_59 : List fwO := [(.bipush 48, 0, 0, .int 48), (.istore_n 3, 0, 0, .null)]
theorem k_iAsm_59_ok : fwChain m_iAsm.1.cls m_iAsm.2.1 59 k_iAsm_59 62 = true := by decide +kernel
def k_iAsm_62 : List fwO := [(.iload_n 3, 0, 0, .null), (.bipush 122, 0, 0, .int 122)]
theorem k_iAsm_62_ok : fwChain m_iAsm.1.cls m_iAsm.2.1 62 k_iAsm_62 65 = true := by decide +kernel
theorem d_iAsm_65 : decode m_iAsm.2.1 65 = .ok (.if_icmp .gt 47, 3) := by decide +kernel
def k_iAsm_68 : List fwO := [(.iload_n 3, 0, 0, .null)]
theorem k_iAsm_68_ok : fwChain m_iAsm.1.cls m_iAsm.2.1 68 k_iAsm_68 69 = true := by decide +kernel
theorem d_iAsm_69 : decode m_iAsm.2.1 69 = .ok (.invokestatic 43, 3) := by decide +kernel
def k_iAsm_72 : List fwO := [(.istore 4, 0, 0, .null), (.aload_n 0, 0, 0, .null), (.getfield 23, 2, 3, .retAddr 134), (.iload_n 3, 0, 0, .null), (.iload_n 3, 0, 0, .null), (.bipush 57, 0, 0, .int 57)]
theorem k_iAsm_72_ok : fwChain m_iAsm.1.cls m_iAsm.2.1 72 k_iAsm_72 82 = true := by decide +kernel
theorem d_iAsm_82 : decode m_iAsm.2.1 82 = .ok (.if_icmp .le 17, 3) := by decide +kernel
def k_iAsm_85 : List fwO := [(.iload 4, 0, 0, .null), (.bipush 65, 0, 0, .int 65)]
theorem k_iAsm_85_ok : fwChain m_iAsm.1.cls m_iAsm.2.1 85 k_iAsm_85 89 = true := by decide +kernel
theorem d_iAsm_89 : decode m_iAsm.2.1 89 = .ok (.if_icmp .lt 15, 3) := by decide +kernel
def k_iAsm_92 : List fwO := [(.iload 4, 0, 0, .null), (.bipush 90, 0, 0, .int 90)]
theorem k_iAsm_92_ok : fwChain m_iAsm.1.cls m_iAsm.2.1 92 k_iAsm_92 96 = true := by decide +kernel
theorem d_iAsm_96 : decode m_iAsm.2.1 96 = .ok (.if_icmp .gt 8, 3) := by decide +kernel
def k_iAsm_99 : List fwO := [(.iload 4, 0, 0, .null)]
theorem k_iAsm_99_ok : fwChain m_iAsm.1.cls m_iAsm.2.1 99 k_iAsm_99 101 = true := by decide +kernel
theorem d_iAsm_101 : decode m_iAsm.2.1 101 = .ok (.goto 4, 3) := by decide +kernel
def k_iAsm_104 : List fwO := [(.iconst 0, 0, 0, .int 0)]
theorem k_iAsm_104_ok : fwChain m_iAsm.1.cls m_iAsm.2.1 104 k_iAsm_104 105 = true := by decide +kernel
def k_iAsm_105 : List fwO := [(.iastore, 0, 0, .null), (.iinc 3 1, 0, 0, .int 1)]
theorem k_iAsm_105_ok : fwChain m_iAsm.1.cls m_iAsm.2.1 105 k_iAsm_105 109 = true := by decide +kernel
theorem d_iAsm_109 : decode m_iAsm.2.1 109 = .ok (.goto (-47), 3) := by decide +kernel
theorem d_iAsm_112 : decode m_iAsm.2.1 112 = .ok (.return_, 1) := by decide +kernel
/-- MonitorBoard$Lister.<init>([B[B)V -/
abbrev m_iLis : fwM := (⟨"MonitorBoard$Lister", "<init>", "([B[B)V"⟩, prog_7_method_1_code, 3, (none : Option FieldType))
theorem m_iLis_in : Cond.code m_iLis.1 m_iLis.2.1 m_iLis.2.2.1 m_iLis.2.2.2 ∈ fwT := fwT_mem (List.mem_of_getElem? (i := 797) (by decide +kernel)) rfl
def k_iLis_0 : List fwO := [(.aload_n 0, 0, 0, .null)]
theorem k_iLis_0_ok : fwChain m_iLis.1.cls m_iLis.2.1 0 k_iLis_0 1 = true := by decide +kernel
theorem d_iLis_1 : decode m_iLis.2.1 1 = .ok (.invokespecial 3, 3) := by decide +kernel
def k_iLis_4 : List fwO := [(.aload_n 0, 0, 0, .null), (.aload_n 1, 0, 0, .null)]
theorem k_iLis_4_ok : fwChain m_iLis.1.cls m_iLis.2.1 4 k_iLis_4 6 = true := by decide +kernel
theorem d_iLis_6 : decode m_iLis.2.1 6 = .ok (.putfield 9, 3) := by decide +kernel
def k_iLis_9 : List fwO := [(.aload_n 0, 0, 0, .null), (.aload_n 2, 0, 0, .null)]
theorem k_iLis_9_ok : fwChain m_iLis.1.cls m_iLis.2.1 9 k_iLis_9 11 = true := by decide +kernel
theorem d_iLis_11 : decode m_iLis.2.1 11 = .ok (.putfield 15, 3) := by decide +kernel
theorem d_iLis_14 : decode m_iLis.2.1 14 = .ok (.return_, 1) := by decide +kernel
/-- MonitorBoard.<init>()V -/
abbrev m_iMB : fwM := (⟨"MonitorBoard", "<init>", "()V"⟩, prog_1_method_1_code, 1, (none : Option FieldType))
theorem m_iMB_in : Cond.code m_iMB.1 m_iMB.2.1 m_iMB.2.2.1 m_iMB.2.2.2 ∈ fwT := fwT_mem (List.mem_of_getElem? (i := 304) (by decide +kernel)) rfl
def k_iMB_0 : List fwO := [(.aload_n 0, 0, 0, .null)]
theorem k_iMB_0_ok : fwChain m_iMB.1.cls m_iMB.2.1 0 k_iMB_0 1 = true := by decide +kernel
theorem d_iMB_1 : decode m_iMB.2.1 1 = .ok (.invokespecial 3, 3) := by decide +kernel
def k_iMB_4 : List fwO := [(.aload_n 0, 0, 0, .null), (.sipush 4000, 0, 0, .int 4000)]
theorem k_iMB_4_ok : fwChain m_iMB.1.cls m_iMB.2.1 4 k_iMB_4 8 = true := by decide +kernel
theorem d_iMB_8 : decode m_iMB.2.1 8 = .ok (.newarray .byte, 2) := by decide +kernel
theorem d_iMB_10 : decode m_iMB.2.1 10 = .ok (.putfield 9, 3) := by decide +kernel
def k_iMB_13 : List fwO := [(.aload_n 0, 0, 0, .null), (.ldc 13, 0, 0, .int 58112)]
theorem k_iMB_13_ok : fwChain m_iMB.1.cls m_iMB.2.1 13 k_iMB_13 16 = true := by decide +kernel
theorem d_iMB_16 : decode m_iMB.2.1 16 = .ok (.newarray .byte, 2) := by decide +kernel
theorem d_iMB_18 : decode m_iMB.2.1 18 = .ok (.putfield 14, 3) := by decide +kernel
def k_iMB_21 : List fwO := [(.aload_n 0, 0, 0, .null), (.sipush 2000, 0, 0, .int 2000)]
theorem k_iMB_21_ok : fwChain m_iMB.1.cls m_iMB.2.1 21 k_iMB_21 25 = true := by decide +kernel
theorem d_iMB_25 : decode m_iMB.2.1 25 = .ok (.newarray .byte, 2) := by decide +kernel
theorem d_iMB_27 : decode m_iMB.2.1 27 = .ok (.putfield 17, 3) := by decide +kernel
def k_iMB_30 : List fwO := [(.aload_n 0, 0, 0, .null)]
theorem k_iMB_30_ok : fwChain m_iMB.1.cls m_iMB.2.1 30 k_iMB_30 31 = true := by decide +kernel
theorem d_iMB_31 : decode m_iMB.2.1 31 = .ok (.new 20, 3) := by decide +kernel
def k_iMB_34 : List fwO := [(.dup, 0, 0, .null)]
theorem k_iMB_34_ok : fwChain m_iMB.1.cls m_iMB.2.1 34 k_iMB_34 35 = true := by decide +kernel
theorem d_iMB_35 : decode m_iMB.2.1 35 = .ok (.invokespecial 22, 3) := by decide +kernel
theorem d_iMB_38 : decode m_iMB.2.1 38 = .ok (.putfield 23, 3) := by decide +kernel
def k_iMB_41 : List fwO := [(.aload_n 0, 0, 0, .null)]
theorem k_iMB_41_ok : fwChain m_iMB.1.cls m_iMB.2.1 41 k_iMB_41 42 = true := by decide +kernel
theorem d_iMB_42 : decode m_iMB.2.1 42 = .ok (.new 27, 3) := by decide +kernel
def k_iMB_45 : List fwO := [(.dup, 0, 0, .null), (.aload_n 0, 0, 0, .null), (.getfield 23, 0, 3, .retAddr 158)]
theorem k_iMB_45_ok : fwChain m_iMB.1.cls m_iMB.2.1 45 k_iMB_45 50 = true := by decide +kernel
theorem d_iMB_50 : decode m_iMB.2.1 50 = .ok (.invokespecial 29, 3) := by decide +kernel
theorem d_iMB_53 : decode m_iMB.2.1 53 = .ok (.putfield 32, 3) := by decide +kernel
def k_iMB_56 : List fwO := [(.aload_n 0, 0, 0, .null)]
theorem k_iMB_56_ok : fwChain m_iMB.1.cls m_iMB.2.1 56 k_iMB_56 57 = true := by decide +kernel
theorem d_iMB_57 : decode m_iMB.2.1 57 = .ok (.new 36, 3) := by decide +kernel
def k_iMB_60 : List fwO := [(.dup, 0, 0, .null)]
theorem k_iMB_60_ok : fwChain m_iMB.1.cls m_iMB.2.1 60 k_iMB_60 61 = true := by decide +kernel
theorem d_iMB_61 : decode m_iMB.2.1 61 = .ok (.invokespecial 38, 3) := by decide +kernel
theorem d_iMB_64 : decode m_iMB.2.1 64 = .ok (.putfield 39, 3) := by decide +kernel
def k_iMB_67 : List fwO := [(.aload_n 0, 0, 0, .null)]
theorem k_iMB_67_ok : fwChain m_iMB.1.cls m_iMB.2.1 67 k_iMB_67 68 = true := by decide +kernel
theorem d_iMB_68 : decode m_iMB.2.1 68 = .ok (.new 43, 3) := by decide +kernel
def k_iMB_71 : List fwO := [(.dup, 0, 0, .null), (.aload_n 0, 0, 0, .null), (.getfield 32, 0, 4, .retAddr 159), (.aload_n 0, 0, 0, .null), (.getfield 23, 0, 3, .retAddr 158), (.aload_n 0, 0, 0, .null), (.getfield 39, 0, 5, .retAddr 160)]
theorem k_iMB_71_ok : fwChain m_iMB.1.cls m_iMB.2.1 71 k_iMB_71 84 = true := by decide +kernel
theorem d_iMB_84 : decode m_iMB.2.1 84 = .ok (.invokespecial 45, 3) := by decide +kernel
theorem d_iMB_87 : decode m_iMB.2.1 87 = .ok (.putfield 48, 3) := by decide +kernel
def k_iMB_90 : List fwO := [(.aload_n 0, 0, 0, .null)]
theorem k_iMB_90_ok : fwChain m_iMB.1.cls m_iMB.2.1 90 k_iMB_90 91 = true := by decide +kernel
theorem d_iMB_91 : decode m_iMB.2.1 91 = .ok (.new 52, 3) := by decide +kernel
def k_iMB_94 : List fwO := [(.dup, 0, 0, .null), (.aload_n 0, 0, 0, .null), (.getfield 48, 0, 6, .retAddr 161)]
theorem k_iMB_94_ok : fwChain m_iMB.1.cls m_iMB.2.1 94 k_iMB_94 99 = true := by decide +kernel
theorem d_iMB_99 : decode m_iMB.2.1 99 = .ok (.invokespecial 54, 3) := by decide +kernel
theorem d_iMB_102 : decode m_iMB.2.1 102 = .ok (.putfield 57, 3) := by decide +kernel
def k_iMB_105 : List fwO := [(.aload_n 0, 0, 0, .null)]
theorem k_iMB_105_ok : fwChain m_iMB.1.cls m_iMB.2.1 105 k_iMB_105 106 = true := by decide +kernel
theorem d_iMB_106 : decode m_iMB.2.1 106 = .ok (.new 61, 3) := by decide +kernel
def k_iMB_109 : List fwO := [(.dup, 0, 0, .null), (.aload_n 0, 0, 0, .null), (.getfield 9, 0, 0, .retAddr 155), (.aload_n 0, 0, 0, .null), (.getfield 14, 0, 1, .retAddr 156)]
theorem k_iMB_109_ok : fwChain m_iMB.1.cls m_iMB.2.1 109 k_iMB_109 118 = true := by decide +kernel
theorem d_iMB_118 : decode m_iMB.2.1 118 = .ok (.invokespecial 63, 3) := by decide +kernel
theorem d_iMB_121 : decode m_iMB.2.1 121 = .ok (.putfield 66, 3) := by decide +kernel
def k_iMB_124 : List fwO := [(.aload_n 0, 0, 0, .null)]
theorem k_iMB_124_ok : fwChain m_iMB.1.cls m_iMB.2.1 124 k_iMB_124 125 = true := by decide +kernel
theorem d_iMB_125 : decode m_iMB.2.1 125 = .ok (.new 70, 3) := by decide +kernel
def k_iMB_128 : List fwO := [(.dup, 0, 0, .null), (.aload_n 0, 0, 0, .null), (.getfield 32, 0, 4, .retAddr 159), (.getfield 72, 8, 0, .retAddr 19), (.aload_n 0, 0, 0, .null), (.getfield 14, 0, 1, .retAddr 156)]
theorem k_iMB_128_ok : fwChain m_iMB.1.cls m_iMB.2.1 128 k_iMB_128 140 = true := by decide +kernel
theorem d_iMB_140 : decode m_iMB.2.1 140 = .ok (.invokespecial 75, 3) := by decide +kernel
theorem d_iMB_143 : decode m_iMB.2.1 143 = .ok (.putfield 76, 3) := by decide +kernel
def k_iMB_146 : List fwO := [(.aload_n 0, 0, 0, .null), (.getfield 48, 0, 6, .retAddr 161)]
theorem k_iMB_146_ok : fwChain m_iMB.1.cls m_iMB.2.1 146 k_iMB_146 150 = true := by decide +kernel
theorem d_iMB_150 : decode m_iMB.2.1 150 = .ok (.invokevirtual 80, 3) := by decide +kernel
theorem d_iMB_153 : decode m_iMB.2.1 153 = .ok (.return_, 1) := by decide +kernel
theorem c_iCon_1 : ∀ w ∈ ([(Cond.methodLink "MonitorBoard$Console" (3 : Nat) ({ cls := "java/lang/Object", name := "<init>", desc := "()V" } : MethodName)), (Cond.instanceMethod ({ cls := "java/lang/Object", name := "<init>", desc := "()V" } : MethodName)), (Cond.code ({ cls := "java/lang/Object", name := "<init>", desc := "()V" } : MethodName) object_method_1_code (1 : Nat) (Option.none : Option FieldType))] : List Cond), w ∈ fwT := fwT_all [314, 306, 307] (by decide +kernel) (by decide +kernel)
theorem c_iPro_1 : ∀ w ∈ ([(Cond.methodLink "MonitorBoard$Processor" (3 : Nat) ({ cls := "java/lang/Object", name := "<init>", desc := "()V" } : MethodName)), (Cond.instanceMethod ({ cls := "java/lang/Object", name := "<init>", desc := "()V" } : MethodName)), (Cond.code ({ cls := "java/lang/Object", name := "<init>", desc := "()V" } : MethodName) object_method_1_code (1 : Nat) (Option.none : Option FieldType))] : List Cond), w ∈ fwT := fwT_all [361, 306, 307] (by decide +kernel) (by decide +kernel)
theorem c_iFil_1 : ∀ w ∈ ([(Cond.methodLink "MonitorBoard$Files" (3 : Nat) ({ cls := "java/lang/Object", name := "<init>", desc := "()V" } : MethodName)), (Cond.instanceMethod ({ cls := "java/lang/Object", name := "<init>", desc := "()V" } : MethodName)), (Cond.code ({ cls := "java/lang/Object", name := "<init>", desc := "()V" } : MethodName) object_method_1_code (1 : Nat) (Option.none : Option FieldType))] : List Cond), w ∈ fwT := fwT_all [409, 306, 307] (by decide +kernel) (by decide +kernel)
theorem c_iFil_61 : ∀ w ∈ ([(Cond.methodLink "MonitorBoard$Files" (33 : Nat) ({ cls := "java/util/Arrays", name := "fill", desc := "([BB)V" } : MethodName)), (Cond.static ({ cls := "java/util/Arrays", name := "fill", desc := "([BB)V" } : MethodName)), (Cond.initialized "java/util/Arrays")] : List Cond), w ∈ fwT := fwT_all [411, 412, 283] (by decide +kernel) (by decide +kernel)
theorem c_iFil_91 : ∀ w ∈ ([(Cond.methodLink "MonitorBoard$Files" (39 : Nat) ({ cls := "MonitorBoard$Files", name := "sectorOf", desc := "(I)I" } : MethodName)), (Cond.static ({ cls := "MonitorBoard$Files", name := "sectorOf", desc := "(I)I" } : MethodName)), (Cond.initialized "MonitorBoard$Files")] : List Cond), w ∈ fwT := fwT_all [414, 415, 282] (by decide +kernel) (by decide +kernel)
theorem c_iFil_94 : ∀ w ∈ ([(Cond.methodLink "MonitorBoard$Files" (43 : Nat) ({ cls := "MonitorBoard$Files", name := "sectorPlace", desc := "(III)I" } : MethodName)), (Cond.static ({ cls := "MonitorBoard$Files", name := "sectorPlace", desc := "(III)I" } : MethodName)), (Cond.initialized "MonitorBoard$Files")] : List Cond), w ∈ fwT := fwT_all [417, 418, 282] (by decide +kernel) (by decide +kernel)
theorem c_iMon_1 : ∀ w ∈ ([(Cond.methodLink "MonitorBoard$Monitor" (5 : Nat) ({ cls := "java/lang/Object", name := "<init>", desc := "()V" } : MethodName)), (Cond.instanceMethod ({ cls := "java/lang/Object", name := "<init>", desc := "()V" } : MethodName)), (Cond.code ({ cls := "java/lang/Object", name := "<init>", desc := "()V" } : MethodName) object_method_1_code (1 : Nat) (Option.none : Option FieldType))] : List Cond), w ∈ fwT := fwT_all [493, 306, 307] (by decide +kernel) (by decide +kernel)
theorem c_iHex_1 : ∀ w ∈ ([(Cond.methodLink "MonitorBoard$HexText" (3 : Nat) ({ cls := "java/lang/Object", name := "<init>", desc := "()V" } : MethodName)), (Cond.instanceMethod ({ cls := "java/lang/Object", name := "<init>", desc := "()V" } : MethodName)), (Cond.code ({ cls := "java/lang/Object", name := "<init>", desc := "()V" } : MethodName) object_method_1_code (1 : Nat) (Option.none : Option FieldType))] : List Cond), w ∈ fwT := fwT_all [540, 306, 307] (by decide +kernel) (by decide +kernel)
theorem c_iRea_1 : ∀ w ∈ ([(Cond.methodLink "MonitorBoard$Reader" (3 : Nat) ({ cls := "java/lang/Object", name := "<init>", desc := "()V" } : MethodName)), (Cond.instanceMethod ({ cls := "java/lang/Object", name := "<init>", desc := "()V" } : MethodName)), (Cond.code ({ cls := "java/lang/Object", name := "<init>", desc := "()V" } : MethodName) object_method_1_code (1 : Nat) (Option.none : Option FieldType))] : List Cond), w ∈ fwT := fwT_all [632, 306, 307] (by decide +kernel) (by decide +kernel)
theorem c_packedWords_15 : ∀ w ∈ ([(Cond.methodLink "MonitorBoard" (226 : Nat) ({ cls := "java/lang/String", name := "length", desc := "()I" } : MethodName)), (Cond.instanceMethod ({ cls := "java/lang/String", name := "length", desc := "()I" } : MethodName)), (Cond.selects "java/lang/String" ({ cls := "java/lang/String", name := "length", desc := "()I" } : MethodName) ({ cls := "java/lang/String", name := "length", desc := "()I" } : MethodName)), (Cond.initialized "java/lang/String")] : List Cond), w ∈ fwT := fwT_all [575, 576, 577, 287] (by decide +kernel) (by decide +kernel)
theorem c_packedWords_29 : ∀ w ∈ ([(Cond.methodLink "MonitorBoard" (226 : Nat) ({ cls := "java/lang/String", name := "length", desc := "()I" } : MethodName)), (Cond.instanceMethod ({ cls := "java/lang/String", name := "length", desc := "()I" } : MethodName)), (Cond.selects "java/lang/String" ({ cls := "java/lang/String", name := "length", desc := "()I" } : MethodName) ({ cls := "java/lang/String", name := "length", desc := "()I" } : MethodName)), (Cond.initialized "java/lang/String")] : List Cond), w ∈ fwT := c_packedWords_15
theorem c_packedWords_38 : ∀ w ∈ ([(Cond.methodLink "MonitorBoard" (217 : Nat) ({ cls := "java/lang/String", name := "charAt", desc := "(I)C" } : MethodName)), (Cond.instanceMethod ({ cls := "java/lang/String", name := "charAt", desc := "(I)C" } : MethodName)), (Cond.selects "java/lang/String" ({ cls := "java/lang/String", name := "charAt", desc := "(I)C" } : MethodName) ({ cls := "java/lang/String", name := "charAt", desc := "(I)C" } : MethodName)), (Cond.initialized "java/lang/String")] : List Cond), w ∈ fwT := fwT_all [585, 586, 587, 287] (by decide +kernel) (by decide +kernel)
theorem c_packedWords_65 : ∀ w ∈ ([(Cond.methodLink "MonitorBoard" (217 : Nat) ({ cls := "java/lang/String", name := "charAt", desc := "(I)C" } : MethodName)), (Cond.instanceMethod ({ cls := "java/lang/String", name := "charAt", desc := "(I)C" } : MethodName)), (Cond.selects "java/lang/String" ({ cls := "java/lang/String", name := "charAt", desc := "(I)C" } : MethodName) ({ cls := "java/lang/String", name := "charAt", desc := "(I)C" } : MethodName)), (Cond.initialized "java/lang/String")] : List Cond), w ∈ fwT := c_packedWords_38
theorem c_packedWords_68 : ∀ w ∈ ([(Cond.methodLink "MonitorBoard" (232 : Nat) ({ cls := "MonitorBoard", name := "packed", desc := "(JI)J" } : MethodName)), (Cond.static ({ cls := "MonitorBoard", name := "packed", desc := "(JI)J" } : MethodName)), (Cond.initialized "MonitorBoard")] : List Cond), w ∈ fwT := fwT_all [623, 624, 279] (by decide +kernel) (by decide +kernel)
theorem c_iShe_1 : ∀ w ∈ ([(Cond.methodLink "MonitorBoard$Shell" (3 : Nat) ({ cls := "java/lang/Object", name := "<init>", desc := "()V" } : MethodName)), (Cond.instanceMethod ({ cls := "java/lang/Object", name := "<init>", desc := "()V" } : MethodName)), (Cond.code ({ cls := "java/lang/Object", name := "<init>", desc := "()V" } : MethodName) object_method_1_code (1 : Nat) (Option.none : Option FieldType))] : List Cond), w ∈ fwT := fwT_all [534, 306, 307] (by decide +kernel) (by decide +kernel)
theorem c_iShe_5 : ∀ w ∈ ([(Cond.classLink "MonitorBoard$Shell" (9 : Nat) "MonitorBoard$HexText"), (Cond.instantiable "MonitorBoard$HexText" (9 : Nat)), (Cond.initialized "MonitorBoard$HexText")] : List Cond), w ∈ fwT := fwT_all [535, 536, 286] (by decide +kernel) (by decide +kernel)
theorem c_iShe_9 : ∀ w ∈ ([(Cond.instanceMethod ({ cls := "MonitorBoard$HexText", name := "<init>", desc := "()V" } : MethodName)), (Cond.initialized "MonitorBoard$HexText")] : List Cond), w ∈ fwT := fwT_all [538, 286] (by decide +kernel) (by decide +kernel)
theorem c_iShe_20 : ∀ w ∈ ([(Cond.static ({ cls := "MonitorBoard", name := "packedWords", desc := "(Ljava/lang/String;I)[J" } : MethodName)), (Cond.initialized "MonitorBoard")] : List Cond), w ∈ fwT := fwT_all [573, 279] (by decide +kernel) (by decide +kernel)
theorem c_iShe_94 : ∀ w ∈ ([(Cond.classLink "MonitorBoard$Shell" (65 : Nat) "MonitorBoard$Reader"), (Cond.instantiable "MonitorBoard$Reader" (8 : Nat)), (Cond.initialized "MonitorBoard$Reader")] : List Cond), w ∈ fwT := fwT_all [627, 628, 291] (by decide +kernel) (by decide +kernel)
theorem c_iShe_102 : ∀ w ∈ ([(Cond.methodLink "MonitorBoard$Shell" (67 : Nat) ({ cls := "MonitorBoard$Reader", name := "<init>", desc := "(LMonitorBoard$Files;)V" } : MethodName)), (Cond.instanceMethod ({ cls := "MonitorBoard$Reader", name := "<init>", desc := "(LMonitorBoard$Files;)V" } : MethodName)), (Cond.initialized "MonitorBoard$Reader")] : List Cond), w ∈ fwT := fwT_all [629, 630, 291] (by decide +kernel) (by decide +kernel)
theorem c_iAsm_1 : ∀ w ∈ ([(Cond.methodLink "MonitorBoard$Assembler" (3 : Nat) ({ cls := "java/lang/Object", name := "<init>", desc := "()V" } : MethodName)), (Cond.instanceMethod ({ cls := "java/lang/Object", name := "<init>", desc := "()V" } : MethodName)), (Cond.code ({ cls := "java/lang/Object", name := "<init>", desc := "()V" } : MethodName) object_method_1_code (1 : Nat) (Option.none : Option FieldType))] : List Cond), w ∈ fwT := fwT_all [723, 306, 307] (by decide +kernel) (by decide +kernel)
theorem c_iAsm_9 : ∀ w ∈ ([(Cond.static ({ cls := "MonitorBoard", name := "packedWords", desc := "(Ljava/lang/String;I)[J" } : MethodName)), (Cond.initialized "MonitorBoard")] : List Cond), w ∈ fwT := c_iShe_20
theorem c_iAsm_69 : ∀ w ∈ ([(Cond.static ({ cls := "MonitorBoard", name := "capital", desc := "(I)I" } : MethodName)), (Cond.initialized "MonitorBoard")] : List Cond), w ∈ fwT := fwT_all [727, 279] (by decide +kernel) (by decide +kernel)
theorem c_iLis_1 : ∀ w ∈ ([(Cond.methodLink "MonitorBoard$Lister" (3 : Nat) ({ cls := "java/lang/Object", name := "<init>", desc := "()V" } : MethodName)), (Cond.instanceMethod ({ cls := "java/lang/Object", name := "<init>", desc := "()V" } : MethodName)), (Cond.code ({ cls := "java/lang/Object", name := "<init>", desc := "()V" } : MethodName) object_method_1_code (1 : Nat) (Option.none : Option FieldType))] : List Cond), w ∈ fwT := fwT_all [798, 306, 307] (by decide +kernel) (by decide +kernel)
theorem c_iMB_1 : ∀ w ∈ ([(Cond.methodLink "MonitorBoard" (3 : Nat) ({ cls := "java/lang/Object", name := "<init>", desc := "()V" } : MethodName)), (Cond.instanceMethod ({ cls := "java/lang/Object", name := "<init>", desc := "()V" } : MethodName)), (Cond.code ({ cls := "java/lang/Object", name := "<init>", desc := "()V" } : MethodName) object_method_1_code (1 : Nat) (Option.none : Option FieldType))] : List Cond), w ∈ fwT := fwT_all [305, 306, 307] (by decide +kernel) (by decide +kernel)
theorem c_iMB_31 : ∀ w ∈ ([(Cond.classLink "MonitorBoard" (20 : Nat) "MonitorBoard$Console"), (Cond.instantiable "MonitorBoard$Console" (10 : Nat)), (Cond.initialized "MonitorBoard$Console")] : List Cond), w ∈ fwT := fwT_all [309, 310, 280] (by decide +kernel) (by decide +kernel)
theorem c_iMB_35 : ∀ w ∈ ([(Cond.instanceMethod ({ cls := "MonitorBoard$Console", name := "<init>", desc := "()V" } : MethodName)), (Cond.initialized "MonitorBoard$Console")] : List Cond), w ∈ fwT := fwT_all [312, 280] (by decide +kernel) (by decide +kernel)
theorem c_iMB_42 : ∀ w ∈ ([(Cond.classLink "MonitorBoard" (27 : Nat) "MonitorBoard$Processor"), (Cond.instantiable "MonitorBoard$Processor" (8 : Nat)), (Cond.initialized "MonitorBoard$Processor")] : List Cond), w ∈ fwT := fwT_all [356, 357, 281] (by decide +kernel) (by decide +kernel)
theorem c_iMB_50 : ∀ w ∈ ([(Cond.methodLink "MonitorBoard" (29 : Nat) ({ cls := "MonitorBoard$Processor", name := "<init>", desc := "(LMonitorBoard$Console;)V" } : MethodName)), (Cond.instanceMethod ({ cls := "MonitorBoard$Processor", name := "<init>", desc := "(LMonitorBoard$Console;)V" } : MethodName)), (Cond.initialized "MonitorBoard$Processor")] : List Cond), w ∈ fwT := fwT_all [358, 359, 281] (by decide +kernel) (by decide +kernel)
theorem c_iMB_57 : ∀ w ∈ ([(Cond.classLink "MonitorBoard" (36 : Nat) "MonitorBoard$Files"), (Cond.instantiable "MonitorBoard$Files" (15 : Nat)), (Cond.initialized "MonitorBoard$Files")] : List Cond), w ∈ fwT := fwT_all [404, 405, 282] (by decide +kernel) (by decide +kernel)
theorem c_iMB_61 : ∀ w ∈ ([(Cond.methodLink "MonitorBoard" (38 : Nat) ({ cls := "MonitorBoard$Files", name := "<init>", desc := "()V" } : MethodName)), (Cond.instanceMethod ({ cls := "MonitorBoard$Files", name := "<init>", desc := "()V" } : MethodName)), (Cond.initialized "MonitorBoard$Files")] : List Cond), w ∈ fwT := fwT_all [406, 407, 282] (by decide +kernel) (by decide +kernel)
theorem c_iMB_68 : ∀ w ∈ ([(Cond.classLink "MonitorBoard" (43 : Nat) "MonitorBoard$Monitor"), (Cond.instantiable "MonitorBoard$Monitor" (9 : Nat)), (Cond.initialized "MonitorBoard$Monitor")] : List Cond), w ∈ fwT := fwT_all [488, 489, 284] (by decide +kernel) (by decide +kernel)
theorem c_iMB_84 : ∀ w ∈ ([(Cond.methodLink "MonitorBoard" (45 : Nat) ({ cls := "MonitorBoard$Monitor", name := "<init>", desc := "(LMonitorBoard$Processor;LMonitorBoard$Console;LMonitorBoard$Files;)V" } : MethodName)), (Cond.instanceMethod ({ cls := "MonitorBoard$Monitor", name := "<init>", desc := "(LMonitorBoard$Processor;LMonitorBoard$Console;LMonitorBoard$Files;)V" } : MethodName)), (Cond.initialized "MonitorBoard$Monitor")] : List Cond), w ∈ fwT := fwT_all [490, 491, 284] (by decide +kernel) (by decide +kernel)
theorem c_iMB_91 : ∀ w ∈ ([(Cond.classLink "MonitorBoard" (52 : Nat) "MonitorBoard$Shell"), (Cond.instantiable "MonitorBoard$Shell" (19 : Nat)), (Cond.initialized "MonitorBoard$Shell")] : List Cond), w ∈ fwT := fwT_all [529, 530, 285] (by decide +kernel) (by decide +kernel)
theorem c_iMB_99 : ∀ w ∈ ([(Cond.methodLink "MonitorBoard" (54 : Nat) ({ cls := "MonitorBoard$Shell", name := "<init>", desc := "(LMonitorBoard$Monitor;)V" } : MethodName)), (Cond.instanceMethod ({ cls := "MonitorBoard$Shell", name := "<init>", desc := "(LMonitorBoard$Monitor;)V" } : MethodName)), (Cond.initialized "MonitorBoard$Shell")] : List Cond), w ∈ fwT := fwT_all [531, 532, 285] (by decide +kernel) (by decide +kernel)
theorem c_iMB_106 : ∀ w ∈ ([(Cond.classLink "MonitorBoard" (61 : Nat) "MonitorBoard$Assembler"), (Cond.instantiable "MonitorBoard$Assembler" (21 : Nat)), (Cond.initialized "MonitorBoard$Assembler")] : List Cond), w ∈ fwT := fwT_all [718, 719, 292] (by decide +kernel) (by decide +kernel)
theorem c_iMB_118 : ∀ w ∈ ([(Cond.methodLink "MonitorBoard" (63 : Nat) ({ cls := "MonitorBoard$Assembler", name := "<init>", desc := "([B[B)V" } : MethodName)), (Cond.instanceMethod ({ cls := "MonitorBoard$Assembler", name := "<init>", desc := "([B[B)V" } : MethodName)), (Cond.initialized "MonitorBoard$Assembler")] : List Cond), w ∈ fwT := fwT_all [720, 721, 292] (by decide +kernel) (by decide +kernel)
theorem c_iMB_125 : ∀ w ∈ ([(Cond.classLink "MonitorBoard" (70 : Nat) "MonitorBoard$Lister"), (Cond.instantiable "MonitorBoard$Lister" (3 : Nat)), (Cond.initialized "MonitorBoard$Lister")] : List Cond), w ∈ fwT := fwT_all [793, 794, 293] (by decide +kernel) (by decide +kernel)
theorem c_iMB_140 : ∀ w ∈ ([(Cond.methodLink "MonitorBoard" (75 : Nat) ({ cls := "MonitorBoard$Lister", name := "<init>", desc := "([B[B)V" } : MethodName)), (Cond.instanceMethod ({ cls := "MonitorBoard$Lister", name := "<init>", desc := "([B[B)V" } : MethodName)), (Cond.initialized "MonitorBoard$Lister")] : List Cond), w ∈ fwT := fwT_all [795, 796, 293] (by decide +kernel) (by decide +kernel)
theorem c_iMB_150 : ∀ w ∈ ([(Cond.methodLink "MonitorBoard" (80 : Nat) ({ cls := "MonitorBoard$Monitor", name := "bootCold", desc := "()V" } : MethodName)), (Cond.instanceMethod ({ cls := "MonitorBoard$Monitor", name := "bootCold", desc := "()V" } : MethodName)), (Cond.selects "MonitorBoard$Monitor" ({ cls := "MonitorBoard$Monitor", name := "bootCold", desc := "()V" } : MethodName) ({ cls := "MonitorBoard$Monitor", name := "bootCold", desc := "()V" } : MethodName)), (Cond.initialized "MonitorBoard$Monitor")] : List Cond), w ∈ fwT := fwT_all [809, 810, 811, 284] (by decide +kernel) (by decide +kernel)
end
section
/-! rows that name the new shape -/
section FWX
variable {l : Launch} {Z : fwZ} {M : fwM} {d mc ms : Nat} {Post : fwPost} {nc ns pc : Nat} {ls : List (Option Value)} {st r : List Value} {sh : List fwE} {σ : fwS} {idx : Nat}
theorem fwg_newa' {atype : ArrayType} {x : Int32} (N i : Nat) (sh2 : List fwE) (ht : newarray.typeOf atype ∈ fwAT) (hw : Cond.arrayClass (newarray.typeOf atype) ∈ fwT) (hd : decode M.2.1 pc = .ok (.newarray atype, 2)) (hx0 : ¬ x < 0) (hN : x.toNatClampNeg = N) (hbytes : N * componentBytes (newarray.typeOf atype) ≤ 536870912) (hc : nc + 1 ≤ mc) (hs : ns + N ≤ ms) (hi : sh.length = i) (h2 : sh ++ [.inl (newarray.typeOf atype, N)] = sh2) (k : fwG l Z M d mc ms Post (nc + 1) (ns + N) (pc + 2) ls (.ref i :: r) sh2 (fwZero σ i)) : fwG l Z M d mc ms Post nc ns pc ls (.int x :: r) sh σ := by
  subst hi; subst h2
  exact fwg_newa ht hw hd hx0 hN hbytes hc hs k
theorem fwg_new' {q : vw_C} (ci i : Nat) (sh2 : List fwE) (hq : fwCl[ci]? = some q) (hw : ∀ w ∈ ([.classLink M.1.cls idx q.1, .instantiable q.1 q.2.2, .initialized q.1] : List Cond), w ∈ fwT) (hd : decode M.2.1 pc = .ok (.new idx, 3)) (hc : nc + 1 ≤ mc) (hs : ns + q.2.2 ≤ ms) (hi : sh.length = i) (h2 : sh ++ [.inr (ci, fwTmpl ci)] = sh2) (k : fwG l Z M d mc ms Post (nc + 1) (ns + q.2.2) (pc + 3) ls (.ref i :: st) sh2 (fwZero σ i)) : fwG l Z M d mc ms Post nc ns pc ls st sh σ := by
  subst hi; subst h2
  exact fwg_new hq hw hd hc hs k
theorem fwg_putR' {i ci kk : Nat} {ts : List Value} {v : Value} (sh2 : List fwE) (hs : sh[i]? = some (.inr (ci, ts))) (hk : kk < ts.length) (hv : (∃ j, v = .ref j) ∨ ∃ j, v = .retAddr j) (hm : (M.1.cls, idx, ci, kk) ∈ fwFl) (hcl : (fwCl.getD ci fwC_0).1 = M.1.cls) (hfin : ((fwCl.getD ci fwC_0).2.1 kk).2.2.2 = true) (hty : ∀ a : Nat, fits (fwTyOf ci kk) (.ref a) = true ∧ narrow (fwTyOf ci kk) (.ref a) = .ref a) (hname : M.1.name = "<init>") (hd : decode M.2.1 pc = .ok (.putfield idx, 3)) (h2 : sh.set i (.inr (ci, ts.set kk v)) = sh2) (k : fwG l Z M d mc ms Post nc ns (pc + 3) ls r sh2 σ) : fwG l Z M d mc ms Post nc ns pc ls (v :: .ref i :: r) sh σ := by
  subst h2
  exact fwg_putR hs hk hv hm hcl hfin hty hname hd k
end FWX
theorem fwSame_0 {S : List Nat} {σ : fwS} {i : Nat} (h : i ∈ S) : fwSame S σ (fwZero σ i) := fun a ha => ⟨funext fun b => if_neg (fun q : a = i => ha (by rw [q]; exact h)), funext fun b => if_neg (fun q : a = i => ha (by rw [q]; exact h))⟩
theorem fwZ_ne {σ : fwS} {i a b : Nat} (h : a ≠ i) : (fwZero σ i).1 a b = σ.1 a b := if_neg h
theorem fwZ_ne2 {σ : fwS} {i a b : Nat} (h : a ≠ i) : (fwZero σ i).2 a b = σ.2 a b := if_neg h
theorem fwZ_eq {σ : fwS} {i b : Nat} : (fwZero σ i).1 i b = 0 := if_pos rfl
theorem fwZ_eq2 {σ : fwS} {i b : Nat} : (fwZero σ i).2 i b = 0 := if_pos rfl
end
section
/-! the constructors of console, processor, files, monitor (laid by wip/whole/t5.py) -/
theorem fwAc_byte : Cond.arrayClass (newarray.typeOf .byte) ∈ fwT := fwT_mem (List.mem_of_getElem? (i := 354) (by decide +kernel)) rfl
theorem fwAc_int : Cond.arrayClass (newarray.typeOf .int) ∈ fwT := fwT_mem (List.mem_of_getElem? (i := 355) (by decide +kernel)) rfl
theorem fwAc_boolean : Cond.arrayClass (newarray.typeOf .boolean) ∈ fwT := fwT_mem (List.mem_of_getElem? (i := 487) (by decide +kernel)) rfl
theorem fwAc_long : Cond.arrayClass (newarray.typeOf .long) ∈ fwT := fwT_mem (List.mem_of_getElem? (i := 659) (by decide +kernel)) rfl
section INI
variable {l : Launch} {Z : fwZ} {e0 e1 e2 e3 : fwE} {σ : fwS}
theorem ct_iCon : fwC l Z m_iCon 1 3 10256 [.ref 4] [e0, e1, e2, e3, .inr (3, fwTmpl 3)] σ (fun w sh' σ' => w = none ∧ sh' = shCon e0 e1 e2 e3 [] ∧ fwSame [5, 6, 7] σ σ') := by
  refine fwC_of (ls := [some (.ref 4)]) (by decide +kernel) rfl (by rw [fw_sl1]; exact Nat.le_refl 1) ?_
  refine fwRun_ok k_iCon_0_ok rfl trivial ?_
  refine fwg_objInit c_iCon_1 (by decide) (Nat.le_of_ble_eq_true rfl) d_iCon_1 ?_
  refine fwRun_ok k_iCon_4_ok rfl trivial ?_
  refine fwg_newa' 8000 5 (e0 :: e1 :: e2 :: e3 :: .inr (3, fwTmpl 3) :: .inl (.byte, 8000) :: []) (by decide) fwAc_byte d_iCon_8 (by decide) (by decide) (by decide) (Nat.le_of_ble_eq_true rfl) (Nat.le_of_ble_eq_true rfl) rfl rfl ?_
  refine fwg_putR' (ci := 3) (kk := 0) (e0 :: e1 :: e2 :: e3 :: .inr (3, [.ref 5, .null, .null, .int 0, .int 0, .int 0, .int 0, .int 0, .int 0, .int 0]) :: .inl (.byte, 8000) :: []) rfl (by decide) (Or.inl ⟨_, rfl⟩) (List.mem_of_getElem? (i := 0) rfl) rfl rfl (fun _ => ⟨rfl, rfl⟩) rfl d_iCon_10 rfl ?_
  refine fwRun_ok k_iCon_13_ok rfl trivial ?_
  refine fwg_newa' 2000 6 (e0 :: e1 :: e2 :: e3 :: .inr (3, [.ref 5, .null, .null, .int 0, .int 0, .int 0, .int 0, .int 0, .int 0, .int 0]) :: .inl (.byte, 8000) :: .inl (.byte, 2000) :: []) (by decide) fwAc_byte d_iCon_17 (by decide) (by decide) (by decide) (Nat.le_of_ble_eq_true rfl) (Nat.le_of_ble_eq_true rfl) rfl rfl ?_
  refine fwg_putR' (ci := 3) (kk := 1) (e0 :: e1 :: e2 :: e3 :: .inr (3, [.ref 5, .ref 6, .null, .int 0, .int 0, .int 0, .int 0, .int 0, .int 0, .int 0]) :: .inl (.byte, 8000) :: .inl (.byte, 2000) :: []) rfl (by decide) (Or.inl ⟨_, rfl⟩) (List.mem_of_getElem? (i := 1) rfl) rfl rfl (fun _ => ⟨rfl, rfl⟩) rfl d_iCon_19 rfl ?_
  refine fwRun_ok k_iCon_22_ok rfl trivial ?_
  refine fwg_newa' 256 7 (e0 :: e1 :: e2 :: e3 :: .inr (3, [.ref 5, .ref 6, .null, .int 0, .int 0, .int 0, .int 0, .int 0, .int 0, .int 0]) :: .inl (.byte, 8000) :: .inl (.byte, 2000) :: .inl (.int, 256) :: []) (by decide) fwAc_int d_iCon_26 (by decide) (by decide) (by decide) (Nat.le_of_ble_eq_true rfl) (Nat.le_of_ble_eq_true rfl) rfl rfl ?_
  refine fwg_putR' (ci := 3) (kk := 2) (e0 :: e1 :: e2 :: e3 :: sCon :: .inl (.byte, 8000) :: .inl (.byte, 2000) :: .inl (.int, 256) :: []) rfl (by decide) (Or.inl ⟨_, rfl⟩) (List.mem_of_getElem? (i := 2) rfl) rfl rfl (fun _ => ⟨rfl, rfl⟩) rfl d_iCon_28 rfl ?_
  refine fwg_vret rfl (Nat.le_of_ble_eq_true rfl) (Nat.le_of_ble_eq_true rfl) ⟨rfl, rfl, ?_⟩ d_iCon_31
  exact ((fwSame_0 (by decide)).tr (fwSame_0 (by decide))).tr (fwSame_0 (by decide))
theorem ct_iPro : fwC l Z m_iPro 1 2 65544 [.ref 8, .ref 4] (shCon e0 e1 e2 e3 [.inr (8, fwTmpl 8)]) σ (fun w sh' σ' => w = none ∧ sh' = shCon e0 e1 e2 e3 (sPro :: .inl (.byte, 65536) :: .inl (.int, 8) :: []) ∧ fwSame [8, 9, 10] σ σ' ∧ σ'.2 8 = σ.2 8) := by
  refine fwC_of (ls := [some (.ref 8), some (.ref 4)]) (by decide +kernel) rfl (by rw [fw_sl1]; exact Nat.le_refl 2) ?_
  refine fwRun_ok k_iPro_0_ok rfl trivial ?_
  refine fwg_objInit c_iPro_1 (by decide) (Nat.le_of_ble_eq_true rfl) d_iPro_1 ?_
  refine fwRun_ok k_iPro_4_ok rfl trivial ?_
  refine fwg_newa' 65536 9 (e0 :: e1 :: e2 :: e3 :: sCon :: .inl (.byte, 8000) :: .inl (.byte, 2000) :: .inl (.int, 256) :: .inr (8, fwTmpl 8) :: .inl (.byte, 65536) :: []) (by decide) fwAc_byte d_iPro_7 (by decide) (by decide) (by decide) (Nat.le_of_ble_eq_true rfl) (Nat.le_of_ble_eq_true rfl) rfl rfl ?_
  refine fwg_putR' (ci := 8) (kk := 0) (e0 :: e1 :: e2 :: e3 :: sCon :: .inl (.byte, 8000) :: .inl (.byte, 2000) :: .inl (.int, 256) :: .inr (8, [.ref 9, .null, .null, .int 0, .int 0, .int 0, .long 0, .int 0]) :: .inl (.byte, 65536) :: []) rfl (by decide) (Or.inl ⟨_, rfl⟩) (List.mem_of_getElem? (i := 18) rfl) rfl rfl (fun _ => ⟨rfl, rfl⟩) rfl d_iPro_9 rfl ?_
  refine fwRun_ok k_iPro_12_ok rfl trivial ?_
  refine fwg_newa' 8 10 (e0 :: e1 :: e2 :: e3 :: sCon :: .inl (.byte, 8000) :: .inl (.byte, 2000) :: .inl (.int, 256) :: .inr (8, [.ref 9, .null, .null, .int 0, .int 0, .int 0, .long 0, .int 0]) :: .inl (.byte, 65536) :: .inl (.int, 8) :: []) (by decide) fwAc_int d_iPro_15 (by decide) (by decide) (by decide) (Nat.le_of_ble_eq_true rfl) (Nat.le_of_ble_eq_true rfl) rfl rfl ?_
  refine fwg_putR' (ci := 8) (kk := 1) (e0 :: e1 :: e2 :: e3 :: sCon :: .inl (.byte, 8000) :: .inl (.byte, 2000) :: .inl (.int, 256) :: .inr (8, [.ref 9, .ref 10, .null, .int 0, .int 0, .int 0, .long 0, .int 0]) :: .inl (.byte, 65536) :: .inl (.int, 8) :: []) rfl (by decide) (Or.inl ⟨_, rfl⟩) (List.mem_of_getElem? (i := 22) rfl) rfl rfl (fun _ => ⟨rfl, rfl⟩) rfl d_iPro_17 rfl ?_
  refine fwRun_ok k_iPro_20_ok rfl trivial ?_
  refine fwg_putR' (ci := 8) (kk := 2) (e0 :: e1 :: e2 :: e3 :: sCon :: .inl (.byte, 8000) :: .inl (.byte, 2000) :: .inl (.int, 256) :: sPro :: .inl (.byte, 65536) :: .inl (.int, 8) :: []) rfl (by decide) (Or.inl ⟨_, rfl⟩) (List.mem_of_getElem? (i := 25) rfl) rfl rfl (fun _ => ⟨rfl, rfl⟩) rfl d_iPro_27 rfl ?_
  refine fwg_vret rfl (Nat.le_of_ble_eq_true rfl) (Nat.le_of_ble_eq_true rfl) ⟨rfl, rfl, ?_, rfl⟩ d_iPro_30
  exact ((fwSame_0 (by decide)).tr (fwSame_0 (by decide))).tr (fwSame_I (by decide))
theorem ct_iMon : fwC l Z m_iMon 1 1 36 [.ref 18, .ref 8, .ref 4, .ref 11] (shCon e0 e1 e2 e3 (sPro :: .inl (.byte, 65536) :: .inl (.int, 8) :: sFil :: .inl (.byte, 512512) :: .inl (.int, 1944) :: .inl (.boolean, 486) :: .inl (.int, 36) :: .inl (.byte, 128) :: .inl (.int, 36) :: .inr (7, fwTmpl 7) :: [])) σ (fun w sh' σ' => w = none ∧ sh' = shMon e0 e1 e2 e3 [] ∧ fwSame [19] σ σ') := by
  refine fwC_of (ls := [some (.ref 18), some (.ref 8), some (.ref 4), some (.ref 11)]) (by decide +kernel) rfl (by rw [fw_sl1]; exact Nat.le_refl 4) ?_
  refine fwRun_ok k_iMon_0_ok rfl trivial ?_
  refine fwg_objInit c_iMon_1 (by decide) (Nat.le_of_ble_eq_true rfl) d_iMon_1 ?_
  refine fwRun_ok k_iMon_4_ok rfl trivial ?_
  refine fwg_newa' 36 19 (e0 :: e1 :: e2 :: e3 :: sCon :: .inl (.byte, 8000) :: .inl (.byte, 2000) :: .inl (.int, 256) :: sPro :: .inl (.byte, 65536) :: .inl (.int, 8) :: sFil :: .inl (.byte, 512512) :: .inl (.int, 1944) :: .inl (.boolean, 486) :: .inl (.int, 36) :: .inl (.byte, 128) :: .inl (.int, 36) :: .inr (7, fwTmpl 7) :: .inl (.int, 36) :: []) (by decide) fwAc_int d_iMon_7 (by decide) (by decide) (by decide) (Nat.le_of_ble_eq_true rfl) (Nat.le_of_ble_eq_true rfl) rfl rfl ?_
  refine fwg_putR' (ci := 7) (kk := 3) (e0 :: e1 :: e2 :: e3 :: sCon :: .inl (.byte, 8000) :: .inl (.byte, 2000) :: .inl (.int, 256) :: sPro :: .inl (.byte, 65536) :: .inl (.int, 8) :: sFil :: .inl (.byte, 512512) :: .inl (.int, 1944) :: .inl (.boolean, 486) :: .inl (.int, 36) :: .inl (.byte, 128) :: .inl (.int, 36) :: .inr (7, [.null, .null, .null, .ref 19, .int 0, .int 0, .int 0, .int 0, .int 0]) :: .inl (.int, 36) :: []) rfl (by decide) (Or.inl ⟨_, rfl⟩) (List.mem_of_getElem? (i := 83) rfl) rfl rfl (fun _ => ⟨rfl, rfl⟩) rfl d_iMon_9 rfl ?_
  refine fwRun_ok k_iMon_12_ok rfl trivial ?_
  refine fwg_putR' (ci := 7) (kk := 0) (e0 :: e1 :: e2 :: e3 :: sCon :: .inl (.byte, 8000) :: .inl (.byte, 2000) :: .inl (.int, 256) :: sPro :: .inl (.byte, 65536) :: .inl (.int, 8) :: sFil :: .inl (.byte, 512512) :: .inl (.int, 1944) :: .inl (.boolean, 486) :: .inl (.int, 36) :: .inl (.byte, 128) :: .inl (.int, 36) :: .inr (7, [.ref 8, .null, .null, .ref 19, .int 0, .int 0, .int 0, .int 0, .int 0]) :: .inl (.int, 36) :: []) rfl (by decide) (Or.inl ⟨_, rfl⟩) (List.mem_of_getElem? (i := 77) rfl) rfl rfl (fun _ => ⟨rfl, rfl⟩) rfl d_iMon_14 rfl ?_
  refine fwRun_ok k_iMon_17_ok rfl trivial ?_
  refine fwg_putR' (ci := 7) (kk := 1) (e0 :: e1 :: e2 :: e3 :: sCon :: .inl (.byte, 8000) :: .inl (.byte, 2000) :: .inl (.int, 256) :: sPro :: .inl (.byte, 65536) :: .inl (.int, 8) :: sFil :: .inl (.byte, 512512) :: .inl (.int, 1944) :: .inl (.boolean, 486) :: .inl (.int, 36) :: .inl (.byte, 128) :: .inl (.int, 36) :: .inr (7, [.ref 8, .ref 4, .null, .ref 19, .int 0, .int 0, .int 0, .int 0, .int 0]) :: .inl (.int, 36) :: []) rfl (by decide) (Or.inl ⟨_, rfl⟩) (List.mem_of_getElem? (i := 79) rfl) rfl rfl (fun _ => ⟨rfl, rfl⟩) rfl d_iMon_19 rfl ?_
  refine fwRun_ok k_iMon_22_ok rfl trivial ?_
  refine fwg_putR' (ci := 7) (kk := 2) (e0 :: e1 :: e2 :: e3 :: sCon :: .inl (.byte, 8000) :: .inl (.byte, 2000) :: .inl (.int, 256) :: sPro :: .inl (.byte, 65536) :: .inl (.int, 8) :: sFil :: .inl (.byte, 512512) :: .inl (.int, 1944) :: .inl (.boolean, 486) :: .inl (.int, 36) :: .inl (.byte, 128) :: .inl (.int, 36) :: sMon :: .inl (.int, 36) :: []) rfl (by decide) (Or.inl ⟨_, rfl⟩) (List.mem_of_getElem? (i := 81) rfl) rfl rfl (fun _ => ⟨rfl, rfl⟩) rfl d_iMon_24 rfl ?_
  refine fwg_vret rfl (Nat.le_of_ble_eq_true rfl) (Nat.le_of_ble_eq_true rfl) ⟨rfl, rfl, ?_⟩ d_iMon_27
  exact fwSame_0 (by decide)
theorem ct_sectorOf {sh : List fwE} {i : Nat} (hi : i < 26) : fwC l Z m_sectorOf 1 0 0 [.int (nI i)] sh σ (fun w sh' σ' => (∃ q, w = some (.int (nI q)) ∧ 1 ≤ q ∧ q ≤ 26) ∧ sh' = sh ∧ σ' = σ) := by
  refine fwC_of (ls := [some (.int (nI i))]) (by decide +kernel) rfl (by rw [fw_sl1]; exact Nat.le_refl 1) ?_
  refine fwRun_ok k_sectorOf_0_ok rfl ⟨by decide, show ¬ (26 : Int32) = 0 by decide⟩ ?_
  refine fwg_iret rfl (Nat.le_refl _) (Nat.le_refl _) ⟨⟨1 + (6 * i + i / 13) % 26, ?_, by omega, by omega⟩, rfl, rfl⟩ d_sectorOf_14
  show some (Value.int (nI 1 + ((nI 6 * nI i + nI i / nI 13) - (nI 6 * nI i + nI i / nI 13) / nI 26 * nI 26))) = _
  rw [pk_mul, pk_div (by omega) (by decide) (by decide), nI_add, pk_rem (by omega) (by decide) (by decide), nI_add]
theorem ct_sectorPlace {sh : List fwE} {t s : Nat} (ht : t < 77) (hs : 1 ≤ s ∧ s ≤ 26) : fwC l Z m_sectorPlace 1 0 0 [.int 0, .int (nI t), .int (nI s)] sh σ (fun w sh' σ' => (∃ q, w = some (.int (nI q)) ∧ q + 128 ≤ 256256) ∧ sh' = sh ∧ σ' = σ) := by
  refine fwC_of (ls := [some (.int 0), some (.int (nI t)), some (.int (nI s))]) (by decide +kernel) rfl (by rw [fw_sl1]; exact Nat.le_refl 3) ?_
  refine fwRun_ok k_sectorPlace_0_ok rfl trivial ?_
  refine fwg_iret rfl (Nat.le_refl _) (Nat.le_refl _) ⟨⟨(t * 26 + s - 1) * 128, ?_, by omega⟩, rfl, rfl⟩ d_sectorPlace_17
  show some (Value.int ((0 : Int32) * 256256 + (nI t * nI 26 + nI s - nI 1) * nI 128)) = _
  rw [show (0 : Int32) * 256256 = nI 0 from by decide, pk_mul, nI_add, pk_sub (by omega), pk_mul, nI_add, Nat.zero_add]
abbrev shFil (e0 e1 e2 e3 : fwE) (re : List fwE) : List fwE := shCon e0 e1 e2 e3 (sPro :: .inl (.byte, 65536) :: .inl (.int, 8) :: sFil :: .inl (.byte, 512512) :: .inl (.int, 1944) :: .inl (.boolean, 486) :: .inl (.int, 36) :: .inl (.byte, 128) :: .inl (.int, 36) :: re)
theorem iFil_loop {Post : fwPost} {σ0 : fwS} (hp : ∀ σ', fwSame [13] σ0 σ' → (∀ k, k < 1944 → ∃ q, σ'.1 13 k = nI q ∧ q + 128 ≤ 256256) → Post none (shFil e0 e1 e2 e3 []) σ') : ∀ (q i : Nat) (σ : fwS), i + q = 1944 → fwSame [13] σ0 σ → (∀ k, k < i → ∃ q, σ.1 13 k = nI q ∧ q + 128 ≤ 256256) → fwG l Z m_iFil 2 6 515142 Post 6 515142 66 [some (.ref 11), some (.int (nI i))] [] (shFil e0 e1 e2 e3 []) σ := by
  intro q
  induction q with
  | zero =>
    intro i σ hi hs hk
    refine fwRun_ok k_iFil_66_ok rfl trivial ?_
    refine fwg_cmp 104 d_iFil_72 (by decide) (fun h => ?_) (fun h => absurd (nI_le (a := 1944) (by omega) (by omega)) h)
    exact fwg_vret rfl (Nat.le_refl _) (Nat.le_refl _) (hp σ hs (fun k hk' => hk k (by omega))) d_iFil_104
  | succ q ih =>
    intro i σ hi hs hk
    refine fwRun_ok k_iFil_66_ok rfl trivial ?_
    refine fwg_cmp 104 d_iFil_72 (by decide) (fun h => absurd (show nI 1944 ≤ nI i from h) (nI_ge (b := 1944) (by omega) (by decide))) (fun h => ?_)
    refine fwRun_ok k_iFil_75_ok rfl ⟨by decide, show ¬ (26 : Int32) = 0 by decide⟩ ?_
    have d1 : nI i / 26 = nI (i / 26) := pk_div (by omega) (d := 26) (by decide) (by decide)
    have d2 : nI i - nI i / 26 * 26 = nI (i % 26) := pk_rem (by omega) (d := 26) (by decide) (by decide)
    show fwG l Z m_iFil 2 6 515142 Post 6 515142 91 _ [.int (nI i - nI i / 26 * 26), .int (2 + nI i / 26), .int 0, .int (nI i), .ref 13] _ σ
    rw [d2, d1, show (2 : Int32) + nI (i / 26) = nI (2 + i / 26) from nI_add 2 _]
    refine fwg_callS (n := 1) (as := [.int (nI (i % 26))]) (r := [.int (nI (2 + i / 26)), .int 0, .int (nI i), .ref 13]) (ct_sectorOf (by omega)) ⟨by decide, by decide, by decide +kernel⟩ m_sectorOf_in c_iFil_91 rfl rfl (Nat.le_of_ble_eq_true rfl) d_iFil_91 ⟨Nat.le_refl _, Nat.le_of_ble_eq_true rfl⟩ ⟨Nat.le_refl _, Nat.le_refl _⟩ (fun v sh' σ1 hq => ?_)
    obtain ⟨⟨s, rfl, hs1, hs2⟩, rfl, rfl⟩ := hq
    refine fwg_callS (n := 3) (as := [.int 0, .int (nI (2 + i / 26)), .int (nI s)]) (r := [.int (nI i), .ref 13]) (ct_sectorPlace (by omega) ⟨hs1, hs2⟩) ⟨by decide, by decide, by decide +kernel⟩ m_sectorPlace_in c_iFil_94 rfl rfl (Nat.le_of_ble_eq_true rfl) d_iFil_94 ⟨Nat.le_refl _, Nat.le_of_ble_eq_true rfl⟩ ⟨Nat.le_refl _, Nat.le_refl _⟩ (fun v sh' σ2 hq => ?_)
    obtain ⟨⟨z, rfl, hz⟩, rfl, rfl⟩ := hq
    refine fwRun_ok k_iFil_97_ok rfl (vp_in_nI (by omega) (by decide)) ?_
    refine fwg_goto 66 d_iFil_101 (by decide) ?_
    have := ih (i + 1) (fwI σ2 13 (nI i).toNatClampNeg (nI z)) (by omega) (hs.tr (fwSame_I (by decide))) (fun k hk' => ?_)
    · rw [← nI_1] at this
      exact this
    · rw [nI_clamp (by omega)]
      by_cases hki : k = i
      · subst hki
        exact ⟨z, fwI_eq, hz⟩
      · rw [fwI_ne2 hki]
        exact hk k (by omega)
theorem ct_iFil : fwC l Z m_iFil 2 6 515142 [.ref 11] (shCon e0 e1 e2 e3 (sPro :: .inl (.byte, 65536) :: .inl (.int, 8) :: .inr (4, fwTmpl 4) :: [])) σ (fun w sh' σ' => w = none ∧ sh' = shFil e0 e1 e2 e3 [] ∧ fwSame [12, 13, 14, 15, 16, 17] σ σ' ∧ FilOk σ') := by
  refine fwC_of (ls := [some (.ref 11), none]) (by decide +kernel) rfl (by rw [fw_sl1]; exact Nat.le_of_ble_eq_true rfl) ?_
  refine fwRun_ok k_iFil_0_ok rfl trivial ?_
  refine fwg_objInit c_iFil_1 (by decide) (Nat.le_of_ble_eq_true rfl) d_iFil_1 ?_
  refine fwRun_ok k_iFil_4_ok rfl trivial ?_
  refine fwg_newa' 512512 12 (e0 :: e1 :: e2 :: e3 :: sCon :: .inl (.byte, 8000) :: .inl (.byte, 2000) :: .inl (.int, 256) :: sPro :: .inl (.byte, 65536) :: .inl (.int, 8) :: .inr (4, fwTmpl 4) :: .inl (.byte, 512512) :: []) (by decide) fwAc_byte d_iFil_7 (by decide) (by decide) (by decide) (Nat.le_of_ble_eq_true rfl) (Nat.le_of_ble_eq_true rfl) rfl rfl ?_
  refine fwg_putR' (ci := 4) (kk := 0) (e0 :: e1 :: e2 :: e3 :: sCon :: .inl (.byte, 8000) :: .inl (.byte, 2000) :: .inl (.int, 256) :: sPro :: .inl (.byte, 65536) :: .inl (.int, 8) :: .inr (4, [.ref 12, .null, .null, .null, .null, .null, .int 0, .int 0, .int 0, .int 0, .int 0, .int 0, .int 0, .int 0, .int 0]) :: .inl (.byte, 512512) :: []) rfl (by decide) (Or.inl ⟨_, rfl⟩) (List.mem_of_getElem? (i := 42) rfl) rfl rfl (fun _ => ⟨rfl, rfl⟩) rfl d_iFil_9 rfl ?_
  refine fwRun_ok k_iFil_12_ok rfl trivial ?_
  refine fwg_newa' 1944 13 (e0 :: e1 :: e2 :: e3 :: sCon :: .inl (.byte, 8000) :: .inl (.byte, 2000) :: .inl (.int, 256) :: sPro :: .inl (.byte, 65536) :: .inl (.int, 8) :: .inr (4, [.ref 12, .null, .null, .null, .null, .null, .int 0, .int 0, .int 0, .int 0, .int 0, .int 0, .int 0, .int 0, .int 0]) :: .inl (.byte, 512512) :: .inl (.int, 1944) :: []) (by decide) fwAc_int d_iFil_16 (by decide) (by decide) (by decide) (Nat.le_of_ble_eq_true rfl) (Nat.le_of_ble_eq_true rfl) rfl rfl ?_
  refine fwg_putR' (ci := 4) (kk := 1) (e0 :: e1 :: e2 :: e3 :: sCon :: .inl (.byte, 8000) :: .inl (.byte, 2000) :: .inl (.int, 256) :: sPro :: .inl (.byte, 65536) :: .inl (.int, 8) :: .inr (4, [.ref 12, .ref 13, .null, .null, .null, .null, .int 0, .int 0, .int 0, .int 0, .int 0, .int 0, .int 0, .int 0, .int 0]) :: .inl (.byte, 512512) :: .inl (.int, 1944) :: []) rfl (by decide) (Or.inl ⟨_, rfl⟩) (List.mem_of_getElem? (i := 47) rfl) rfl rfl (fun _ => ⟨rfl, rfl⟩) rfl d_iFil_18 rfl ?_
  refine fwRun_ok k_iFil_21_ok rfl trivial ?_
  refine fwg_newa' 486 14 (e0 :: e1 :: e2 :: e3 :: sCon :: .inl (.byte, 8000) :: .inl (.byte, 2000) :: .inl (.int, 256) :: sPro :: .inl (.byte, 65536) :: .inl (.int, 8) :: .inr (4, [.ref 12, .ref 13, .null, .null, .null, .null, .int 0, .int 0, .int 0, .int 0, .int 0, .int 0, .int 0, .int 0, .int 0]) :: .inl (.byte, 512512) :: .inl (.int, 1944) :: .inl (.boolean, 486) :: []) (by decide) fwAc_boolean d_iFil_25 (by decide) (by decide) (by decide) (Nat.le_of_ble_eq_true rfl) (Nat.le_of_ble_eq_true rfl) rfl rfl ?_
  refine fwg_putR' (ci := 4) (kk := 2) (e0 :: e1 :: e2 :: e3 :: sCon :: .inl (.byte, 8000) :: .inl (.byte, 2000) :: .inl (.int, 256) :: sPro :: .inl (.byte, 65536) :: .inl (.int, 8) :: .inr (4, [.ref 12, .ref 13, .ref 14, .null, .null, .null, .int 0, .int 0, .int 0, .int 0, .int 0, .int 0, .int 0, .int 0, .int 0]) :: .inl (.byte, 512512) :: .inl (.int, 1944) :: .inl (.boolean, 486) :: []) rfl (by decide) (Or.inl ⟨_, rfl⟩) (List.mem_of_getElem? (i := 49) rfl) rfl rfl (fun _ => ⟨rfl, rfl⟩) rfl d_iFil_27 rfl ?_
  refine fwRun_ok k_iFil_30_ok rfl trivial ?_
  refine fwg_newa' 36 15 (e0 :: e1 :: e2 :: e3 :: sCon :: .inl (.byte, 8000) :: .inl (.byte, 2000) :: .inl (.int, 256) :: sPro :: .inl (.byte, 65536) :: .inl (.int, 8) :: .inr (4, [.ref 12, .ref 13, .ref 14, .null, .null, .null, .int 0, .int 0, .int 0, .int 0, .int 0, .int 0, .int 0, .int 0, .int 0]) :: .inl (.byte, 512512) :: .inl (.int, 1944) :: .inl (.boolean, 486) :: .inl (.int, 36) :: []) (by decide) fwAc_int d_iFil_33 (by decide) (by decide) (by decide) (Nat.le_of_ble_eq_true rfl) (Nat.le_of_ble_eq_true rfl) rfl rfl ?_
  refine fwg_putR' (ci := 4) (kk := 3) (e0 :: e1 :: e2 :: e3 :: sCon :: .inl (.byte, 8000) :: .inl (.byte, 2000) :: .inl (.int, 256) :: sPro :: .inl (.byte, 65536) :: .inl (.int, 8) :: .inr (4, [.ref 12, .ref 13, .ref 14, .ref 15, .null, .null, .int 0, .int 0, .int 0, .int 0, .int 0, .int 0, .int 0, .int 0, .int 0]) :: .inl (.byte, 512512) :: .inl (.int, 1944) :: .inl (.boolean, 486) :: .inl (.int, 36) :: []) rfl (by decide) (Or.inl ⟨_, rfl⟩) (List.mem_of_getElem? (i := 51) rfl) rfl rfl (fun _ => ⟨rfl, rfl⟩) rfl d_iFil_35 rfl ?_
  refine fwRun_ok k_iFil_38_ok rfl trivial ?_
  refine fwg_newa' 128 16 (e0 :: e1 :: e2 :: e3 :: sCon :: .inl (.byte, 8000) :: .inl (.byte, 2000) :: .inl (.int, 256) :: sPro :: .inl (.byte, 65536) :: .inl (.int, 8) :: .inr (4, [.ref 12, .ref 13, .ref 14, .ref 15, .null, .null, .int 0, .int 0, .int 0, .int 0, .int 0, .int 0, .int 0, .int 0, .int 0]) :: .inl (.byte, 512512) :: .inl (.int, 1944) :: .inl (.boolean, 486) :: .inl (.int, 36) :: .inl (.byte, 128) :: []) (by decide) fwAc_byte d_iFil_42 (by decide) (by decide) (by decide) (Nat.le_of_ble_eq_true rfl) (Nat.le_of_ble_eq_true rfl) rfl rfl ?_
  refine fwg_putR' (ci := 4) (kk := 4) (e0 :: e1 :: e2 :: e3 :: sCon :: .inl (.byte, 8000) :: .inl (.byte, 2000) :: .inl (.int, 256) :: sPro :: .inl (.byte, 65536) :: .inl (.int, 8) :: .inr (4, [.ref 12, .ref 13, .ref 14, .ref 15, .ref 16, .null, .int 0, .int 0, .int 0, .int 0, .int 0, .int 0, .int 0, .int 0, .int 0]) :: .inl (.byte, 512512) :: .inl (.int, 1944) :: .inl (.boolean, 486) :: .inl (.int, 36) :: .inl (.byte, 128) :: []) rfl (by decide) (Or.inl ⟨_, rfl⟩) (List.mem_of_getElem? (i := 54) rfl) rfl rfl (fun _ => ⟨rfl, rfl⟩) rfl d_iFil_44 rfl ?_
  refine fwRun_ok k_iFil_47_ok rfl trivial ?_
  refine fwg_newa' 36 17 (e0 :: e1 :: e2 :: e3 :: sCon :: .inl (.byte, 8000) :: .inl (.byte, 2000) :: .inl (.int, 256) :: sPro :: .inl (.byte, 65536) :: .inl (.int, 8) :: .inr (4, [.ref 12, .ref 13, .ref 14, .ref 15, .ref 16, .null, .int 0, .int 0, .int 0, .int 0, .int 0, .int 0, .int 0, .int 0, .int 0]) :: .inl (.byte, 512512) :: .inl (.int, 1944) :: .inl (.boolean, 486) :: .inl (.int, 36) :: .inl (.byte, 128) :: .inl (.int, 36) :: []) (by decide) fwAc_int d_iFil_50 (by decide) (by decide) (by decide) (Nat.le_of_ble_eq_true rfl) (Nat.le_of_ble_eq_true rfl) rfl rfl ?_
  refine fwg_putR' (ci := 4) (kk := 5) (e0 :: e1 :: e2 :: e3 :: sCon :: .inl (.byte, 8000) :: .inl (.byte, 2000) :: .inl (.int, 256) :: sPro :: .inl (.byte, 65536) :: .inl (.int, 8) :: sFil :: .inl (.byte, 512512) :: .inl (.int, 1944) :: .inl (.boolean, 486) :: .inl (.int, 36) :: .inl (.byte, 128) :: .inl (.int, 36) :: []) rfl (by decide) (Or.inl ⟨_, rfl⟩) (List.mem_of_getElem? (i := 57) rfl) rfl rfl (fun _ => ⟨rfl, rfl⟩) rfl d_iFil_52 rfl ?_
  refine fwRun_ok k_iFil_55_ok rfl trivial ?_
  refine fwg_callS (n := 2) (as := [.ref 12, .int (-27)]) (r := []) (ct_fillB (n := 512512) rfl (by decide)) ⟨by decide, by decide, by decide +kernel⟩ m_fillB_in c_iFil_61 rfl rfl (Nat.le_of_ble_eq_true rfl) d_iFil_61 ⟨Nat.le_of_ble_eq_true rfl, Nat.le_of_ble_eq_true rfl⟩ ⟨Nat.le_refl _, Nat.le_refl _⟩ (fun v sh' σ1 hq => ?_)
  obtain ⟨rfl, rfl, hs1⟩ := hq
  have hS1 : fwSame [12, 13, 14, 15, 16, 17] σ σ1 := by
    rw [hs1]
    exact ((((((fwSame_0 (by decide)).tr (fwSame_0 (by decide))).tr (fwSame_0 (by decide))).tr (fwSame_0 (by decide))).tr (fwSame_0 (by decide))).tr (fwSame_0 (by decide))).tr (fwSame_A (by decide))
  have hf : ∀ j, j < 512512 → σ1.1 12 j = -27 := fun j hj => by
    rw [hs1, fwA_at]
    exact if_pos hj
  clear hs1
  refine fwRun_ok k_iFil_64_ok rfl trivial ?_
  exact iFil_loop (σ0 := σ1) (fun σ' h1 h2 => ⟨rfl, rfl, hS1.tr (h1.up (by decide)), fun j hj => by rw [h1.c (by decide)]; exact hf j hj, h2⟩) 1944 0 σ1 rfl fwSame.rf (fun k hk => absurd hk (Nat.not_lt_zero k))
end INI
end
section
/-! packedWords -/
theorem fw_f3 : ((3 : Fin 4) : Nat) = 3 := rfl
section PW
variable {l : Launch} {Z : fwZ} {sh : List fwE} {σ : fwS}
theorem fwg_aret {M : fwM} {d mc ms : Nat} {Post : fwPost} {nc ns pc : Nat} {ls : List (Option Value)} {i : Nat} {t : FieldType} (hr : M.2.2.2 = some (.array t)) (hc : nc ≤ mc) (hs : ns ≤ ms) (hp : Post (some (.ref i)) sh σ) (hd : decode M.2.1 pc = .ok (.areturn, 1)) : fwG l Z M d mc ms Post nc ns pc ls [.ref i] sh σ := by
  intro p e s m args below meth c H locs Ls hE hO hS hL
  obtain ⟨hx, hb, hrt, -, -, -, hlk, -⟩ := hE
  refine W.widen hc hs ?_
  exact W.aret hx hb (by rw [hrt, hr]) (Or.inr ⟨t, rfl⟩) (Or.inr ⟨_, rfl⟩) (fun t ht _ => ⟨⟨some (.ref i), sh, σ, rfl, hp, by rw [ht]; exact hO⟩, hS.F ht⟩) (fun q hq => hS.2.2 q hq) hd
theorem ct_packed {w : Int64} {x : Int32} : fwC l Z m_packed 1 0 0 [.long w, .int x] sh σ (fwPure (.long (w * 128 + x.toInt64)) sh σ) := by
  refine fwC_of (ls := [some (.long w), none, some (.int x)]) (by decide +kernel) rfl (by rw [fw_sl1]; exact Nat.le_refl 3) ?_
  refine fwRun_ok k_packed_0_ok rfl trivial ?_
  exact fwg_lret rfl (Nat.le_refl _) (Nat.le_refl _) ⟨rfl, rfl, rfl⟩ d_packed_8
theorem pw_loop {c n N : Nat} {σ0 : fwS} (hc : c < fwNs) (hN : N < 2 ^ 31) (hsh : sh[n]? = some (.inl (.long, N))) {Post : fwPost} (hp : ∀ σ', fwSame [n] σ0 σ' → Post (some (.ref n)) sh σ') : ∀ (q i idx : Nat) (w : Int64) (σ : fwS), i + q = fwSl.getD c 0 + 1 → idx ≤ N → fwSame [n] σ0 σ → fwG l Z m_packedWords 5 1 N Post 1 N 12 [some (.retAddr c), some (.int (nI N)), some (.ref n), some (.int (nI idx)), some (.long w), none, some (.int (nI i))] [] sh σ := by
  obtain ⟨-, hL, -⟩ := fw_sc c hc
  have hL2 : fwSl.getD c 0 < 1000 := by
    have : ∀ c, c < fwNs → fwSl.getD c 0 < 1000 := by decide +kernel
    exact this c hc
  intro q
  induction q with
  | zero =>
    intro i idx w σ hi hx hs
    refine fwRun_ok k_packedWords_12_ok rfl trivial ?_
    refine fwg_callK (n := 0) (as := []) (r := [.int (nI i)]) (ct_slen hc) ⟨by decide, by decide, by decide +kernel⟩ rfl m_slen_in c_packedWords_15 hc rfl rfl (Nat.le_of_ble_eq_true rfl) d_packedWords_15 ⟨Nat.le_of_ble_eq_true rfl, Nat.le_of_ble_eq_true rfl⟩ ⟨Nat.le_refl _, Nat.le_refl _⟩ (fun v sh' σ' hq => ?_)
    obtain ⟨rfl, rfl, rfl⟩ := hq
    refine fwg_cmp 79 d_packedWords_18 (by decide) (fun h => ?_) (fun h => absurd (nI_lt (a := fwSl.getD c 0) (b := i) (by omega) (by omega)) h)
    refine fwRun_ok k_packedWords_79_ok rfl trivial ?_
    exact fwg_aret rfl (Nat.le_refl _) (Nat.le_refl _) (hp σ' hs) d_packedWords_80
  | succ q ih =>
    intro i idx w σ hi hx hs
    refine fwRun_ok k_packedWords_12_ok rfl trivial ?_
    refine fwg_callK (n := 0) (as := []) (r := [.int (nI i)]) (ct_slen hc) ⟨by decide, by decide, by decide +kernel⟩ rfl m_slen_in c_packedWords_15 hc rfl rfl (Nat.le_of_ble_eq_true rfl) d_packedWords_15 ⟨Nat.le_of_ble_eq_true rfl, Nat.le_of_ble_eq_true rfl⟩ ⟨Nat.le_refl _, Nat.le_refl _⟩ (fun v sh' σ' hq => ?_)
    obtain ⟨rfl, rfl, rfl⟩ := hq
    refine fwg_cmp 79 d_packedWords_18 (by decide) (fun h => absurd (show nI (fwSl.getD c 0) < nI i from h) (nI_nlt (by omega) (by omega))) (fun h => ?_)
    refine fwRun_ok k_packedWords_21_ok rfl trivial ?_
    refine fwg_cmp 79 d_packedWords_23 (by decide) (fun h => ?_) (fun h2 => ?_)
    · refine fwRun_ok k_packedWords_79_ok rfl trivial ?_
      exact fwg_aret rfl (Nat.le_refl _) (Nat.le_refl _) (hp σ' hs) d_packedWords_80
    have hlt : idx < N := by
      rcases Nat.lt_or_ge idx N with z | z
      · exact z
      · exact absurd (nI_le z (by omega)) h2
    have next : ∀ (idx2 : Nat) (w2 : Int64) (σ2 : fwS), idx2 ≤ N → fwSame [n] σ0 σ2 → fwG l Z m_packedWords 5 1 N Post 1 N 73 [some (.retAddr c), some (.int (nI N)), some (.ref n), some (.int (nI idx2)), some (.long w2), none, some (.int (nI i))] [] sh' σ2 := by
      intro idx2 w2 σ2 h3 h4
      refine fwRun_ok k_packedWords_73_ok rfl trivial ?_
      refine fwg_goto 12 d_packedWords_76 (by decide) ?_
      have := ih (i + 1) idx2 w2 σ2 (by omega) h3 h4
      rw [← nI_1] at this
      exact this
    have store : fwG l Z m_packedWords 5 1 N Post 1 N 46 [some (.retAddr c), some (.int (nI N)), some (.ref n), some (.int (nI idx)), some (.long w), none, some (.int (nI i))] [] sh' σ' := by
      refine fwRun_ok (φs := [vp_in (nI idx) N]) (ls' := [some (.retAddr c), some (.int (nI N)), some (.ref n), some (.int (nI idx + 1)), some (.long 1), none, some (.int (nI i))]) (st' := []) (sh' := sh') (σ' := fwL σ' n (nI idx).toNatClampNeg w) k_packedWords_46_ok (by simp [fwRun, k_packedWords_46, fwStep, hsh, fwSet1, fwSet2, fwKill, fw_f3]) (vp_in_nI hlt hN) ?_
      refine fwg_goto 73 d_packedWords_57 (by decide) ?_
      rw [nI_1]
      exact next (idx + 1) 1 _ (by omega) (hs.tr (fwSame_L (by simp)))
    refine fwRun_ok k_packedWords_26_ok rfl trivial ?_
    refine fwg_callK (n := 0) (as := []) (r := [.int (nI i)]) (ct_slen hc) ⟨by decide, by decide, by decide +kernel⟩ rfl m_slen_in c_packedWords_29 hc rfl rfl (Nat.le_of_ble_eq_true rfl) d_packedWords_29 ⟨Nat.le_of_ble_eq_true rfl, Nat.le_of_ble_eq_true rfl⟩ ⟨Nat.le_refl _, Nat.le_refl _⟩ (fun v sh1 σ1 hq => ?_)
    obtain ⟨rfl, rfl, rfl⟩ := hq
    refine fwg_cmp 46 d_packedWords_32 (by decide) (fun h3 => store) (fun h3 => ?_)
    have hil : i < fwSl.getD c 0 := by
      rcases Nat.lt_or_ge i (fwSl.getD c 0) with z | z
      · exact z
      · exact absurd (show nI i = nI (fwSl.getD c 0) by rw [show i = fwSl.getD c 0 by omega]) h3
    refine fwRun_ok k_packedWords_35_ok rfl trivial ?_
    refine fwg_callK (n := 1) (as := [.int (nI i)]) (r := []) (ct_schar (j := i) hc hil) ⟨by decide, by decide, by decide +kernel⟩ rfl m_schar_in c_packedWords_38 hc rfl rfl (Nat.le_of_ble_eq_true rfl) d_packedWords_38 ⟨Nat.le_of_ble_eq_true rfl, Nat.le_of_ble_eq_true rfl⟩ ⟨Nat.le_refl _, Nat.le_refl _⟩ (fun v sh2 σ2 hq => ?_)
    obtain ⟨rfl, rfl, rfl⟩ := hq
    refine fwRun_ok k_packedWords_41_ok rfl trivial ?_
    refine fwg_cmp 60 d_packedWords_43 (by decide) (fun h4 => ?_) (fun h4 => store)
    refine fwRun_ok k_packedWords_60_ok rfl trivial ?_
    refine fwg_callK (n := 1) (as := [.int (nI i)]) (r := [.long w]) (ct_schar (j := i) hc hil) ⟨by decide, by decide, by decide +kernel⟩ rfl m_schar_in c_packedWords_65 hc rfl rfl (Nat.le_of_ble_eq_true rfl) d_packedWords_65 ⟨Nat.le_of_ble_eq_true rfl, Nat.le_of_ble_eq_true rfl⟩ ⟨Nat.le_refl _, Nat.le_refl _⟩ (fun v sh3 σ3 hq => ?_)
    obtain ⟨rfl, rfl, rfl⟩ := hq
    refine fwg_callS (n := 2) (as := [.long w, .int (fwCh c i)]) (r := []) ct_packed ⟨by decide, by decide, by decide +kernel⟩ m_packed_in c_packedWords_68 rfl rfl (Nat.le_of_ble_eq_true rfl) d_packedWords_68 ⟨Nat.le_of_ble_eq_true rfl, Nat.le_of_ble_eq_true rfl⟩ ⟨Nat.le_refl _, Nat.le_refl _⟩ (fun v sh4 σ4 hq => ?_)
    obtain ⟨rfl, rfl, rfl⟩ := hq
    refine fwRun_ok k_packedWords_71_ok rfl trivial ?_
    exact next idx _ _ hx hs
theorem ct_packedWords {c N : Nat} (hc : c < fwNs) (hN : N < 1000) : fwC l Z m_packedWords 5 1 N [.retAddr c, .int (nI N)] sh σ (fun v sh' σ' => v = some (.ref sh.length) ∧ sh' = sh ++ [.inl (.long, N)] ∧ fwSame [sh.length] σ σ') := by
  refine fwC_of (ls := [some (.retAddr c), some (.int (nI N)), none, none, none, none, none]) (by decide +kernel) rfl (by rw [fw_sl1]; exact Nat.le_of_ble_eq_true rfl) ?_
  refine fwRun_ok k_packedWords_0_ok rfl trivial ?_
  refine fwg_newa' N sh.length (sh ++ [.inl (.long, N)]) (by decide) fwAc_long d_packedWords_1 (nI_pos (by omega)) (nI_clamp (by omega)) (by show N * 8 ≤ _; omega) (by omega) (by omega) rfl rfl ?_
  refine fwRun_ok k_packedWords_3_ok rfl trivial ?_
  have h := pw_loop (l := l) (Z := Z) (sh := sh ++ [.inl (.long, N)]) (c := c) (n := sh.length) (N := N) (σ0 := fwZero σ sh.length) hc (by omega) (by rw [List.getElem?_append_right (Nat.le_refl _), Nat.sub_self]; rfl) (Post := fun v sh' σ' => v = some (.ref sh.length) ∧ sh' = sh ++ [.inl (.long, N)] ∧ fwSame [sh.length] σ σ') (fun σ' h => ⟨rfl, rfl, (fwSame_0 (by simp)).tr h⟩) (fwSl.getD c 0 + 1) 0 0 1 _ (by omega) (Nat.zero_le _) fwSame.rf
  rw [show (0 : Nat) + 1 = 1 from rfl, Nat.zero_add]
  exact h
end PW
end
section
/-! the constructors of shell, assembler, lister (laid by wip/whole/t6.py) -/
def sHex : fwE := .inr (5, [.ref 22, .int 0, .int 0, .int 0, .int 0, .int 0, .int 0, .int 0, .int 0])
def sRea : fwE := .inr (9, [.ref 11, .ref 30, .ref 31, .int 0, .int 0, .int 0, .int 0, .int 0])
def sShe : fwE := .inr (10, [.ref 18, .ref 8, .ref 4, .ref 11, .ref 29, .ref 21, .ref 23, .ref 24, .ref 25, .ref 26, .ref 27, .ref 28, .int 0, .int 0, .int 0, .int 0, .int 0, .int 0, .int 0])
def sAsm : fwE := .inr (2, [.ref 1, .ref 2, .ref 33, .ref 34, .ref 35, .ref 36, .ref 37, .int 0, .long 0, .int 0, .int 0, .int 0, .int 0, .int 0, .int 0, .int 0, .int 0, .int 0, .long 0, .int 0, .int 0])
def sLis : fwE := .inr (6, [.ref 9, .ref 2, .int 0])
section INS
variable {l : Launch} {Z : fwZ} {e0 e1 e2 e3 : fwE} {σ : fwS}
theorem ct_iHex {f0 : fwE} : fwC l Z m_iHex 1 1 58112 [.ref 21] (shMon e0 e1 e2 e3 [f0, .inr (5, fwTmpl 5)]) σ (fun w sh' σ' => w = none ∧ sh' = shMon e0 e1 e2 e3 [f0, sHex, .inl (.byte, 58112)] ∧ fwSame [22] σ σ') := by
  refine fwC_of (ls := [some (.ref 21)]) (by decide +kernel) rfl (by rw [fw_sl1]; exact Nat.le_refl 1) ?_
  refine fwRun_ok k_iHex_0_ok rfl trivial ?_
  refine fwg_objInit c_iHex_1 (by decide) (Nat.le_of_ble_eq_true rfl) d_iHex_1 ?_
  refine fwRun_ok k_iHex_4_ok rfl trivial ?_
  refine fwg_newa' 58112 22 (e0 :: e1 :: e2 :: e3 :: sCon :: .inl (.byte, 8000) :: .inl (.byte, 2000) :: .inl (.int, 256) :: sPro :: .inl (.byte, 65536) :: .inl (.int, 8) :: sFil :: .inl (.byte, 512512) :: .inl (.int, 1944) :: .inl (.boolean, 486) :: .inl (.int, 36) :: .inl (.byte, 128) :: .inl (.int, 36) :: sMon :: .inl (.int, 36) :: f0 :: .inr (5, fwTmpl 5) :: .inl (.byte, 58112) :: []) (by decide) fwAc_byte d_iHex_7 (by decide) (by decide) (by decide) (Nat.le_of_ble_eq_true rfl) (Nat.le_of_ble_eq_true rfl) rfl rfl ?_
  refine fwg_putR' (ci := 5) (kk := 0) (e0 :: e1 :: e2 :: e3 :: sCon :: .inl (.byte, 8000) :: .inl (.byte, 2000) :: .inl (.int, 256) :: sPro :: .inl (.byte, 65536) :: .inl (.int, 8) :: sFil :: .inl (.byte, 512512) :: .inl (.int, 1944) :: .inl (.boolean, 486) :: .inl (.int, 36) :: .inl (.byte, 128) :: .inl (.int, 36) :: sMon :: .inl (.int, 36) :: f0 :: sHex :: .inl (.byte, 58112) :: []) rfl (by decide) (Or.inl ⟨_, rfl⟩) (List.mem_of_getElem? (i := 93) rfl) rfl rfl (fun _ => ⟨rfl, rfl⟩) rfl d_iHex_9 rfl ?_
  exact fwg_vret rfl (Nat.le_of_ble_eq_true rfl) (Nat.le_of_ble_eq_true rfl) ⟨rfl, rfl, fwSame_0 (by decide)⟩ d_iHex_12
theorem ct_iRea {f0 f1 f2 f3 f4 f5 f6 f7 f8 : fwE} : fwC l Z m_iRea 1 2 164 [.ref 29, .ref 11] (shMon e0 e1 e2 e3 [f0, f1, f2, f3, f4, f5, f6, f7, f8, .inr (9, fwTmpl 9)]) σ (fun w sh' σ' => w = none ∧ sh' = shMon e0 e1 e2 e3 [f0, f1, f2, f3, f4, f5, f6, f7, f8, sRea, .inl (.int, 36), .inl (.byte, 128)] ∧ fwSame [30, 31] σ σ') := by
  refine fwC_of (ls := [some (.ref 29), some (.ref 11)]) (by decide +kernel) rfl (by rw [fw_sl1]; exact Nat.le_refl 2) ?_
  refine fwRun_ok k_iRea_0_ok rfl trivial ?_
  refine fwg_objInit c_iRea_1 (by decide) (Nat.le_of_ble_eq_true rfl) d_iRea_1 ?_
  refine fwRun_ok k_iRea_4_ok rfl trivial ?_
  refine fwg_newa' 36 30 (e0 :: e1 :: e2 :: e3 :: sCon :: .inl (.byte, 8000) :: .inl (.byte, 2000) :: .inl (.int, 256) :: sPro :: .inl (.byte, 65536) :: .inl (.int, 8) :: sFil :: .inl (.byte, 512512) :: .inl (.int, 1944) :: .inl (.boolean, 486) :: .inl (.int, 36) :: .inl (.byte, 128) :: .inl (.int, 36) :: sMon :: .inl (.int, 36) :: f0 :: f1 :: f2 :: f3 :: f4 :: f5 :: f6 :: f7 :: f8 :: .inr (9, fwTmpl 9) :: .inl (.int, 36) :: []) (by decide) fwAc_int d_iRea_7 (by decide) (by decide) (by decide) (Nat.le_of_ble_eq_true rfl) (Nat.le_of_ble_eq_true rfl) rfl rfl ?_
  refine fwg_putR' (ci := 9) (kk := 1) (e0 :: e1 :: e2 :: e3 :: sCon :: .inl (.byte, 8000) :: .inl (.byte, 2000) :: .inl (.int, 256) :: sPro :: .inl (.byte, 65536) :: .inl (.int, 8) :: sFil :: .inl (.byte, 512512) :: .inl (.int, 1944) :: .inl (.boolean, 486) :: .inl (.int, 36) :: .inl (.byte, 128) :: .inl (.int, 36) :: sMon :: .inl (.int, 36) :: f0 :: f1 :: f2 :: f3 :: f4 :: f5 :: f6 :: f7 :: f8 :: .inr (9, [.null, .ref 30, .null, .int 0, .int 0, .int 0, .int 0, .int 0]) :: .inl (.int, 36) :: []) rfl (by decide) (Or.inl ⟨_, rfl⟩) (List.mem_of_getElem? (i := 104) rfl) rfl rfl (fun _ => ⟨rfl, rfl⟩) rfl d_iRea_9 rfl ?_
  refine fwRun_ok k_iRea_12_ok rfl trivial ?_
  refine fwg_newa' 128 31 (e0 :: e1 :: e2 :: e3 :: sCon :: .inl (.byte, 8000) :: .inl (.byte, 2000) :: .inl (.int, 256) :: sPro :: .inl (.byte, 65536) :: .inl (.int, 8) :: sFil :: .inl (.byte, 512512) :: .inl (.int, 1944) :: .inl (.boolean, 486) :: .inl (.int, 36) :: .inl (.byte, 128) :: .inl (.int, 36) :: sMon :: .inl (.int, 36) :: f0 :: f1 :: f2 :: f3 :: f4 :: f5 :: f6 :: f7 :: f8 :: .inr (9, [.null, .ref 30, .null, .int 0, .int 0, .int 0, .int 0, .int 0]) :: .inl (.int, 36) :: .inl (.byte, 128) :: []) (by decide) fwAc_byte d_iRea_16 (by decide) (by decide) (by decide) (Nat.le_of_ble_eq_true rfl) (Nat.le_of_ble_eq_true rfl) rfl rfl ?_
  refine fwg_putR' (ci := 9) (kk := 2) (e0 :: e1 :: e2 :: e3 :: sCon :: .inl (.byte, 8000) :: .inl (.byte, 2000) :: .inl (.int, 256) :: sPro :: .inl (.byte, 65536) :: .inl (.int, 8) :: sFil :: .inl (.byte, 512512) :: .inl (.int, 1944) :: .inl (.boolean, 486) :: .inl (.int, 36) :: .inl (.byte, 128) :: .inl (.int, 36) :: sMon :: .inl (.int, 36) :: f0 :: f1 :: f2 :: f3 :: f4 :: f5 :: f6 :: f7 :: f8 :: .inr (9, [.null, .ref 30, .ref 31, .int 0, .int 0, .int 0, .int 0, .int 0]) :: .inl (.int, 36) :: .inl (.byte, 128) :: []) rfl (by decide) (Or.inl ⟨_, rfl⟩) (List.mem_of_getElem? (i := 105) rfl) rfl rfl (fun _ => ⟨rfl, rfl⟩) rfl d_iRea_18 rfl ?_
  refine fwRun_ok k_iRea_21_ok rfl trivial ?_
  refine fwg_putR' (ci := 9) (kk := 0) (e0 :: e1 :: e2 :: e3 :: sCon :: .inl (.byte, 8000) :: .inl (.byte, 2000) :: .inl (.int, 256) :: sPro :: .inl (.byte, 65536) :: .inl (.int, 8) :: sFil :: .inl (.byte, 512512) :: .inl (.int, 1944) :: .inl (.boolean, 486) :: .inl (.int, 36) :: .inl (.byte, 128) :: .inl (.int, 36) :: sMon :: .inl (.int, 36) :: f0 :: f1 :: f2 :: f3 :: f4 :: f5 :: f6 :: f7 :: f8 :: sRea :: .inl (.int, 36) :: .inl (.byte, 128) :: []) rfl (by decide) (Or.inl ⟨_, rfl⟩) (List.mem_of_getElem? (i := 103) rfl) rfl rfl (fun _ => ⟨rfl, rfl⟩) rfl d_iRea_23 rfl ?_
  exact fwg_vret rfl (Nat.le_of_ble_eq_true rfl) (Nat.le_of_ble_eq_true rfl) ⟨rfl, rfl, (fwSame_0 (by decide)).tr (fwSame_0 (by decide))⟩ d_iRea_26
theorem ct_iShe : fwC l Z m_iShe 6 11 58506 [.ref 20, .ref 18] (shMon e0 e1 e2 e3 [.inr (10, fwTmpl 10)]) σ (fun w sh' σ' => w = none ∧ sh' = shMon e0 e1 e2 e3 [sShe, sHex, .inl (.byte, 58112), .inl (.long, 10), .inl (.int, 127), .inl (.int, 2), .inl (.int, 2), .inl (.int, 36), .inl (.int, 36), sRea, .inl (.int, 36), .inl (.byte, 128)] ∧ fwSame [21, 22, 23, 24, 25, 26, 27, 28, 29, 30, 31] σ σ') := by
  refine fwC_of (ls := [some (.ref 20), some (.ref 18)]) (by decide +kernel) rfl (by rw [fw_sl1]; exact Nat.le_refl 2) ?_
  refine fwRun_ok k_iShe_0_ok rfl trivial ?_
  refine fwg_objInit c_iShe_1 (by decide) (Nat.le_of_ble_eq_true rfl) d_iShe_1 ?_
  refine fwRun_ok k_iShe_4_ok rfl trivial ?_
  refine fwg_new' 5 21 (e0 :: e1 :: e2 :: e3 :: sCon :: .inl (.byte, 8000) :: .inl (.byte, 2000) :: .inl (.int, 256) :: sPro :: .inl (.byte, 65536) :: .inl (.int, 8) :: sFil :: .inl (.byte, 512512) :: .inl (.int, 1944) :: .inl (.boolean, 486) :: .inl (.int, 36) :: .inl (.byte, 128) :: .inl (.int, 36) :: sMon :: .inl (.int, 36) :: .inr (10, fwTmpl 10) :: .inr (5, fwTmpl 5) :: []) rfl c_iShe_5 d_iShe_5 (Nat.le_of_ble_eq_true rfl) (Nat.le_of_ble_eq_true rfl) rfl rfl ?_
  refine fwRun_ok k_iShe_8_ok rfl trivial ?_
  refine fwg_callIN (n := 0) (i := 21) (as := []) (r := [.ref 21, .ref 20]) ct_iHex ⟨by decide, by decide, by decide +kernel⟩ rfl rfl m_iHex_in (List.mem_of_getElem? (i := 1) rfl) c_iShe_9 rfl rfl (Nat.le_of_ble_eq_true rfl) d_iShe_9 ⟨Nat.le_of_ble_eq_true rfl, Nat.le_of_ble_eq_true rfl⟩ ⟨Nat.le_of_ble_eq_true rfl, Nat.le_of_ble_eq_true rfl⟩ (fun v sh' σ' hq => ?_)
  obtain ⟨rfl, rfl, hS1⟩ := hq
  refine fwg_putR' (ci := 10) (kk := 5) (e0 :: e1 :: e2 :: e3 :: sCon :: .inl (.byte, 8000) :: .inl (.byte, 2000) :: .inl (.int, 256) :: sPro :: .inl (.byte, 65536) :: .inl (.int, 8) :: sFil :: .inl (.byte, 512512) :: .inl (.int, 1944) :: .inl (.boolean, 486) :: .inl (.int, 36) :: .inl (.byte, 128) :: .inl (.int, 36) :: sMon :: .inl (.int, 36) :: .inr (10, [.null, .null, .null, .null, .null, .ref 21, .null, .null, .null, .null, .null, .null, .int 0, .int 0, .int 0, .int 0, .int 0, .int 0, .int 0]) :: sHex :: .inl (.byte, 58112) :: []) rfl (by decide) (Or.inl ⟨_, rfl⟩) (List.mem_of_getElem? (i := 117) rfl) rfl rfl (fun _ => ⟨rfl, rfl⟩) rfl d_iShe_12 rfl ?_
  refine fwRun_ok k_iShe_15_ok rfl trivial ?_
  refine fwg_callSN (n := 2) (as := [.retAddr 0, .int 10]) (r := [.ref 20]) (ct_packedWords (c := 0) (N := 10) (by decide) (by decide)) ⟨by decide, by decide, by decide +kernel⟩ m_packedWords_in (List.mem_of_getElem? (i := 2) rfl) c_iShe_20 rfl rfl (Nat.le_of_ble_eq_true rfl) d_iShe_20 ⟨Nat.le_of_ble_eq_true rfl, Nat.le_of_ble_eq_true rfl⟩ ⟨Nat.le_of_ble_eq_true rfl, Nat.le_of_ble_eq_true rfl⟩ (fun v sh' σ2 hq => ?_)
  obtain ⟨rfl, hsh2, hS2⟩ := hq
  have hsh3 : sh' = (e0 :: e1 :: e2 :: e3 :: sCon :: .inl (.byte, 8000) :: .inl (.byte, 2000) :: .inl (.int, 256) :: sPro :: .inl (.byte, 65536) :: .inl (.int, 8) :: sFil :: .inl (.byte, 512512) :: .inl (.int, 1944) :: .inl (.boolean, 486) :: .inl (.int, 36) :: .inl (.byte, 128) :: .inl (.int, 36) :: sMon :: .inl (.int, 36) :: .inr (10, [.null, .null, .null, .null, .null, .ref 21, .null, .null, .null, .null, .null, .null, .int 0, .int 0, .int 0, .int 0, .int 0, .int 0, .int 0]) :: sHex :: .inl (.byte, 58112) :: .inl (.long, 10) :: []) := hsh2
  subst hsh3
  have hS2 : fwSame [23] _ σ2 := hS2
  show fwG l Z m_iShe _ _ _ _ _ _ 23 _ [.ref 23, .ref 20] _ σ2
  refine fwg_putR' (ci := 10) (kk := 6) (e0 :: e1 :: e2 :: e3 :: sCon :: .inl (.byte, 8000) :: .inl (.byte, 2000) :: .inl (.int, 256) :: sPro :: .inl (.byte, 65536) :: .inl (.int, 8) :: sFil :: .inl (.byte, 512512) :: .inl (.int, 1944) :: .inl (.boolean, 486) :: .inl (.int, 36) :: .inl (.byte, 128) :: .inl (.int, 36) :: sMon :: .inl (.int, 36) :: .inr (10, [.null, .null, .null, .null, .null, .ref 21, .ref 23, .null, .null, .null, .null, .null, .int 0, .int 0, .int 0, .int 0, .int 0, .int 0, .int 0]) :: sHex :: .inl (.byte, 58112) :: .inl (.long, 10) :: []) rfl (by decide) (Or.inl ⟨_, rfl⟩) (List.mem_of_getElem? (i := 118) rfl) rfl rfl (fun _ => ⟨rfl, rfl⟩) rfl d_iShe_23 rfl ?_
  refine fwRun_ok k_iShe_26_ok rfl trivial ?_
  refine fwg_newa' 127 24 (e0 :: e1 :: e2 :: e3 :: sCon :: .inl (.byte, 8000) :: .inl (.byte, 2000) :: .inl (.int, 256) :: sPro :: .inl (.byte, 65536) :: .inl (.int, 8) :: sFil :: .inl (.byte, 512512) :: .inl (.int, 1944) :: .inl (.boolean, 486) :: .inl (.int, 36) :: .inl (.byte, 128) :: .inl (.int, 36) :: sMon :: .inl (.int, 36) :: .inr (10, [.null, .null, .null, .null, .null, .ref 21, .ref 23, .null, .null, .null, .null, .null, .int 0, .int 0, .int 0, .int 0, .int 0, .int 0, .int 0]) :: sHex :: .inl (.byte, 58112) :: .inl (.long, 10) :: .inl (.int, 127) :: []) (by decide) fwAc_int d_iShe_29 (by decide) (by decide) (by decide) (Nat.le_of_ble_eq_true rfl) (Nat.le_of_ble_eq_true rfl) rfl rfl ?_
  refine fwg_putR' (ci := 10) (kk := 7) (e0 :: e1 :: e2 :: e3 :: sCon :: .inl (.byte, 8000) :: .inl (.byte, 2000) :: .inl (.int, 256) :: sPro :: .inl (.byte, 65536) :: .inl (.int, 8) :: sFil :: .inl (.byte, 512512) :: .inl (.int, 1944) :: .inl (.boolean, 486) :: .inl (.int, 36) :: .inl (.byte, 128) :: .inl (.int, 36) :: sMon :: .inl (.int, 36) :: .inr (10, [.null, .null, .null, .null, .null, .ref 21, .ref 23, .ref 24, .null, .null, .null, .null, .int 0, .int 0, .int 0, .int 0, .int 0, .int 0, .int 0]) :: sHex :: .inl (.byte, 58112) :: .inl (.long, 10) :: .inl (.int, 127) :: []) rfl (by decide) (Or.inl ⟨_, rfl⟩) (List.mem_of_getElem? (i := 119) rfl) rfl rfl (fun _ => ⟨rfl, rfl⟩) rfl d_iShe_31 rfl ?_
  refine fwRun_ok k_iShe_34_ok rfl trivial ?_
  refine fwg_newa' 2 25 (e0 :: e1 :: e2 :: e3 :: sCon :: .inl (.byte, 8000) :: .inl (.byte, 2000) :: .inl (.int, 256) :: sPro :: .inl (.byte, 65536) :: .inl (.int, 8) :: sFil :: .inl (.byte, 512512) :: .inl (.int, 1944) :: .inl (.boolean, 486) :: .inl (.int, 36) :: .inl (.byte, 128) :: .inl (.int, 36) :: sMon :: .inl (.int, 36) :: .inr (10, [.null, .null, .null, .null, .null, .ref 21, .ref 23, .ref 24, .null, .null, .null, .null, .int 0, .int 0, .int 0, .int 0, .int 0, .int 0, .int 0]) :: sHex :: .inl (.byte, 58112) :: .inl (.long, 10) :: .inl (.int, 127) :: .inl (.int, 2) :: []) (by decide) fwAc_int d_iShe_36 (by decide) (by decide) (by decide) (Nat.le_of_ble_eq_true rfl) (Nat.le_of_ble_eq_true rfl) rfl rfl ?_
  refine fwg_putR' (ci := 10) (kk := 8) (e0 :: e1 :: e2 :: e3 :: sCon :: .inl (.byte, 8000) :: .inl (.byte, 2000) :: .inl (.int, 256) :: sPro :: .inl (.byte, 65536) :: .inl (.int, 8) :: sFil :: .inl (.byte, 512512) :: .inl (.int, 1944) :: .inl (.boolean, 486) :: .inl (.int, 36) :: .inl (.byte, 128) :: .inl (.int, 36) :: sMon :: .inl (.int, 36) :: .inr (10, [.null, .null, .null, .null, .null, .ref 21, .ref 23, .ref 24, .ref 25, .null, .null, .null, .int 0, .int 0, .int 0, .int 0, .int 0, .int 0, .int 0]) :: sHex :: .inl (.byte, 58112) :: .inl (.long, 10) :: .inl (.int, 127) :: .inl (.int, 2) :: []) rfl (by decide) (Or.inl ⟨_, rfl⟩) (List.mem_of_getElem? (i := 120) rfl) rfl rfl (fun _ => ⟨rfl, rfl⟩) rfl d_iShe_38 rfl ?_
  refine fwRun_ok k_iShe_41_ok rfl trivial ?_
  refine fwg_newa' 2 26 (e0 :: e1 :: e2 :: e3 :: sCon :: .inl (.byte, 8000) :: .inl (.byte, 2000) :: .inl (.int, 256) :: sPro :: .inl (.byte, 65536) :: .inl (.int, 8) :: sFil :: .inl (.byte, 512512) :: .inl (.int, 1944) :: .inl (.boolean, 486) :: .inl (.int, 36) :: .inl (.byte, 128) :: .inl (.int, 36) :: sMon :: .inl (.int, 36) :: .inr (10, [.null, .null, .null, .null, .null, .ref 21, .ref 23, .ref 24, .ref 25, .null, .null, .null, .int 0, .int 0, .int 0, .int 0, .int 0, .int 0, .int 0]) :: sHex :: .inl (.byte, 58112) :: .inl (.long, 10) :: .inl (.int, 127) :: .inl (.int, 2) :: .inl (.int, 2) :: []) (by decide) fwAc_int d_iShe_43 (by decide) (by decide) (by decide) (Nat.le_of_ble_eq_true rfl) (Nat.le_of_ble_eq_true rfl) rfl rfl ?_
  refine fwg_putR' (ci := 10) (kk := 9) (e0 :: e1 :: e2 :: e3 :: sCon :: .inl (.byte, 8000) :: .inl (.byte, 2000) :: .inl (.int, 256) :: sPro :: .inl (.byte, 65536) :: .inl (.int, 8) :: sFil :: .inl (.byte, 512512) :: .inl (.int, 1944) :: .inl (.boolean, 486) :: .inl (.int, 36) :: .inl (.byte, 128) :: .inl (.int, 36) :: sMon :: .inl (.int, 36) :: .inr (10, [.null, .null, .null, .null, .null, .ref 21, .ref 23, .ref 24, .ref 25, .ref 26, .null, .null, .int 0, .int 0, .int 0, .int 0, .int 0, .int 0, .int 0]) :: sHex :: .inl (.byte, 58112) :: .inl (.long, 10) :: .inl (.int, 127) :: .inl (.int, 2) :: .inl (.int, 2) :: []) rfl (by decide) (Or.inl ⟨_, rfl⟩) (List.mem_of_getElem? (i := 121) rfl) rfl rfl (fun _ => ⟨rfl, rfl⟩) rfl d_iShe_45 rfl ?_
  refine fwRun_ok k_iShe_48_ok rfl trivial ?_
  refine fwg_newa' 36 27 (e0 :: e1 :: e2 :: e3 :: sCon :: .inl (.byte, 8000) :: .inl (.byte, 2000) :: .inl (.int, 256) :: sPro :: .inl (.byte, 65536) :: .inl (.int, 8) :: sFil :: .inl (.byte, 512512) :: .inl (.int, 1944) :: .inl (.boolean, 486) :: .inl (.int, 36) :: .inl (.byte, 128) :: .inl (.int, 36) :: sMon :: .inl (.int, 36) :: .inr (10, [.null, .null, .null, .null, .null, .ref 21, .ref 23, .ref 24, .ref 25, .ref 26, .null, .null, .int 0, .int 0, .int 0, .int 0, .int 0, .int 0, .int 0]) :: sHex :: .inl (.byte, 58112) :: .inl (.long, 10) :: .inl (.int, 127) :: .inl (.int, 2) :: .inl (.int, 2) :: .inl (.int, 36) :: []) (by decide) fwAc_int d_iShe_51 (by decide) (by decide) (by decide) (Nat.le_of_ble_eq_true rfl) (Nat.le_of_ble_eq_true rfl) rfl rfl ?_
  refine fwg_putR' (ci := 10) (kk := 10) (e0 :: e1 :: e2 :: e3 :: sCon :: .inl (.byte, 8000) :: .inl (.byte, 2000) :: .inl (.int, 256) :: sPro :: .inl (.byte, 65536) :: .inl (.int, 8) :: sFil :: .inl (.byte, 512512) :: .inl (.int, 1944) :: .inl (.boolean, 486) :: .inl (.int, 36) :: .inl (.byte, 128) :: .inl (.int, 36) :: sMon :: .inl (.int, 36) :: .inr (10, [.null, .null, .null, .null, .null, .ref 21, .ref 23, .ref 24, .ref 25, .ref 26, .ref 27, .null, .int 0, .int 0, .int 0, .int 0, .int 0, .int 0, .int 0]) :: sHex :: .inl (.byte, 58112) :: .inl (.long, 10) :: .inl (.int, 127) :: .inl (.int, 2) :: .inl (.int, 2) :: .inl (.int, 36) :: []) rfl (by decide) (Or.inl ⟨_, rfl⟩) (List.mem_of_getElem? (i := 122) rfl) rfl rfl (fun _ => ⟨rfl, rfl⟩) rfl d_iShe_53 rfl ?_
  refine fwRun_ok k_iShe_56_ok rfl trivial ?_
  refine fwg_newa' 36 28 (e0 :: e1 :: e2 :: e3 :: sCon :: .inl (.byte, 8000) :: .inl (.byte, 2000) :: .inl (.int, 256) :: sPro :: .inl (.byte, 65536) :: .inl (.int, 8) :: sFil :: .inl (.byte, 512512) :: .inl (.int, 1944) :: .inl (.boolean, 486) :: .inl (.int, 36) :: .inl (.byte, 128) :: .inl (.int, 36) :: sMon :: .inl (.int, 36) :: .inr (10, [.null, .null, .null, .null, .null, .ref 21, .ref 23, .ref 24, .ref 25, .ref 26, .ref 27, .null, .int 0, .int 0, .int 0, .int 0, .int 0, .int 0, .int 0]) :: sHex :: .inl (.byte, 58112) :: .inl (.long, 10) :: .inl (.int, 127) :: .inl (.int, 2) :: .inl (.int, 2) :: .inl (.int, 36) :: .inl (.int, 36) :: []) (by decide) fwAc_int d_iShe_59 (by decide) (by decide) (by decide) (Nat.le_of_ble_eq_true rfl) (Nat.le_of_ble_eq_true rfl) rfl rfl ?_
  refine fwg_putR' (ci := 10) (kk := 11) (e0 :: e1 :: e2 :: e3 :: sCon :: .inl (.byte, 8000) :: .inl (.byte, 2000) :: .inl (.int, 256) :: sPro :: .inl (.byte, 65536) :: .inl (.int, 8) :: sFil :: .inl (.byte, 512512) :: .inl (.int, 1944) :: .inl (.boolean, 486) :: .inl (.int, 36) :: .inl (.byte, 128) :: .inl (.int, 36) :: sMon :: .inl (.int, 36) :: .inr (10, [.null, .null, .null, .null, .null, .ref 21, .ref 23, .ref 24, .ref 25, .ref 26, .ref 27, .ref 28, .int 0, .int 0, .int 0, .int 0, .int 0, .int 0, .int 0]) :: sHex :: .inl (.byte, 58112) :: .inl (.long, 10) :: .inl (.int, 127) :: .inl (.int, 2) :: .inl (.int, 2) :: .inl (.int, 36) :: .inl (.int, 36) :: []) rfl (by decide) (Or.inl ⟨_, rfl⟩) (List.mem_of_getElem? (i := 123) rfl) rfl rfl (fun _ => ⟨rfl, rfl⟩) rfl d_iShe_61 rfl ?_
  refine fwRun_ok k_iShe_64_ok rfl trivial ?_
  refine fwg_putR' (ci := 10) (kk := 0) (e0 :: e1 :: e2 :: e3 :: sCon :: .inl (.byte, 8000) :: .inl (.byte, 2000) :: .inl (.int, 256) :: sPro :: .inl (.byte, 65536) :: .inl (.int, 8) :: sFil :: .inl (.byte, 512512) :: .inl (.int, 1944) :: .inl (.boolean, 486) :: .inl (.int, 36) :: .inl (.byte, 128) :: .inl (.int, 36) :: sMon :: .inl (.int, 36) :: .inr (10, [.ref 18, .null, .null, .null, .null, .ref 21, .ref 23, .ref 24, .ref 25, .ref 26, .ref 27, .ref 28, .int 0, .int 0, .int 0, .int 0, .int 0, .int 0, .int 0]) :: sHex :: .inl (.byte, 58112) :: .inl (.long, 10) :: .inl (.int, 127) :: .inl (.int, 2) :: .inl (.int, 2) :: .inl (.int, 36) :: .inl (.int, 36) :: []) rfl (by decide) (Or.inl ⟨_, rfl⟩) (List.mem_of_getElem? (i := 112) rfl) rfl rfl (fun _ => ⟨rfl, rfl⟩) rfl d_iShe_66 rfl ?_
  refine fwRun_ok k_iShe_69_ok rfl trivial ?_
  refine fwg_putR' (ci := 10) (kk := 1) (e0 :: e1 :: e2 :: e3 :: sCon :: .inl (.byte, 8000) :: .inl (.byte, 2000) :: .inl (.int, 256) :: sPro :: .inl (.byte, 65536) :: .inl (.int, 8) :: sFil :: .inl (.byte, 512512) :: .inl (.int, 1944) :: .inl (.boolean, 486) :: .inl (.int, 36) :: .inl (.byte, 128) :: .inl (.int, 36) :: sMon :: .inl (.int, 36) :: .inr (10, [.ref 18, .ref 8, .null, .null, .null, .ref 21, .ref 23, .ref 24, .ref 25, .ref 26, .ref 27, .ref 28, .int 0, .int 0, .int 0, .int 0, .int 0, .int 0, .int 0]) :: sHex :: .inl (.byte, 58112) :: .inl (.long, 10) :: .inl (.int, 127) :: .inl (.int, 2) :: .inl (.int, 2) :: .inl (.int, 36) :: .inl (.int, 36) :: []) rfl (by decide) (Or.inl ⟨_, rfl⟩) (List.mem_of_getElem? (i := 113) rfl) rfl rfl (fun _ => ⟨rfl, rfl⟩) rfl d_iShe_74 rfl ?_
  refine fwRun_ok k_iShe_77_ok rfl trivial ?_
  refine fwg_putR' (ci := 10) (kk := 2) (e0 :: e1 :: e2 :: e3 :: sCon :: .inl (.byte, 8000) :: .inl (.byte, 2000) :: .inl (.int, 256) :: sPro :: .inl (.byte, 65536) :: .inl (.int, 8) :: sFil :: .inl (.byte, 512512) :: .inl (.int, 1944) :: .inl (.boolean, 486) :: .inl (.int, 36) :: .inl (.byte, 128) :: .inl (.int, 36) :: sMon :: .inl (.int, 36) :: .inr (10, [.ref 18, .ref 8, .ref 4, .null, .null, .ref 21, .ref 23, .ref 24, .ref 25, .ref 26, .ref 27, .ref 28, .int 0, .int 0, .int 0, .int 0, .int 0, .int 0, .int 0]) :: sHex :: .inl (.byte, 58112) :: .inl (.long, 10) :: .inl (.int, 127) :: .inl (.int, 2) :: .inl (.int, 2) :: .inl (.int, 36) :: .inl (.int, 36) :: []) rfl (by decide) (Or.inl ⟨_, rfl⟩) (List.mem_of_getElem? (i := 114) rfl) rfl rfl (fun _ => ⟨rfl, rfl⟩) rfl d_iShe_82 rfl ?_
  refine fwRun_ok k_iShe_85_ok rfl trivial ?_
  refine fwg_putR' (ci := 10) (kk := 3) (e0 :: e1 :: e2 :: e3 :: sCon :: .inl (.byte, 8000) :: .inl (.byte, 2000) :: .inl (.int, 256) :: sPro :: .inl (.byte, 65536) :: .inl (.int, 8) :: sFil :: .inl (.byte, 512512) :: .inl (.int, 1944) :: .inl (.boolean, 486) :: .inl (.int, 36) :: .inl (.byte, 128) :: .inl (.int, 36) :: sMon :: .inl (.int, 36) :: .inr (10, [.ref 18, .ref 8, .ref 4, .ref 11, .null, .ref 21, .ref 23, .ref 24, .ref 25, .ref 26, .ref 27, .ref 28, .int 0, .int 0, .int 0, .int 0, .int 0, .int 0, .int 0]) :: sHex :: .inl (.byte, 58112) :: .inl (.long, 10) :: .inl (.int, 127) :: .inl (.int, 2) :: .inl (.int, 2) :: .inl (.int, 36) :: .inl (.int, 36) :: []) rfl (by decide) (Or.inl ⟨_, rfl⟩) (List.mem_of_getElem? (i := 115) rfl) rfl rfl (fun _ => ⟨rfl, rfl⟩) rfl d_iShe_90 rfl ?_
  refine fwRun_ok k_iShe_93_ok rfl trivial ?_
  refine fwg_new' 9 29 (e0 :: e1 :: e2 :: e3 :: sCon :: .inl (.byte, 8000) :: .inl (.byte, 2000) :: .inl (.int, 256) :: sPro :: .inl (.byte, 65536) :: .inl (.int, 8) :: sFil :: .inl (.byte, 512512) :: .inl (.int, 1944) :: .inl (.boolean, 486) :: .inl (.int, 36) :: .inl (.byte, 128) :: .inl (.int, 36) :: sMon :: .inl (.int, 36) :: .inr (10, [.ref 18, .ref 8, .ref 4, .ref 11, .null, .ref 21, .ref 23, .ref 24, .ref 25, .ref 26, .ref 27, .ref 28, .int 0, .int 0, .int 0, .int 0, .int 0, .int 0, .int 0]) :: sHex :: .inl (.byte, 58112) :: .inl (.long, 10) :: .inl (.int, 127) :: .inl (.int, 2) :: .inl (.int, 2) :: .inl (.int, 36) :: .inl (.int, 36) :: .inr (9, fwTmpl 9) :: []) rfl c_iShe_94 d_iShe_94 (Nat.le_of_ble_eq_true rfl) (Nat.le_of_ble_eq_true rfl) rfl rfl ?_
  refine fwRun_ok k_iShe_97_ok rfl trivial ?_
  refine fwg_callI (n := 1) (i := 29) (as := [.ref 11]) (r := [.ref 29, .ref 20]) ct_iRea ⟨by decide, by decide, by decide +kernel⟩ rfl rfl m_iRea_in c_iShe_102 rfl rfl (Nat.le_of_ble_eq_true rfl) d_iShe_102 ⟨Nat.le_of_ble_eq_true rfl, Nat.le_of_ble_eq_true rfl⟩ ⟨Nat.le_of_ble_eq_true rfl, Nat.le_of_ble_eq_true rfl⟩ (fun v sh' σ' hq => ?_)
  obtain ⟨rfl, rfl, hS3⟩ := hq
  refine fwg_putR' (ci := 10) (kk := 4) (e0 :: e1 :: e2 :: e3 :: sCon :: .inl (.byte, 8000) :: .inl (.byte, 2000) :: .inl (.int, 256) :: sPro :: .inl (.byte, 65536) :: .inl (.int, 8) :: sFil :: .inl (.byte, 512512) :: .inl (.int, 1944) :: .inl (.boolean, 486) :: .inl (.int, 36) :: .inl (.byte, 128) :: .inl (.int, 36) :: sMon :: .inl (.int, 36) :: sShe :: sHex :: .inl (.byte, 58112) :: .inl (.long, 10) :: .inl (.int, 127) :: .inl (.int, 2) :: .inl (.int, 2) :: .inl (.int, 36) :: .inl (.int, 36) :: sRea :: .inl (.int, 36) :: .inl (.byte, 128) :: []) rfl (by decide) (Or.inl ⟨_, rfl⟩) (List.mem_of_getElem? (i := 116) rfl) rfl rfl (fun _ => ⟨rfl, rfl⟩) rfl d_iShe_105 rfl ?_
  refine fwg_vret rfl (Nat.le_of_ble_eq_true rfl) (Nat.le_of_ble_eq_true rfl) ⟨rfl, rfl, ?_⟩ d_iShe_108
  refine ((((((((((fwSame_0 (i := 21) (by decide)).tr (hS1.up (by decide))).tr (hS2.up (by decide))).tr (fwSame_0 (i := 24) (by decide))).tr (fwSame_0 (i := 25) (by decide))).tr (fwSame_0 (i := 26) (by decide))).tr (fwSame_0 (i := 27) (by decide))).tr (fwSame_0 (i := 28) (by decide))).tr (fwSame_0 (i := 29) (by decide)))).tr (hS3.up (by decide))
theorem ct_capital {sh : List fwE} {x : Int32} : fwC l Z m_capital 1 0 0 [.int x] sh σ (fun w sh' σ' => (∃ y : Int32, w = some (.int y)) ∧ sh' = sh ∧ σ' = σ) := by
  refine fwC_of (ls := [some (.int x)]) (by decide +kernel) rfl (by rw [fw_sl1]; exact Nat.le_refl 1) ?_
  refine fwRun_ok k_capital_0_ok rfl trivial ?_
  refine fwg_cmp 19 d_capital_3 (by decide) (fun h => ?_) (fun h => ?_)
  · refine fwRun_ok k_capital_19_ok rfl trivial ?_
    exact fwg_iret rfl (Nat.le_refl _) (Nat.le_refl _) ⟨⟨_, rfl⟩, rfl, rfl⟩ d_capital_20
  · refine fwRun_ok k_capital_6_ok rfl trivial ?_
    refine fwg_cmp 19 d_capital_9 (by decide) (fun h => ?_) (fun h => ?_)
    · refine fwRun_ok k_capital_19_ok rfl trivial ?_
      exact fwg_iret rfl (Nat.le_refl _) (Nat.le_refl _) ⟨⟨_, rfl⟩, rfl, rfl⟩ d_capital_20
    · refine fwRun_ok k_capital_12_ok rfl trivial ?_
      refine fwg_goto 20 d_capital_16 (by decide) ?_
      exact fwg_iret rfl (Nat.le_refl _) (Nat.le_refl _) ⟨⟨_, rfl⟩, rfl, rfl⟩ d_capital_20
theorem iAsm_loop {f0 f1 f2 f3 f4 f5 f6 f7 f8 f9 f10 f11 : fwE} {Post : fwPost} {σ0 : fwS} (hp : ∀ σ', fwSame [34] σ0 σ' → Post none (shMon e0 e1 e2 e3 [f0, f1, f2, f3, f4, f5, f6, f7, f8, f9, f10, f11, sAsm, .inl (.long, 84), .inl (.int, 256), .inl (.long, 100), .inl (.int, 100), .inl (.int, 300)]) σ') : ∀ (q i : Nat) (l4 : Option Value) (σ : fwS), i + q = 123 → fwSame [34] σ0 σ → fwG l Z m_iAsm 6 5 840 Post 5 840 62 [some (.ref 32), some (.ref 1), some (.ref 2), some (.int (nI i)), l4] [] (shMon e0 e1 e2 e3 [f0, f1, f2, f3, f4, f5, f6, f7, f8, f9, f10, f11, sAsm, .inl (.long, 84), .inl (.int, 256), .inl (.long, 100), .inl (.int, 100), .inl (.int, 300)]) σ := by
  intro q
  induction q with
  | zero =>
    intro i l4 σ hi hs
    refine fwRun_ok k_iAsm_62_ok rfl trivial ?_
    refine fwg_cmp 112 d_iAsm_65 (by decide) (fun h => ?_) (fun h => absurd (nI_lt (a := 122) (by omega) (by omega)) h)
    exact fwg_vret rfl (Nat.le_refl _) (Nat.le_refl _) (hp σ hs) d_iAsm_112
  | succ q ih =>
    intro i l4 σ hi hs
    refine fwRun_ok k_iAsm_62_ok rfl trivial ?_
    refine fwg_cmp 112 d_iAsm_65 (by decide) (fun h => absurd (show (122 : Int32) < nI i from h) (nI_nlt (a := 122) (b := i) (by omega) (by decide))) (fun h => ?_)
    refine fwRun_ok k_iAsm_68_ok rfl trivial ?_
    refine fwg_callSN (n := 1) (as := [.int (nI i)]) (r := []) ct_capital ⟨by decide, by decide, by decide +kernel⟩ m_capital_in (List.mem_of_getElem? (i := 4) rfl) c_iAsm_69 rfl rfl (Nat.le_of_ble_eq_true rfl) d_iAsm_69 ⟨Nat.le_of_ble_eq_true rfl, Nat.le_of_ble_eq_true rfl⟩ ⟨Nat.le_refl _, Nat.le_refl _⟩ (fun v sh' σ1 hq => ?_)
    obtain ⟨⟨y, rfl⟩, rfl, rfl⟩ := hq
    refine fwRun_ok k_iAsm_72_ok rfl trivial ?_
    have key : ∀ x : Int32, fwG l Z m_iAsm 6 5 840 Post 5 840 105 [some (.ref 32), some (.ref 1), some (.ref 2), some (.int (nI i)), some (.int y)] [.int x, .int (nI i), .ref 34] (shMon e0 e1 e2 e3 [f0, f1, f2, f3, f4, f5, f6, f7, f8, f9, f10, f11, sAsm, .inl (.long, 84), .inl (.int, 256), .inl (.long, 100), .inl (.int, 100), .inl (.int, 300)]) σ1 := by
      intro x
      refine fwRun_ok k_iAsm_105_ok rfl (vp_in_nI (by omega) (by decide)) ?_
      refine fwg_goto 62 d_iAsm_109 (by decide) ?_
      have := ih (i + 1) (some (.int y)) (fwI σ1 34 (nI i).toNatClampNeg x) (by omega) (hs.tr (fwSame_I (by decide)))
      rw [← nI_1] at this
      exact this
    have k99 : fwG l Z m_iAsm 6 5 840 Post 5 840 99 [some (.ref 32), some (.ref 1), some (.ref 2), some (.int (nI i)), some (.int y)] [.int (nI i), .ref 34] (shMon e0 e1 e2 e3 [f0, f1, f2, f3, f4, f5, f6, f7, f8, f9, f10, f11, sAsm, .inl (.long, 84), .inl (.int, 256), .inl (.long, 100), .inl (.int, 100), .inl (.int, 300)]) σ1 := by
      refine fwRun_ok k_iAsm_99_ok rfl trivial ?_
      refine fwg_goto 105 d_iAsm_101 (by decide) ?_
      exact key y
    have k104 : fwG l Z m_iAsm 6 5 840 Post 5 840 104 [some (.ref 32), some (.ref 1), some (.ref 2), some (.int (nI i)), some (.int y)] [.int (nI i), .ref 34] (shMon e0 e1 e2 e3 [f0, f1, f2, f3, f4, f5, f6, f7, f8, f9, f10, f11, sAsm, .inl (.long, 84), .inl (.int, 256), .inl (.long, 100), .inl (.int, 100), .inl (.int, 300)]) σ1 := by
      refine fwRun_ok k_iAsm_104_ok rfl trivial ?_
      exact key 0
    refine fwg_cmp 99 d_iAsm_82 (by decide) (fun h => k99) (fun h => ?_)
    refine fwRun_ok k_iAsm_85_ok rfl trivial ?_
    refine fwg_cmp 104 d_iAsm_89 (by decide) (fun h => k104) (fun h => ?_)
    refine fwRun_ok k_iAsm_92_ok rfl trivial ?_
    exact fwg_cmp 104 d_iAsm_96 (by decide) (fun h => k104) (fun h => k99)
theorem ct_iAsm {f0 f1 f2 f3 f4 f5 f6 f7 f8 f9 f10 f11 : fwE} : fwC l Z m_iAsm 6 5 840 [.ref 32, .ref 1, .ref 2] (shMon e0 e1 e2 e3 [f0, f1, f2, f3, f4, f5, f6, f7, f8, f9, f10, f11, .inr (2, fwTmpl 2)]) σ (fun w sh' σ' => w = none ∧ sh' = shMon e0 e1 e2 e3 [f0, f1, f2, f3, f4, f5, f6, f7, f8, f9, f10, f11, sAsm, .inl (.long, 84), .inl (.int, 256), .inl (.long, 100), .inl (.int, 100), .inl (.int, 300)] ∧ fwSame [33, 34, 35, 36, 37] σ σ') := by
  refine fwC_of (ls := [some (.ref 32), some (.ref 1), some (.ref 2), none, none]) (by decide +kernel) rfl (by rw [fw_sl1]; exact Nat.le_of_ble_eq_true rfl) ?_
  refine fwRun_ok k_iAsm_0_ok rfl trivial ?_
  refine fwg_objInit c_iAsm_1 (by decide) (Nat.le_of_ble_eq_true rfl) d_iAsm_1 ?_
  refine fwRun_ok k_iAsm_4_ok rfl trivial ?_
  refine fwg_callSN (n := 2) (as := [.retAddr 1, .int 84]) (r := [.ref 32]) (ct_packedWords (c := 1) (N := 84) (by decide) (by decide)) ⟨by decide, by decide, by decide +kernel⟩ m_packedWords_in (List.mem_of_getElem? (i := 3) rfl) c_iAsm_9 rfl rfl (Nat.le_of_ble_eq_true rfl) d_iAsm_9 ⟨Nat.le_of_ble_eq_true rfl, Nat.le_of_ble_eq_true rfl⟩ ⟨Nat.le_of_ble_eq_true rfl, Nat.le_of_ble_eq_true rfl⟩ (fun v sh' σ2 hq => ?_)
  obtain ⟨rfl, hsh2, hS2⟩ := hq
  have hsh3 : sh' = (e0 :: e1 :: e2 :: e3 :: sCon :: .inl (.byte, 8000) :: .inl (.byte, 2000) :: .inl (.int, 256) :: sPro :: .inl (.byte, 65536) :: .inl (.int, 8) :: sFil :: .inl (.byte, 512512) :: .inl (.int, 1944) :: .inl (.boolean, 486) :: .inl (.int, 36) :: .inl (.byte, 128) :: .inl (.int, 36) :: sMon :: .inl (.int, 36) :: f0 :: f1 :: f2 :: f3 :: f4 :: f5 :: f6 :: f7 :: f8 :: f9 :: f10 :: f11 :: .inr (2, fwTmpl 2) :: .inl (.long, 84) :: []) := hsh2
  subst hsh3
  have hS2 : fwSame [33] _ σ2 := hS2
  show fwG l Z m_iAsm _ _ _ _ _ _ 12 _ [.ref 33, .ref 32] _ σ2
  refine fwg_putR' (ci := 2) (kk := 2) (e0 :: e1 :: e2 :: e3 :: sCon :: .inl (.byte, 8000) :: .inl (.byte, 2000) :: .inl (.int, 256) :: sPro :: .inl (.byte, 65536) :: .inl (.int, 8) :: sFil :: .inl (.byte, 512512) :: .inl (.int, 1944) :: .inl (.boolean, 486) :: .inl (.int, 36) :: .inl (.byte, 128) :: .inl (.int, 36) :: sMon :: .inl (.int, 36) :: f0 :: f1 :: f2 :: f3 :: f4 :: f5 :: f6 :: f7 :: f8 :: f9 :: f10 :: f11 :: .inr (2, [.null, .null, .ref 33, .null, .null, .null, .null, .int 0, .long 0, .int 0, .int 0, .int 0, .int 0, .int 0, .int 0, .int 0, .int 0, .int 0, .long 0, .int 0, .int 0]) :: .inl (.long, 84) :: []) rfl (by decide) (Or.inl ⟨_, rfl⟩) (List.mem_of_getElem? (i := 133) rfl) rfl rfl (fun _ => ⟨rfl, rfl⟩) rfl d_iAsm_12 rfl ?_
  refine fwRun_ok k_iAsm_15_ok rfl trivial ?_
  refine fwg_newa' 256 34 (e0 :: e1 :: e2 :: e3 :: sCon :: .inl (.byte, 8000) :: .inl (.byte, 2000) :: .inl (.int, 256) :: sPro :: .inl (.byte, 65536) :: .inl (.int, 8) :: sFil :: .inl (.byte, 512512) :: .inl (.int, 1944) :: .inl (.boolean, 486) :: .inl (.int, 36) :: .inl (.byte, 128) :: .inl (.int, 36) :: sMon :: .inl (.int, 36) :: f0 :: f1 :: f2 :: f3 :: f4 :: f5 :: f6 :: f7 :: f8 :: f9 :: f10 :: f11 :: .inr (2, [.null, .null, .ref 33, .null, .null, .null, .null, .int 0, .long 0, .int 0, .int 0, .int 0, .int 0, .int 0, .int 0, .int 0, .int 0, .int 0, .long 0, .int 0, .int 0]) :: .inl (.long, 84) :: .inl (.int, 256) :: []) (by decide) fwAc_int d_iAsm_19 (by decide) (by decide) (by decide) (Nat.le_of_ble_eq_true rfl) (Nat.le_of_ble_eq_true rfl) rfl rfl ?_
  refine fwg_putR' (ci := 2) (kk := 3) (e0 :: e1 :: e2 :: e3 :: sCon :: .inl (.byte, 8000) :: .inl (.byte, 2000) :: .inl (.int, 256) :: sPro :: .inl (.byte, 65536) :: .inl (.int, 8) :: sFil :: .inl (.byte, 512512) :: .inl (.int, 1944) :: .inl (.boolean, 486) :: .inl (.int, 36) :: .inl (.byte, 128) :: .inl (.int, 36) :: sMon :: .inl (.int, 36) :: f0 :: f1 :: f2 :: f3 :: f4 :: f5 :: f6 :: f7 :: f8 :: f9 :: f10 :: f11 :: .inr (2, [.null, .null, .ref 33, .ref 34, .null, .null, .null, .int 0, .long 0, .int 0, .int 0, .int 0, .int 0, .int 0, .int 0, .int 0, .int 0, .int 0, .long 0, .int 0, .int 0]) :: .inl (.long, 84) :: .inl (.int, 256) :: []) rfl (by decide) (Or.inl ⟨_, rfl⟩) (List.mem_of_getElem? (i := 134) rfl) rfl rfl (fun _ => ⟨rfl, rfl⟩) rfl d_iAsm_21 rfl ?_
  refine fwRun_ok k_iAsm_24_ok rfl trivial ?_
  refine fwg_newa' 100 35 (e0 :: e1 :: e2 :: e3 :: sCon :: .inl (.byte, 8000) :: .inl (.byte, 2000) :: .inl (.int, 256) :: sPro :: .inl (.byte, 65536) :: .inl (.int, 8) :: sFil :: .inl (.byte, 512512) :: .inl (.int, 1944) :: .inl (.boolean, 486) :: .inl (.int, 36) :: .inl (.byte, 128) :: .inl (.int, 36) :: sMon :: .inl (.int, 36) :: f0 :: f1 :: f2 :: f3 :: f4 :: f5 :: f6 :: f7 :: f8 :: f9 :: f10 :: f11 :: .inr (2, [.null, .null, .ref 33, .ref 34, .null, .null, .null, .int 0, .long 0, .int 0, .int 0, .int 0, .int 0, .int 0, .int 0, .int 0, .int 0, .int 0, .long 0, .int 0, .int 0]) :: .inl (.long, 84) :: .inl (.int, 256) :: .inl (.long, 100) :: []) (by decide) fwAc_long d_iAsm_27 (by decide) (by decide) (by decide) (Nat.le_of_ble_eq_true rfl) (Nat.le_of_ble_eq_true rfl) rfl rfl ?_
  refine fwg_putR' (ci := 2) (kk := 4) (e0 :: e1 :: e2 :: e3 :: sCon :: .inl (.byte, 8000) :: .inl (.byte, 2000) :: .inl (.int, 256) :: sPro :: .inl (.byte, 65536) :: .inl (.int, 8) :: sFil :: .inl (.byte, 512512) :: .inl (.int, 1944) :: .inl (.boolean, 486) :: .inl (.int, 36) :: .inl (.byte, 128) :: .inl (.int, 36) :: sMon :: .inl (.int, 36) :: f0 :: f1 :: f2 :: f3 :: f4 :: f5 :: f6 :: f7 :: f8 :: f9 :: f10 :: f11 :: .inr (2, [.null, .null, .ref 33, .ref 34, .ref 35, .null, .null, .int 0, .long 0, .int 0, .int 0, .int 0, .int 0, .int 0, .int 0, .int 0, .int 0, .int 0, .long 0, .int 0, .int 0]) :: .inl (.long, 84) :: .inl (.int, 256) :: .inl (.long, 100) :: []) rfl (by decide) (Or.inl ⟨_, rfl⟩) (List.mem_of_getElem? (i := 135) rfl) rfl rfl (fun _ => ⟨rfl, rfl⟩) rfl d_iAsm_29 rfl ?_
  refine fwRun_ok k_iAsm_32_ok rfl trivial ?_
  refine fwg_newa' 100 36 (e0 :: e1 :: e2 :: e3 :: sCon :: .inl (.byte, 8000) :: .inl (.byte, 2000) :: .inl (.int, 256) :: sPro :: .inl (.byte, 65536) :: .inl (.int, 8) :: sFil :: .inl (.byte, 512512) :: .inl (.int, 1944) :: .inl (.boolean, 486) :: .inl (.int, 36) :: .inl (.byte, 128) :: .inl (.int, 36) :: sMon :: .inl (.int, 36) :: f0 :: f1 :: f2 :: f3 :: f4 :: f5 :: f6 :: f7 :: f8 :: f9 :: f10 :: f11 :: .inr (2, [.null, .null, .ref 33, .ref 34, .ref 35, .null, .null, .int 0, .long 0, .int 0, .int 0, .int 0, .int 0, .int 0, .int 0, .int 0, .int 0, .int 0, .long 0, .int 0, .int 0]) :: .inl (.long, 84) :: .inl (.int, 256) :: .inl (.long, 100) :: .inl (.int, 100) :: []) (by decide) fwAc_int d_iAsm_35 (by decide) (by decide) (by decide) (Nat.le_of_ble_eq_true rfl) (Nat.le_of_ble_eq_true rfl) rfl rfl ?_
  refine fwg_putR' (ci := 2) (kk := 5) (e0 :: e1 :: e2 :: e3 :: sCon :: .inl (.byte, 8000) :: .inl (.byte, 2000) :: .inl (.int, 256) :: sPro :: .inl (.byte, 65536) :: .inl (.int, 8) :: sFil :: .inl (.byte, 512512) :: .inl (.int, 1944) :: .inl (.boolean, 486) :: .inl (.int, 36) :: .inl (.byte, 128) :: .inl (.int, 36) :: sMon :: .inl (.int, 36) :: f0 :: f1 :: f2 :: f3 :: f4 :: f5 :: f6 :: f7 :: f8 :: f9 :: f10 :: f11 :: .inr (2, [.null, .null, .ref 33, .ref 34, .ref 35, .ref 36, .null, .int 0, .long 0, .int 0, .int 0, .int 0, .int 0, .int 0, .int 0, .int 0, .int 0, .int 0, .long 0, .int 0, .int 0]) :: .inl (.long, 84) :: .inl (.int, 256) :: .inl (.long, 100) :: .inl (.int, 100) :: []) rfl (by decide) (Or.inl ⟨_, rfl⟩) (List.mem_of_getElem? (i := 136) rfl) rfl rfl (fun _ => ⟨rfl, rfl⟩) rfl d_iAsm_37 rfl ?_
  refine fwRun_ok k_iAsm_40_ok rfl trivial ?_
  refine fwg_newa' 300 37 (e0 :: e1 :: e2 :: e3 :: sCon :: .inl (.byte, 8000) :: .inl (.byte, 2000) :: .inl (.int, 256) :: sPro :: .inl (.byte, 65536) :: .inl (.int, 8) :: sFil :: .inl (.byte, 512512) :: .inl (.int, 1944) :: .inl (.boolean, 486) :: .inl (.int, 36) :: .inl (.byte, 128) :: .inl (.int, 36) :: sMon :: .inl (.int, 36) :: f0 :: f1 :: f2 :: f3 :: f4 :: f5 :: f6 :: f7 :: f8 :: f9 :: f10 :: f11 :: .inr (2, [.null, .null, .ref 33, .ref 34, .ref 35, .ref 36, .null, .int 0, .long 0, .int 0, .int 0, .int 0, .int 0, .int 0, .int 0, .int 0, .int 0, .int 0, .long 0, .int 0, .int 0]) :: .inl (.long, 84) :: .inl (.int, 256) :: .inl (.long, 100) :: .inl (.int, 100) :: .inl (.int, 300) :: []) (by decide) fwAc_int d_iAsm_44 (by decide) (by decide) (by decide) (Nat.le_of_ble_eq_true rfl) (Nat.le_of_ble_eq_true rfl) rfl rfl ?_
  refine fwg_putR' (ci := 2) (kk := 6) (e0 :: e1 :: e2 :: e3 :: sCon :: .inl (.byte, 8000) :: .inl (.byte, 2000) :: .inl (.int, 256) :: sPro :: .inl (.byte, 65536) :: .inl (.int, 8) :: sFil :: .inl (.byte, 512512) :: .inl (.int, 1944) :: .inl (.boolean, 486) :: .inl (.int, 36) :: .inl (.byte, 128) :: .inl (.int, 36) :: sMon :: .inl (.int, 36) :: f0 :: f1 :: f2 :: f3 :: f4 :: f5 :: f6 :: f7 :: f8 :: f9 :: f10 :: f11 :: .inr (2, [.null, .null, .ref 33, .ref 34, .ref 35, .ref 36, .ref 37, .int 0, .long 0, .int 0, .int 0, .int 0, .int 0, .int 0, .int 0, .int 0, .int 0, .int 0, .long 0, .int 0, .int 0]) :: .inl (.long, 84) :: .inl (.int, 256) :: .inl (.long, 100) :: .inl (.int, 100) :: .inl (.int, 300) :: []) rfl (by decide) (Or.inl ⟨_, rfl⟩) (List.mem_of_getElem? (i := 137) rfl) rfl rfl (fun _ => ⟨rfl, rfl⟩) rfl d_iAsm_46 rfl ?_
  refine fwRun_ok k_iAsm_49_ok rfl trivial ?_
  refine fwg_putR' (ci := 2) (kk := 0) (e0 :: e1 :: e2 :: e3 :: sCon :: .inl (.byte, 8000) :: .inl (.byte, 2000) :: .inl (.int, 256) :: sPro :: .inl (.byte, 65536) :: .inl (.int, 8) :: sFil :: .inl (.byte, 512512) :: .inl (.int, 1944) :: .inl (.boolean, 486) :: .inl (.int, 36) :: .inl (.byte, 128) :: .inl (.int, 36) :: sMon :: .inl (.int, 36) :: f0 :: f1 :: f2 :: f3 :: f4 :: f5 :: f6 :: f7 :: f8 :: f9 :: f10 :: f11 :: .inr (2, [.ref 1, .null, .ref 33, .ref 34, .ref 35, .ref 36, .ref 37, .int 0, .long 0, .int 0, .int 0, .int 0, .int 0, .int 0, .int 0, .int 0, .int 0, .int 0, .long 0, .int 0, .int 0]) :: .inl (.long, 84) :: .inl (.int, 256) :: .inl (.long, 100) :: .inl (.int, 100) :: .inl (.int, 300) :: []) rfl (by decide) (Or.inl ⟨_, rfl⟩) (List.mem_of_getElem? (i := 131) rfl) rfl rfl (fun _ => ⟨rfl, rfl⟩) rfl d_iAsm_51 rfl ?_
  refine fwRun_ok k_iAsm_54_ok rfl trivial ?_
  refine fwg_putR' (ci := 2) (kk := 1) (e0 :: e1 :: e2 :: e3 :: sCon :: .inl (.byte, 8000) :: .inl (.byte, 2000) :: .inl (.int, 256) :: sPro :: .inl (.byte, 65536) :: .inl (.int, 8) :: sFil :: .inl (.byte, 512512) :: .inl (.int, 1944) :: .inl (.boolean, 486) :: .inl (.int, 36) :: .inl (.byte, 128) :: .inl (.int, 36) :: sMon :: .inl (.int, 36) :: f0 :: f1 :: f2 :: f3 :: f4 :: f5 :: f6 :: f7 :: f8 :: f9 :: f10 :: f11 :: sAsm :: .inl (.long, 84) :: .inl (.int, 256) :: .inl (.long, 100) :: .inl (.int, 100) :: .inl (.int, 300) :: []) rfl (by decide) (Or.inl ⟨_, rfl⟩) (List.mem_of_getElem? (i := 132) rfl) rfl rfl (fun _ => ⟨rfl, rfl⟩) rfl d_iAsm_56 rfl ?_
  refine fwRun_ok k_iAsm_59_ok rfl trivial ?_
  exact iAsm_loop (fun σ' h => ⟨rfl, rfl, ((((hS2.up (by decide)).tr (fwSame_0 (i := 34) (by decide))).tr (fwSame_0 (i := 35) (by decide))).tr ((fwSame_0 (i := 36) (by decide)).tr (fwSame_0 (i := 37) (by decide)))).tr (h.up (by decide))⟩) 75 48 none _ rfl fwSame.rf
theorem ct_iLis {f0 f1 f2 f3 f4 f5 f6 f7 f8 f9 f10 f11 f12 f13 f14 f15 f16 f17 : fwE} : fwC l Z m_iLis 1 0 0 [.ref 38, .ref 9, .ref 2] (shMon e0 e1 e2 e3 [f0, f1, f2, f3, f4, f5, f6, f7, f8, f9, f10, f11, f12, f13, f14, f15, f16, f17, .inr (6, fwTmpl 6)]) σ (fun w sh' σ' => w = none ∧ sh' = shMon e0 e1 e2 e3 [f0, f1, f2, f3, f4, f5, f6, f7, f8, f9, f10, f11, f12, f13, f14, f15, f16, f17, sLis] ∧ σ' = σ) := by
  refine fwC_of (ls := [some (.ref 38), some (.ref 9), some (.ref 2)]) (by decide +kernel) rfl (by rw [fw_sl1]; exact Nat.le_refl 3) ?_
  refine fwRun_ok k_iLis_0_ok rfl trivial ?_
  refine fwg_objInit c_iLis_1 (by decide) (Nat.le_of_ble_eq_true rfl) d_iLis_1 ?_
  refine fwRun_ok k_iLis_4_ok rfl trivial ?_
  refine fwg_putR' (ci := 6) (kk := 0) (e0 :: e1 :: e2 :: e3 :: sCon :: .inl (.byte, 8000) :: .inl (.byte, 2000) :: .inl (.int, 256) :: sPro :: .inl (.byte, 65536) :: .inl (.int, 8) :: sFil :: .inl (.byte, 512512) :: .inl (.int, 1944) :: .inl (.boolean, 486) :: .inl (.int, 36) :: .inl (.byte, 128) :: .inl (.int, 36) :: sMon :: .inl (.int, 36) :: f0 :: f1 :: f2 :: f3 :: f4 :: f5 :: f6 :: f7 :: f8 :: f9 :: f10 :: f11 :: f12 :: f13 :: f14 :: f15 :: f16 :: f17 :: .inr (6, [.ref 9, .null, .int 0]) :: []) rfl (by decide) (Or.inl ⟨_, rfl⟩) (List.mem_of_getElem? (i := 152) rfl) rfl rfl (fun _ => ⟨rfl, rfl⟩) rfl d_iLis_6 rfl ?_
  refine fwRun_ok k_iLis_9_ok rfl trivial ?_
  refine fwg_putR' (ci := 6) (kk := 1) (e0 :: e1 :: e2 :: e3 :: sCon :: .inl (.byte, 8000) :: .inl (.byte, 2000) :: .inl (.int, 256) :: sPro :: .inl (.byte, 65536) :: .inl (.int, 8) :: sFil :: .inl (.byte, 512512) :: .inl (.int, 1944) :: .inl (.boolean, 486) :: .inl (.int, 36) :: .inl (.byte, 128) :: .inl (.int, 36) :: sMon :: .inl (.int, 36) :: f0 :: f1 :: f2 :: f3 :: f4 :: f5 :: f6 :: f7 :: f8 :: f9 :: f10 :: f11 :: f12 :: f13 :: f14 :: f15 :: f16 :: f17 :: sLis :: []) rfl (by decide) (Or.inl ⟨_, rfl⟩) (List.mem_of_getElem? (i := 153) rfl) rfl rfl (fun _ => ⟨rfl, rfl⟩) rfl d_iLis_11 rfl ?_
  exact fwg_vret rfl (Nat.le_refl _) (Nat.le_refl _) ⟨rfl, rfl, rfl⟩ d_iLis_14
end INS
end
section
/-! new MonitorBoard() (laid by wip/whole/t7.py) -/
def sMB : fwE := .inr (0, [.ref 1, .ref 2, .ref 3, .ref 4, .ref 8, .ref 11, .ref 18, .ref 20, .ref 32, .ref 38, .int 0, .int 0])
abbrev shMB (re : List fwE) : List fwE := shMon sMB (.inl (.byte, 4000)) (.inl (.byte, 58112)) (.inl (.byte, 2000)) (sShe :: sHex :: .inl (.byte, 58112) :: .inl (.long, 10) :: .inl (.int, 127) :: .inl (.int, 2) :: .inl (.int, 2) :: .inl (.int, 36) :: .inl (.int, 36) :: sRea :: .inl (.int, 36) :: .inl (.byte, 128) :: sAsm :: .inl (.long, 84) :: .inl (.int, 256) :: .inl (.long, 100) :: .inl (.int, 100) :: .inl (.int, 300) :: sLis :: re)
/-- what a new object's numbers are -/
def Fre (σ : fwS) : Prop := (σ.1 0 10 = 0 ∧ σ.1 0 11 = 0) ∧ (σ.1 4 3 = 0 ∧ σ.1 4 4 = nI 9 ∧ σ.1 4 5 = 0 ∧ σ.1 4 6 = 0 ∧ σ.1 4 7 = 0 ∧ σ.1 4 8 = 127 ∧ σ.1 4 9 = 1) ∧ (σ.1 8 3 = 2 ∧ σ.1 8 4 = 0 ∧ σ.1 8 5 = 60419 ∧ σ.1 8 7 = 0 ∧ σ.2 8 6 = 0) ∧ (∀ j, j < 65536 → σ.1 9 j = memW (fun _ => 0) j) ∧ (∀ j, j < 8 → σ.1 10 j = 0) ∧ (σ.1 11 11 = 0 ∧ σ.1 11 12 = 0) ∧ (σ.1 18 8 = 1 ∧ σ.1 18 4 = 128) ∧ FilOk σ
theorem fwZero_1 {σ : fwS} {i b : Nat} : (fwZero σ i).1 i b = 0 := if_pos rfl
theorem fwZero_2 {σ : fwS} {i b : Nat} : (fwZero σ i).2 i b = 0 := if_pos rfl
section MBI
variable {l : Launch} {Z : fwZ} {σ : fwS}
theorem ct_iMB (h10 : σ.1 0 10 = 0) (h11 : σ.1 0 11 = 0) : fwC l Z m_iMB 9 38 714521 [.ref 0] [.inr (0, fwTmpl 0)] σ (fun w sh' σ' => w = none ∧ sh' = shMB [] ∧ Fre σ' ∧ fwSame [1, 2, 3, 4, 5, 6, 7, 8, 9, 10, 11, 12, 13, 14, 15, 16, 17, 18, 19, 20, 21, 22, 23, 24, 25, 26, 27, 28, 29, 30, 31, 32, 33, 34, 35, 36, 37, 38] σ σ') := by
  refine fwC_of (ls := [some (.ref 0)]) (by decide +kernel) rfl (by rw [fw_sl1]; exact Nat.le_refl 1) ?_
  refine fwRun_ok k_iMB_0_ok rfl trivial ?_
  refine fwg_objInit c_iMB_1 (by decide) (Nat.le_of_ble_eq_true rfl) d_iMB_1 ?_
  refine fwRun_ok k_iMB_4_ok rfl trivial ?_
  refine fwg_newa' 4000 1 (.inr (0, fwTmpl 0) :: .inl (.byte, 4000) :: []) (by decide) fwAc_byte d_iMB_8 (by decide) (by decide) (by decide) (Nat.le_of_ble_eq_true rfl) (Nat.le_of_ble_eq_true rfl) rfl rfl ?_
  refine fwg_putR' (ci := 0) (kk := 0) (.inr (0, [.ref 1, .null, .null, .null, .null, .null, .null, .null, .null, .null, .int 0, .int 0]) :: .inl (.byte, 4000) :: []) rfl (by decide) (Or.inl ⟨_, rfl⟩) (List.mem_of_getElem? (i := 155) rfl) rfl rfl (fun _ => ⟨rfl, rfl⟩) rfl d_iMB_10 rfl ?_
  refine fwRun_ok k_iMB_13_ok rfl trivial ?_
  refine fwg_newa' 58112 2 (.inr (0, [.ref 1, .null, .null, .null, .null, .null, .null, .null, .null, .null, .int 0, .int 0]) :: .inl (.byte, 4000) :: .inl (.byte, 58112) :: []) (by decide) fwAc_byte d_iMB_16 (by decide) (by decide) (by decide) (Nat.le_of_ble_eq_true rfl) (Nat.le_of_ble_eq_true rfl) rfl rfl ?_
  refine fwg_putR' (ci := 0) (kk := 1) (.inr (0, [.ref 1, .ref 2, .null, .null, .null, .null, .null, .null, .null, .null, .int 0, .int 0]) :: .inl (.byte, 4000) :: .inl (.byte, 58112) :: []) rfl (by decide) (Or.inl ⟨_, rfl⟩) (List.mem_of_getElem? (i := 156) rfl) rfl rfl (fun _ => ⟨rfl, rfl⟩) rfl d_iMB_18 rfl ?_
  refine fwRun_ok k_iMB_21_ok rfl trivial ?_
  refine fwg_newa' 2000 3 (.inr (0, [.ref 1, .ref 2, .null, .null, .null, .null, .null, .null, .null, .null, .int 0, .int 0]) :: .inl (.byte, 4000) :: .inl (.byte, 58112) :: .inl (.byte, 2000) :: []) (by decide) fwAc_byte d_iMB_25 (by decide) (by decide) (by decide) (Nat.le_of_ble_eq_true rfl) (Nat.le_of_ble_eq_true rfl) rfl rfl ?_
  refine fwg_putR' (ci := 0) (kk := 2) (.inr (0, [.ref 1, .ref 2, .ref 3, .null, .null, .null, .null, .null, .null, .null, .int 0, .int 0]) :: .inl (.byte, 4000) :: .inl (.byte, 58112) :: .inl (.byte, 2000) :: []) rfl (by decide) (Or.inl ⟨_, rfl⟩) (List.mem_of_getElem? (i := 157) rfl) rfl rfl (fun _ => ⟨rfl, rfl⟩) rfl d_iMB_27 rfl ?_
  refine fwRun_ok k_iMB_30_ok rfl trivial ?_
  refine fwg_new' 3 4 (.inr (0, [.ref 1, .ref 2, .ref 3, .null, .null, .null, .null, .null, .null, .null, .int 0, .int 0]) :: .inl (.byte, 4000) :: .inl (.byte, 58112) :: .inl (.byte, 2000) :: .inr (3, fwTmpl 3) :: []) rfl c_iMB_31 d_iMB_31 (Nat.le_of_ble_eq_true rfl) (Nat.le_of_ble_eq_true rfl) rfl rfl ?_
  refine fwRun_ok k_iMB_34_ok rfl trivial ?_
  refine fwg_callIN (n := 0) (i := 4) (as := []) (r := [.ref 4, .ref 0]) ct_iCon ⟨by decide, by decide, by decide +kernel⟩ rfl rfl m_iCon_in (List.mem_of_getElem? (i := 0) rfl) c_iMB_35 rfl rfl (Nat.le_of_ble_eq_true rfl) d_iMB_35 ⟨Nat.le_of_ble_eq_true rfl, Nat.le_of_ble_eq_true rfl⟩ ⟨Nat.le_of_ble_eq_true rfl, Nat.le_of_ble_eq_true rfl⟩ (fun v sh' σ1 hq => ?_)
  obtain ⟨rfl, rfl, hS1⟩ := hq
  refine fwg_putR' (ci := 0) (kk := 3) (.inr (0, [.ref 1, .ref 2, .ref 3, .ref 4, .null, .null, .null, .null, .null, .null, .int 0, .int 0]) :: .inl (.byte, 4000) :: .inl (.byte, 58112) :: .inl (.byte, 2000) :: sCon :: .inl (.byte, 8000) :: .inl (.byte, 2000) :: .inl (.int, 256) :: []) rfl (by decide) (Or.inl ⟨_, rfl⟩) (List.mem_of_getElem? (i := 158) rfl) rfl rfl (fun _ => ⟨rfl, rfl⟩) rfl d_iMB_38 rfl ?_
  refine fwRun_ok k_iMB_41_ok rfl trivial ?_
  refine fwg_new' 8 8 (.inr (0, [.ref 1, .ref 2, .ref 3, .ref 4, .null, .null, .null, .null, .null, .null, .int 0, .int 0]) :: .inl (.byte, 4000) :: .inl (.byte, 58112) :: .inl (.byte, 2000) :: sCon :: .inl (.byte, 8000) :: .inl (.byte, 2000) :: .inl (.int, 256) :: .inr (8, fwTmpl 8) :: []) rfl c_iMB_42 d_iMB_42 (Nat.le_of_ble_eq_true rfl) (Nat.le_of_ble_eq_true rfl) rfl rfl ?_
  refine fwRun_ok k_iMB_45_ok rfl trivial ?_
  refine fwg_callI (n := 1) (i := 8) (as := [.ref 4]) (r := [.ref 8, .ref 0]) ct_iPro ⟨by decide, by decide, by decide +kernel⟩ rfl rfl m_iPro_in c_iMB_50 rfl rfl (Nat.le_of_ble_eq_true rfl) d_iMB_50 ⟨Nat.le_of_ble_eq_true rfl, Nat.le_of_ble_eq_true rfl⟩ ⟨Nat.le_of_ble_eq_true rfl, Nat.le_of_ble_eq_true rfl⟩ (fun v sh' σ2 hq => ?_)
  obtain ⟨rfl, rfl, hS2, hL2⟩ := hq
  refine fwg_putR' (ci := 0) (kk := 4) (.inr (0, [.ref 1, .ref 2, .ref 3, .ref 4, .ref 8, .null, .null, .null, .null, .null, .int 0, .int 0]) :: .inl (.byte, 4000) :: .inl (.byte, 58112) :: .inl (.byte, 2000) :: sCon :: .inl (.byte, 8000) :: .inl (.byte, 2000) :: .inl (.int, 256) :: sPro :: .inl (.byte, 65536) :: .inl (.int, 8) :: []) rfl (by decide) (Or.inl ⟨_, rfl⟩) (List.mem_of_getElem? (i := 159) rfl) rfl rfl (fun _ => ⟨rfl, rfl⟩) rfl d_iMB_53 rfl ?_
  refine fwRun_ok k_iMB_56_ok rfl trivial ?_
  refine fwg_new' 4 11 (.inr (0, [.ref 1, .ref 2, .ref 3, .ref 4, .ref 8, .null, .null, .null, .null, .null, .int 0, .int 0]) :: .inl (.byte, 4000) :: .inl (.byte, 58112) :: .inl (.byte, 2000) :: sCon :: .inl (.byte, 8000) :: .inl (.byte, 2000) :: .inl (.int, 256) :: sPro :: .inl (.byte, 65536) :: .inl (.int, 8) :: .inr (4, fwTmpl 4) :: []) rfl c_iMB_57 d_iMB_57 (Nat.le_of_ble_eq_true rfl) (Nat.le_of_ble_eq_true rfl) rfl rfl ?_
  refine fwRun_ok k_iMB_60_ok rfl trivial ?_
  refine fwg_callI (n := 0) (i := 11) (as := []) (r := [.ref 11, .ref 0]) ct_iFil ⟨by decide, by decide, by decide +kernel⟩ rfl rfl m_iFil_in c_iMB_61 rfl rfl (Nat.le_of_ble_eq_true rfl) d_iMB_61 ⟨Nat.le_of_ble_eq_true rfl, Nat.le_of_ble_eq_true rfl⟩ ⟨Nat.le_of_ble_eq_true rfl, Nat.le_of_ble_eq_true rfl⟩ (fun v sh' σ3 hq => ?_)
  obtain ⟨rfl, rfl, hS3, hF3⟩ := hq
  refine fwg_putR' (ci := 0) (kk := 5) (.inr (0, [.ref 1, .ref 2, .ref 3, .ref 4, .ref 8, .ref 11, .null, .null, .null, .null, .int 0, .int 0]) :: .inl (.byte, 4000) :: .inl (.byte, 58112) :: .inl (.byte, 2000) :: sCon :: .inl (.byte, 8000) :: .inl (.byte, 2000) :: .inl (.int, 256) :: sPro :: .inl (.byte, 65536) :: .inl (.int, 8) :: sFil :: .inl (.byte, 512512) :: .inl (.int, 1944) :: .inl (.boolean, 486) :: .inl (.int, 36) :: .inl (.byte, 128) :: .inl (.int, 36) :: []) rfl (by decide) (Or.inl ⟨_, rfl⟩) (List.mem_of_getElem? (i := 160) rfl) rfl rfl (fun _ => ⟨rfl, rfl⟩) rfl d_iMB_64 rfl ?_
  refine fwRun_ok k_iMB_67_ok rfl trivial ?_
  refine fwg_new' 7 18 (.inr (0, [.ref 1, .ref 2, .ref 3, .ref 4, .ref 8, .ref 11, .null, .null, .null, .null, .int 0, .int 0]) :: .inl (.byte, 4000) :: .inl (.byte, 58112) :: .inl (.byte, 2000) :: sCon :: .inl (.byte, 8000) :: .inl (.byte, 2000) :: .inl (.int, 256) :: sPro :: .inl (.byte, 65536) :: .inl (.int, 8) :: sFil :: .inl (.byte, 512512) :: .inl (.int, 1944) :: .inl (.boolean, 486) :: .inl (.int, 36) :: .inl (.byte, 128) :: .inl (.int, 36) :: .inr (7, fwTmpl 7) :: []) rfl c_iMB_68 d_iMB_68 (Nat.le_of_ble_eq_true rfl) (Nat.le_of_ble_eq_true rfl) rfl rfl ?_
  refine fwRun_ok k_iMB_71_ok rfl trivial ?_
  refine fwg_callI (n := 3) (i := 18) (as := [.ref 8, .ref 4, .ref 11]) (r := [.ref 18, .ref 0]) ct_iMon ⟨by decide, by decide, by decide +kernel⟩ rfl rfl m_iMon_in c_iMB_84 rfl rfl (Nat.le_of_ble_eq_true rfl) d_iMB_84 ⟨Nat.le_of_ble_eq_true rfl, Nat.le_of_ble_eq_true rfl⟩ ⟨Nat.le_of_ble_eq_true rfl, Nat.le_of_ble_eq_true rfl⟩ (fun v sh' σ4 hq => ?_)
  obtain ⟨rfl, rfl, hS4⟩ := hq
  refine fwg_putR' (ci := 0) (kk := 6) (.inr (0, [.ref 1, .ref 2, .ref 3, .ref 4, .ref 8, .ref 11, .ref 18, .null, .null, .null, .int 0, .int 0]) :: .inl (.byte, 4000) :: .inl (.byte, 58112) :: .inl (.byte, 2000) :: sCon :: .inl (.byte, 8000) :: .inl (.byte, 2000) :: .inl (.int, 256) :: sPro :: .inl (.byte, 65536) :: .inl (.int, 8) :: sFil :: .inl (.byte, 512512) :: .inl (.int, 1944) :: .inl (.boolean, 486) :: .inl (.int, 36) :: .inl (.byte, 128) :: .inl (.int, 36) :: sMon :: .inl (.int, 36) :: []) rfl (by decide) (Or.inl ⟨_, rfl⟩) (List.mem_of_getElem? (i := 161) rfl) rfl rfl (fun _ => ⟨rfl, rfl⟩) rfl d_iMB_87 rfl ?_
  refine fwRun_ok k_iMB_90_ok rfl trivial ?_
  refine fwg_new' 10 20 (.inr (0, [.ref 1, .ref 2, .ref 3, .ref 4, .ref 8, .ref 11, .ref 18, .null, .null, .null, .int 0, .int 0]) :: .inl (.byte, 4000) :: .inl (.byte, 58112) :: .inl (.byte, 2000) :: sCon :: .inl (.byte, 8000) :: .inl (.byte, 2000) :: .inl (.int, 256) :: sPro :: .inl (.byte, 65536) :: .inl (.int, 8) :: sFil :: .inl (.byte, 512512) :: .inl (.int, 1944) :: .inl (.boolean, 486) :: .inl (.int, 36) :: .inl (.byte, 128) :: .inl (.int, 36) :: sMon :: .inl (.int, 36) :: .inr (10, fwTmpl 10) :: []) rfl c_iMB_91 d_iMB_91 (Nat.le_of_ble_eq_true rfl) (Nat.le_of_ble_eq_true rfl) rfl rfl ?_
  refine fwRun_ok k_iMB_94_ok rfl trivial ?_
  refine fwg_callI (n := 1) (i := 20) (as := [.ref 18]) (r := [.ref 20, .ref 0]) ct_iShe ⟨by decide, by decide, by decide +kernel⟩ rfl rfl m_iShe_in c_iMB_99 rfl rfl (Nat.le_of_ble_eq_true rfl) d_iMB_99 ⟨Nat.le_of_ble_eq_true rfl, Nat.le_of_ble_eq_true rfl⟩ ⟨Nat.le_of_ble_eq_true rfl, Nat.le_of_ble_eq_true rfl⟩ (fun v sh' σ5 hq => ?_)
  obtain ⟨rfl, rfl, hS5⟩ := hq
  refine fwg_putR' (ci := 0) (kk := 7) (.inr (0, [.ref 1, .ref 2, .ref 3, .ref 4, .ref 8, .ref 11, .ref 18, .ref 20, .null, .null, .int 0, .int 0]) :: .inl (.byte, 4000) :: .inl (.byte, 58112) :: .inl (.byte, 2000) :: sCon :: .inl (.byte, 8000) :: .inl (.byte, 2000) :: .inl (.int, 256) :: sPro :: .inl (.byte, 65536) :: .inl (.int, 8) :: sFil :: .inl (.byte, 512512) :: .inl (.int, 1944) :: .inl (.boolean, 486) :: .inl (.int, 36) :: .inl (.byte, 128) :: .inl (.int, 36) :: sMon :: .inl (.int, 36) :: sShe :: sHex :: .inl (.byte, 58112) :: .inl (.long, 10) :: .inl (.int, 127) :: .inl (.int, 2) :: .inl (.int, 2) :: .inl (.int, 36) :: .inl (.int, 36) :: sRea :: .inl (.int, 36) :: .inl (.byte, 128) :: []) rfl (by decide) (Or.inl ⟨_, rfl⟩) (List.mem_of_getElem? (i := 162) rfl) rfl rfl (fun _ => ⟨rfl, rfl⟩) rfl d_iMB_102 rfl ?_
  refine fwRun_ok k_iMB_105_ok rfl trivial ?_
  refine fwg_new' 2 32 (.inr (0, [.ref 1, .ref 2, .ref 3, .ref 4, .ref 8, .ref 11, .ref 18, .ref 20, .null, .null, .int 0, .int 0]) :: .inl (.byte, 4000) :: .inl (.byte, 58112) :: .inl (.byte, 2000) :: sCon :: .inl (.byte, 8000) :: .inl (.byte, 2000) :: .inl (.int, 256) :: sPro :: .inl (.byte, 65536) :: .inl (.int, 8) :: sFil :: .inl (.byte, 512512) :: .inl (.int, 1944) :: .inl (.boolean, 486) :: .inl (.int, 36) :: .inl (.byte, 128) :: .inl (.int, 36) :: sMon :: .inl (.int, 36) :: sShe :: sHex :: .inl (.byte, 58112) :: .inl (.long, 10) :: .inl (.int, 127) :: .inl (.int, 2) :: .inl (.int, 2) :: .inl (.int, 36) :: .inl (.int, 36) :: sRea :: .inl (.int, 36) :: .inl (.byte, 128) :: .inr (2, fwTmpl 2) :: []) rfl c_iMB_106 d_iMB_106 (Nat.le_of_ble_eq_true rfl) (Nat.le_of_ble_eq_true rfl) rfl rfl ?_
  refine fwRun_ok k_iMB_109_ok rfl trivial ?_
  refine fwg_callI (n := 2) (i := 32) (as := [.ref 1, .ref 2]) (r := [.ref 32, .ref 0]) ct_iAsm ⟨by decide, by decide, by decide +kernel⟩ rfl rfl m_iAsm_in c_iMB_118 rfl rfl (Nat.le_of_ble_eq_true rfl) d_iMB_118 ⟨Nat.le_of_ble_eq_true rfl, Nat.le_of_ble_eq_true rfl⟩ ⟨Nat.le_of_ble_eq_true rfl, Nat.le_of_ble_eq_true rfl⟩ (fun v sh' σ6 hq => ?_)
  obtain ⟨rfl, rfl, hS6⟩ := hq
  refine fwg_putR' (ci := 0) (kk := 8) (.inr (0, [.ref 1, .ref 2, .ref 3, .ref 4, .ref 8, .ref 11, .ref 18, .ref 20, .ref 32, .null, .int 0, .int 0]) :: .inl (.byte, 4000) :: .inl (.byte, 58112) :: .inl (.byte, 2000) :: sCon :: .inl (.byte, 8000) :: .inl (.byte, 2000) :: .inl (.int, 256) :: sPro :: .inl (.byte, 65536) :: .inl (.int, 8) :: sFil :: .inl (.byte, 512512) :: .inl (.int, 1944) :: .inl (.boolean, 486) :: .inl (.int, 36) :: .inl (.byte, 128) :: .inl (.int, 36) :: sMon :: .inl (.int, 36) :: sShe :: sHex :: .inl (.byte, 58112) :: .inl (.long, 10) :: .inl (.int, 127) :: .inl (.int, 2) :: .inl (.int, 2) :: .inl (.int, 36) :: .inl (.int, 36) :: sRea :: .inl (.int, 36) :: .inl (.byte, 128) :: sAsm :: .inl (.long, 84) :: .inl (.int, 256) :: .inl (.long, 100) :: .inl (.int, 100) :: .inl (.int, 300) :: []) rfl (by decide) (Or.inl ⟨_, rfl⟩) (List.mem_of_getElem? (i := 163) rfl) rfl rfl (fun _ => ⟨rfl, rfl⟩) rfl d_iMB_121 rfl ?_
  refine fwRun_ok k_iMB_124_ok rfl trivial ?_
  refine fwg_new' 6 38 (.inr (0, [.ref 1, .ref 2, .ref 3, .ref 4, .ref 8, .ref 11, .ref 18, .ref 20, .ref 32, .null, .int 0, .int 0]) :: .inl (.byte, 4000) :: .inl (.byte, 58112) :: .inl (.byte, 2000) :: sCon :: .inl (.byte, 8000) :: .inl (.byte, 2000) :: .inl (.int, 256) :: sPro :: .inl (.byte, 65536) :: .inl (.int, 8) :: sFil :: .inl (.byte, 512512) :: .inl (.int, 1944) :: .inl (.boolean, 486) :: .inl (.int, 36) :: .inl (.byte, 128) :: .inl (.int, 36) :: sMon :: .inl (.int, 36) :: sShe :: sHex :: .inl (.byte, 58112) :: .inl (.long, 10) :: .inl (.int, 127) :: .inl (.int, 2) :: .inl (.int, 2) :: .inl (.int, 36) :: .inl (.int, 36) :: sRea :: .inl (.int, 36) :: .inl (.byte, 128) :: sAsm :: .inl (.long, 84) :: .inl (.int, 256) :: .inl (.long, 100) :: .inl (.int, 100) :: .inl (.int, 300) :: .inr (6, fwTmpl 6) :: []) rfl c_iMB_125 d_iMB_125 (Nat.le_of_ble_eq_true rfl) (Nat.le_of_ble_eq_true rfl) rfl rfl ?_
  refine fwRun_ok k_iMB_128_ok rfl trivial ?_
  refine fwg_callI (n := 2) (i := 38) (as := [.ref 9, .ref 2]) (r := [.ref 38, .ref 0]) ct_iLis ⟨by decide, by decide, by decide +kernel⟩ rfl rfl m_iLis_in c_iMB_140 rfl rfl (Nat.le_of_ble_eq_true rfl) d_iMB_140 ⟨Nat.le_of_ble_eq_true rfl, Nat.le_of_ble_eq_true rfl⟩ ⟨Nat.le_of_ble_eq_true rfl, Nat.le_of_ble_eq_true rfl⟩ (fun v sh' σ7 hq => ?_)
  obtain ⟨rfl, rfl, hS7⟩ := hq
  refine fwg_putR' (ci := 0) (kk := 9) (sMB :: .inl (.byte, 4000) :: .inl (.byte, 58112) :: .inl (.byte, 2000) :: sCon :: .inl (.byte, 8000) :: .inl (.byte, 2000) :: .inl (.int, 256) :: sPro :: .inl (.byte, 65536) :: .inl (.int, 8) :: sFil :: .inl (.byte, 512512) :: .inl (.int, 1944) :: .inl (.boolean, 486) :: .inl (.int, 36) :: .inl (.byte, 128) :: .inl (.int, 36) :: sMon :: .inl (.int, 36) :: sShe :: sHex :: .inl (.byte, 58112) :: .inl (.long, 10) :: .inl (.int, 127) :: .inl (.int, 2) :: .inl (.int, 2) :: .inl (.int, 36) :: .inl (.int, 36) :: sRea :: .inl (.int, 36) :: .inl (.byte, 128) :: sAsm :: .inl (.long, 84) :: .inl (.int, 256) :: .inl (.long, 100) :: .inl (.int, 100) :: .inl (.int, 300) :: sLis :: []) rfl (by decide) (Or.inl ⟨_, rfl⟩) (List.mem_of_getElem? (i := 164) rfl) rfl rfl (fun _ => ⟨rfl, rfl⟩) rfl d_iMB_143 rfl ?_
  have hA : fwSame [1, 2, 3, 4, 5, 6, 7] σ σ1 := ((((fwSame_0 (by decide)).tr (fwSame_0 (by decide))).tr (fwSame_0 (by decide))).tr (fwSame_0 (by decide))).tr (hS1.up (by decide))
  have z4 : ∀ b, σ1.1 4 b = 0 := fun b => by rw [hS1.c (by decide)]; exact fwZero_1
  have l8 : σ2.2 8 6 = 0 := by rw [hL2]; exact fwZero_2
  have hC : fwSame [18, 19, 20, 21, 22, 23, 24, 25, 26, 27, 28, 29, 30, 31, 32, 33, 34, 35, 36, 37, 38] σ3 σ7 := by
    rw [hS7]
    exact ((((((fwSame_0 (by decide)).tr (hS4.up (by decide))).tr (fwSame_0 (by decide))).tr (hS5.up (by decide))).tr (fwSame_0 (by decide))).tr (hS6.up (by decide))).tr (fwSame_0 (by decide))
  have hE : fwSame [11, 12, 13, 14, 15, 16, 17, 18, 19, 20, 21, 22, 23, 24, 25, 26, 27, 28, 29, 30, 31, 32, 33, 34, 35, 36, 37, 38] σ2 σ7 := ((fwSame_0 (by decide)).tr (hS3.up (by decide))).tr (hC.up (by decide))
  have hD : fwSame [8, 9, 10, 11, 12, 13, 14, 15, 16, 17, 18, 19, 20, 21, 22, 23, 24, 25, 26, 27, 28, 29, 30, 31, 32, 33, 34, 35, 36, 37, 38] σ1 σ7 := ((fwSame_0 (by decide)).tr (hS2.up (by decide))).tr (hE.up (by decide))
  have hF : FilOk σ7 := ⟨fun j hj => by rw [hC.c (by decide)]; exact hF3.1 j hj, fun k hk => by rw [hC.c (by decide)]; exact hF3.2 k hk⟩
  have y4 : ∀ b, σ7.1 4 b = 0 := fun b => by rw [hD.c (by decide)]; exact z4 b
  have y8 : σ7.2 8 6 = 0 := by rw [hE.c2 (by decide)]; exact l8
  clear hS1 hS2 hS3 hS4 hS5 hS6 hS7
  refine fwRun_ok k_iMB_146_ok rfl trivial ?_
  refine fwg_callV (n := 0) (i := 18) (as := []) (r := []) (ct_cold (t := 0) (y4 3) (y4 4) (by decide) hF) ⟨by decide, by decide, by decide +kernel⟩ m_cold_in c_iMB_150 rfl rfl rfl rfl (Nat.le_of_ble_eq_true rfl) d_iMB_150 ⟨Nat.le_of_ble_eq_true rfl, Nat.le_of_ble_eq_true rfl⟩ ⟨Nat.le_of_ble_eq_true rfl, Nat.le_of_ble_eq_true rfl⟩ (fun v sh' σ8 hq => ?_)
  obtain ⟨rfl, rfl, q1, ⟨a3, a4, a5, a6, a7, a8, a9⟩, ⟨b3, b4, b5, b7, bl⟩, hm, hr, hf, d8, d4⟩ := hq
  refine fwg_vret rfl (Nat.le_of_ble_eq_true rfl) (Nat.le_of_ble_eq_true rfl) ⟨rfl, rfl, ⟨⟨?_, ?_⟩, ⟨a3, a4, a5.trans (y4 5), a6, a7, a8, a9⟩, ⟨b3, b4, b5, b7, by rw [bl]; exact y8⟩, hm, hr, hf, ⟨d8, d4⟩, ⟨fun j hj => by rw [q1.c (by decide)]; exact hF.1 j hj, fun k hk => by rw [q1.c (by decide)]; exact hF.2 k hk⟩⟩, ((hA.up (by decide)).tr (hD.up (by decide))).tr (q1.up (by decide))⟩ d_iMB_153
  · rw [q1.c (by decide), hD.c (by decide), hA.c (by decide)]; exact h10
  · rw [q1.c (by decide), hD.c (by decide), hA.c (by decide)]; exact h11
end MBI
end
section
/-! methods, their instructions, by program (wip/whole/methods.py) -/
/-- MonitorBoard.feedNumber(I)V -/
abbrev m_feedNumber : fwM := (⟨"MonitorBoard", "feedNumber", "(I)V"⟩, prog_1_method_3_code, 3, (none : Option FieldType))
theorem m_feedNumber_in : Cond.code m_feedNumber.1 m_feedNumber.2.1 m_feedNumber.2.2.1 m_feedNumber.2.2.2 ∈ fwT := fwT_mem (List.mem_of_getElem? (i := 924) (by decide +kernel)) rfl
def k_feedNumber_0 : List fwO := [(.bipush 24, 0, 0, .int 24), (.istore_n 2, 0, 0, .null)]
theorem k_feedNumber_0_ok : fwChain m_feedNumber.1.cls m_feedNumber.2.1 0 k_feedNumber_0 3 = true := by decide +kernel
def k_feedNumber_3 : List fwO := [(.iload_n 2, 0, 0, .null)]
theorem k_feedNumber_3_ok : fwChain m_feedNumber.1.cls m_feedNumber.2.1 3 k_feedNumber_3 4 = true := by decide +kernel
theorem d_feedNumber_4 : decode m_feedNumber.2.1 4 = .ok (.ifCond .lt 32, 3) := by decide +kernel
def k_feedNumber_7 : List fwO := [(.aload_n 0, 0, 0, .null), (.getfield 9, 0, 0, .retAddr 155), (.aload_n 0, 0, 0, .null), (.getfield 83, 0, 10, .retAddr 165), (.iload_n 1, 0, 0, .null), (.iload_n 2, 0, 0, .null), (.ishr, 0, 0, .null), (.i2b, 0, 0, .null), (.bastore, 0, 0, .null), (.aload_n 0, 0, 0, .null), (.dup, 0, 0, .null), (.getfield 83, 0, 10, .retAddr 165), (.iconst 1, 0, 0, .int 1), (.iadd, 0, 0, .null), (.putfield 83, 0, 10, .retAddr 165), (.iinc 2 (-8), 0, 0, .int (-8))]
theorem k_feedNumber_7_ok : fwChain m_feedNumber.1.cls m_feedNumber.2.1 7 k_feedNumber_7 33 = true := by decide +kernel
theorem d_feedNumber_33 : decode m_feedNumber.2.1 33 = .ok (.goto (-30), 3) := by decide +kernel
theorem d_feedNumber_36 : decode m_feedNumber.2.1 36 = .ok (.return_, 1) := by decide +kernel
/-- MonitorBoard.feed(IIIII)Z -/
abbrev m_feed : fwM := (⟨"MonitorBoard", "feed", "(IIIII)Z"⟩, prog_1_method_2_code, 6, (some FieldType.boolean))
theorem m_feed_in : Cond.code m_feed.1 m_feed.2.1 m_feed.2.2.1 m_feed.2.2.2 ∈ fwT := fwT_mem (List.mem_of_getElem? (i := 920) (by decide +kernel)) rfl
def k_feed_0 : List fwO := [(.aload_n 0, 0, 0, .null), (.getfield 83, 0, 10, .retAddr 165), (.bipush 20, 0, 0, .int 20), (.iadd, 0, 0, .null), (.sipush 4000, 0, 0, .int 4000)]
theorem k_feed_0_ok : fwChain m_feed.1.cls m_feed.2.1 0 k_feed_0 10 = true := by decide +kernel
theorem d_feed_10 : decode m_feed.2.1 10 = .ok (.if_icmp .le 5, 3) := by decide +kernel
def k_feed_13 : List fwO := [(.iconst 0, 0, 0, .int 0)]
theorem k_feed_13_ok : fwChain m_feed.1.cls m_feed.2.1 13 k_feed_13 14 = true := by decide +kernel
theorem d_feed_14 : decode m_feed.2.1 14 = .ok (.ireturn, 1) := by decide +kernel
def k_feed_15 : List fwO := [(.aload_n 0, 0, 0, .null), (.iload_n 1, 0, 0, .null)]
theorem k_feed_15_ok : fwChain m_feed.1.cls m_feed.2.1 15 k_feed_15 17 = true := by decide +kernel
theorem d_feed_17 : decode m_feed.2.1 17 = .ok (.invokevirtual 87, 3) := by decide +kernel
def k_feed_20 : List fwO := [(.aload_n 0, 0, 0, .null), (.iload_n 2, 0, 0, .null)]
theorem k_feed_20_ok : fwChain m_feed.1.cls m_feed.2.1 20 k_feed_20 22 = true := by decide +kernel
theorem d_feed_22 : decode m_feed.2.1 22 = .ok (.invokevirtual 87, 3) := by decide +kernel
def k_feed_25 : List fwO := [(.aload_n 0, 0, 0, .null), (.iload_n 3, 0, 0, .null)]
theorem k_feed_25_ok : fwChain m_feed.1.cls m_feed.2.1 25 k_feed_25 27 = true := by decide +kernel
theorem d_feed_27 : decode m_feed.2.1 27 = .ok (.invokevirtual 87, 3) := by decide +kernel
def k_feed_30 : List fwO := [(.aload_n 0, 0, 0, .null), (.iload 4, 0, 0, .null)]
theorem k_feed_30_ok : fwChain m_feed.1.cls m_feed.2.1 30 k_feed_30 33 = true := by decide +kernel
theorem d_feed_33 : decode m_feed.2.1 33 = .ok (.invokevirtual 87, 3) := by decide +kernel
def k_feed_36 : List fwO := [(.aload_n 0, 0, 0, .null), (.iload 5, 0, 0, .null)]
theorem k_feed_36_ok : fwChain m_feed.1.cls m_feed.2.1 36 k_feed_36 39 = true := by decide +kernel
theorem d_feed_39 : decode m_feed.2.1 39 = .ok (.invokevirtual 87, 3) := by decide +kernel
def k_feed_42 : List fwO := [(.iconst 1, 0, 0, .int 1)]
theorem k_feed_42_ok : fwChain m_feed.1.cls m_feed.2.1 42 k_feed_42 43 = true := by decide +kernel
theorem d_feed_43 : decode m_feed.2.1 43 = .ok (.ireturn, 1) := by decide +kernel
/-- MonitorBoard.end(I)Z -/
abbrev m_end : fwM := (⟨"MonitorBoard", "end", "(I)Z"⟩, prog_1_method_4_code, 2, (some FieldType.boolean))
theorem m_end_in : Cond.code m_end.1 m_end.2.1 m_end.2.2.1 m_end.2.2.2 ∈ fwT := fwT_mem (List.mem_of_getElem? (i := 928) (by decide +kernel)) rfl
def k_end_0 : List fwO := [(.iload_n 1, 0, 0, .null)]
theorem k_end_0_ok : fwChain m_end.1.cls m_end.2.1 0 k_end_0 1 = true := by decide +kernel
theorem d_end_1 : decode m_end.2.1 1 = .ok (.ifCond .lt 11, 3) := by decide +kernel
def k_end_4 : List fwO := [(.iload_n 1, 0, 0, .null), (.aload_n 0, 0, 0, .null), (.getfield 83, 0, 10, .retAddr 165)]
theorem k_end_4_ok : fwChain m_end.1.cls m_end.2.1 4 k_end_4 9 = true := by decide +kernel
theorem d_end_9 : decode m_end.2.1 9 = .ok (.if_icmp .le 5, 3) := by decide +kernel
def k_end_12 : List fwO := [(.iconst 0, 0, 0, .int 0)]
theorem k_end_12_ok : fwChain m_end.1.cls m_end.2.1 12 k_end_12 13 = true := by decide +kernel
theorem d_end_13 : decode m_end.2.1 13 = .ok (.ireturn, 1) := by decide +kernel
def k_end_14 : List fwO := [(.aload_n 0, 0, 0, .null), (.iload_n 1, 0, 0, .null), (.putfield 83, 0, 10, .retAddr 165), (.iconst 1, 0, 0, .int 1)]
theorem k_end_14_ok : fwChain m_end.1.cls m_end.2.1 14 k_end_14 20 = true := by decide +kernel
theorem d_end_20 : decode m_end.2.1 20 = .ok (.ireturn, 1) := by decide +kernel
/-- MonitorBoard$Console.addKeys([BI)V -/
abbrev m_addKeys : fwM := (⟨"MonitorBoard$Console", "addKeys", "([BI)V"⟩, prog_4_method_8_code, 4, (none : Option FieldType))
theorem m_addKeys_in : Cond.code m_addKeys.1 m_addKeys.2.1 m_addKeys.2.2.1 m_addKeys.2.2.2 ∈ fwT := fwT_mem (List.mem_of_getElem? (i := 936) (by decide +kernel)) rfl
def k_addKeys_0 : List fwO := [(.iconst 0, 0, 0, .int 0), (.istore_n 3, 0, 0, .null)]
theorem k_addKeys_0_ok : fwChain m_addKeys.1.cls m_addKeys.2.1 0 k_addKeys_0 2 = true := by decide +kernel
def k_addKeys_2 : List fwO := [(.iload_n 3, 0, 0, .null), (.iload_n 2, 0, 0, .null)]
theorem k_addKeys_2_ok : fwChain m_addKeys.1.cls m_addKeys.2.1 2 k_addKeys_2 4 = true := by decide +kernel
theorem d_addKeys_4 : decode m_addKeys.2.1 4 = .ok (.if_icmp .ge 56, 3) := by decide +kernel
def k_addKeys_7 : List fwO := [(.iload_n 3, 0, 0, .null), (.aload_n 1, 0, 0, .null), (.arraylength, 0, 0, .null)]
theorem k_addKeys_7_ok : fwChain m_addKeys.1.cls m_addKeys.2.1 7 k_addKeys_7 10 = true := by decide +kernel
theorem d_addKeys_10 : decode m_addKeys.2.1 10 = .ok (.if_icmp .ge 50, 3) := by decide +kernel
def k_addKeys_13 : List fwO := [(.aload_n 0, 0, 0, .null), (.getfield 51, 3, 6, .retAddr 10), (.sipush 2000, 0, 0, .int 2000)]
theorem k_addKeys_13_ok : fwChain m_addKeys.1.cls m_addKeys.2.1 13 k_addKeys_13 20 = true := by decide +kernel
theorem d_addKeys_20 : decode m_addKeys.2.1 20 = .ok (.if_icmp .ge 40, 3) := by decide +kernel
def k_addKeys_23 : List fwO := [(.aload_n 0, 0, 0, .null), (.getfield 15, 3, 1, .retAddr 1), (.aload_n 0, 0, 0, .null), (.getfield 54, 3, 5, .retAddr 7), (.aload_n 0, 0, 0, .null), (.getfield 51, 3, 6, .retAddr 10), (.iadd, 0, 0, .null), (.sipush 2000, 0, 0, .int 2000), (.irem, 0, 0, .null), (.aload_n 1, 0, 0, .null), (.iload_n 3, 0, 0, .null), (.baload, 0, 0, .null), (.bastore, 0, 0, .null), (.aload_n 0, 0, 0, .null), (.dup, 0, 0, .null), (.getfield 51, 3, 6, .retAddr 10), (.iconst 1, 0, 0, .int 1), (.iadd, 0, 0, .null), (.putfield 51, 3, 6, .retAddr 10), (.iinc 3 1, 0, 0, .int 1)]
theorem k_addKeys_23_ok : fwChain m_addKeys.1.cls m_addKeys.2.1 23 k_addKeys_23 57 = true := by decide +kernel
theorem d_addKeys_57 : decode m_addKeys.2.1 57 = .ok (.goto (-55), 3) := by decide +kernel
theorem d_addKeys_60 : decode m_addKeys.2.1 60 = .ok (.return_, 1) := by decide +kernel
/-- MonitorBoard.keys()I -/
abbrev m_keys : fwM := (⟨"MonitorBoard", "keys", "()I"⟩, prog_1_method_5_code, 1, (some FieldType.int))
theorem m_keys_in : Cond.code m_keys.1 m_keys.2.1 m_keys.2.2.1 m_keys.2.2.2 ∈ fwT := fwT_mem (List.mem_of_getElem? (i := 932) (by decide +kernel)) rfl
def k_keys_0 : List fwO := [(.aload_n 0, 0, 0, .null), (.getfield 23, 0, 3, .retAddr 158), (.getfield 91, 3, 6, .retAddr 9), (.aload_n 0, 0, 0, .null), (.getfield 83, 0, 10, .retAddr 165), (.iadd, 0, 0, .null), (.sipush 2000, 0, 0, .int 2000)]
theorem k_keys_0_ok : fwChain m_keys.1.cls m_keys.2.1 0 k_keys_0 15 = true := by decide +kernel
theorem d_keys_15 : decode m_keys.2.1 15 = .ok (.if_icmp .le 5, 3) := by decide +kernel
def k_keys_18 : List fwO := [(.iconst (-1), 0, 0, .int (-1))]
theorem k_keys_18_ok : fwChain m_keys.1.cls m_keys.2.1 18 k_keys_18 19 = true := by decide +kernel
theorem d_keys_19 : decode m_keys.2.1 19 = .ok (.ireturn, 1) := by decide +kernel
def k_keys_20 : List fwO := [(.aload_n 0, 0, 0, .null), (.getfield 23, 0, 3, .retAddr 158), (.aload_n 0, 0, 0, .null), (.getfield 9, 0, 0, .retAddr 155), (.aload_n 0, 0, 0, .null), (.getfield 83, 0, 10, .retAddr 165)]
theorem k_keys_20_ok : fwChain m_keys.1.cls m_keys.2.1 20 k_keys_20 32 = true := by decide +kernel
theorem d_keys_32 : decode m_keys.2.1 32 = .ok (.invokevirtual 94, 3) := by decide +kernel
def k_keys_35 : List fwO := [(.aload_n 0, 0, 0, .null), (.iconst 0, 0, 0, .int 0), (.putfield 83, 0, 10, .retAddr 165), (.aload_n 0, 0, 0, .null), (.getfield 23, 0, 3, .retAddr 158), (.getfield 91, 3, 6, .retAddr 9)]
theorem k_keys_35_ok : fwChain m_keys.1.cls m_keys.2.1 35 k_keys_35 47 = true := by decide +kernel
theorem d_keys_47 : decode m_keys.2.1 47 = .ok (.ireturn, 1) := by decide +kernel
/-- MonitorBoard.boot()V -/
abbrev m_boot : fwM := (⟨"MonitorBoard", "boot", "()V"⟩, prog_1_method_6_code, 1, (none : Option FieldType))
theorem m_boot_in : Cond.code m_boot.1 m_boot.2.1 m_boot.2.2.1 m_boot.2.2.2 ∈ fwT := fwT_mem (List.mem_of_getElem? (i := 940) (by decide +kernel)) rfl
def k_boot_0 : List fwO := [(.aload_n 0, 0, 0, .null), (.getfield 48, 0, 6, .retAddr 161)]
theorem k_boot_0_ok : fwChain m_boot.1.cls m_boot.2.1 0 k_boot_0 4 = true := by decide +kernel
theorem d_boot_4 : decode m_boot.2.1 4 = .ok (.invokevirtual 80, 3) := by decide +kernel
theorem d_boot_7 : decode m_boot.2.1 7 = .ok (.return_, 1) := by decide +kernel
/-- MonitorBoard$Console.readLine()I -/
abbrev m_readLine : fwM := (⟨"MonitorBoard$Console", "readLine", "()I"⟩, prog_4_method_12_code, 3, (some FieldType.int))
theorem m_readLine_in : Cond.code m_readLine.1 m_readLine.2.1 m_readLine.2.2.1 m_readLine.2.2.2 ∈ fwT := fwT_mem (List.mem_of_getElem? (i := 954) (by decide +kernel)) rfl
def k_readLine_0 : List fwO := [(.iconst 0, 0, 0, .int 0), (.istore_n 1, 0, 0, .null)]
theorem k_readLine_0_ok : fwChain m_readLine.1.cls m_readLine.2.1 0 k_readLine_0 2 = true := by decide +kernel
def k_readLine_2 : List fwO := [(.iload_n 1, 0, 0, .null), (.sipush 2000, 0, 0, .int 2000)]
theorem k_readLine_2_ok : fwChain m_readLine.1.cls m_readLine.2.1 2 k_readLine_2 6 = true := by decide +kernel
theorem d_readLine_6 : decode m_readLine.2.1 6 = .ok (.if_icmp .ge 100, 3) := by decide +kernel
def k_readLine_9 : List fwO := [(.aload_n 0, 0, 0, .null), (.getfield 51, 3, 6, .retAddr 10)]
theorem k_readLine_9_ok : fwChain m_readLine.1.cls m_readLine.2.1 9 k_readLine_9 13 = true := by decide +kernel
theorem d_readLine_13 : decode m_readLine.2.1 13 = .ok (.ifCond .le 93, 3) := by decide +kernel
def k_readLine_16 : List fwO := [(.aload_n 0, 0, 0, .null)]
theorem k_readLine_16_ok : fwChain m_readLine.1.cls m_readLine.2.1 16 k_readLine_16 17 = true := by decide +kernel
theorem d_readLine_17 : decode m_readLine.2.1 17 = .ok (.invokevirtual 67, 3) := by decide +kernel
def k_readLine_20 : List fwO := [(.bipush 127, 0, 0, .int 127), (.iand, 0, 0, .null), (.istore_n 2, 0, 0, .null), (.iload_n 2, 0, 0, .null), (.bipush 13, 0, 0, .int 13)]
theorem k_readLine_20_ok : fwChain m_readLine.1.cls m_readLine.2.1 20 k_readLine_20 27 = true := by decide +kernel
theorem d_readLine_27 : decode m_readLine.2.1 27 = .ok (.if_icmp .eq 9, 3) := by decide +kernel
def k_readLine_30 : List fwO := [(.iload_n 2, 0, 0, .null), (.bipush 10, 0, 0, .int 10)]
theorem k_readLine_30_ok : fwChain m_readLine.1.cls m_readLine.2.1 30 k_readLine_30 33 = true := by decide +kernel
theorem d_readLine_33 : decode m_readLine.2.1 33 = .ok (.if_icmp .ne 8, 3) := by decide +kernel
def k_readLine_36 : List fwO := [(.aload_n 0, 0, 0, .null)]
theorem k_readLine_36_ok : fwChain m_readLine.1.cls m_readLine.2.1 36 k_readLine_36 37 = true := by decide +kernel
theorem d_readLine_37 : decode m_readLine.2.1 37 = .ok (.invokevirtual 70, 3) := by decide +kernel
theorem d_readLine_40 : decode m_readLine.2.1 40 = .ok (.ireturn, 1) := by decide +kernel
def k_readLine_41 : List fwO := [(.iload_n 2, 0, 0, .null), (.bipush 8, 0, 0, .int 8)]
theorem k_readLine_41_ok : fwChain m_readLine.1.cls m_readLine.2.1 41 k_readLine_41 44 = true := by decide +kernel
theorem d_readLine_44 : decode m_readLine.2.1 44 = .ok (.if_icmp .eq 9, 3) := by decide +kernel
def k_readLine_47 : List fwO := [(.iload_n 2, 0, 0, .null), (.bipush 127, 0, 0, .int 127)]
theorem k_readLine_47_ok : fwChain m_readLine.1.cls m_readLine.2.1 47 k_readLine_47 50 = true := by decide +kernel
theorem d_readLine_50 : decode m_readLine.2.1 50 = .ok (.if_icmp .ne 10, 3) := by decide +kernel
def k_readLine_53 : List fwO := [(.aload_n 0, 0, 0, .null)]
theorem k_readLine_53_ok : fwChain m_readLine.1.cls m_readLine.2.1 53 k_readLine_53 54 = true := by decide +kernel
theorem d_readLine_54 : decode m_readLine.2.1 54 = .ok (.invokevirtual 73, 3) := by decide +kernel
theorem d_readLine_57 : decode m_readLine.2.1 57 = .ok (.goto 43, 3) := by decide +kernel
def k_readLine_60 : List fwO := [(.iload_n 2, 0, 0, .null), (.iconst 3, 0, 0, .int 3)]
theorem k_readLine_60_ok : fwChain m_readLine.1.cls m_readLine.2.1 60 k_readLine_60 62 = true := by decide +kernel
theorem d_readLine_62 : decode m_readLine.2.1 62 = .ok (.if_icmp .ne 17, 3) := by decide +kernel
def k_readLine_65 : List fwO := [(.aload_n 0, 0, 0, .null), (.getfield 60, 3, 7, .retAddr 12)]
theorem k_readLine_65_ok : fwChain m_readLine.1.cls m_readLine.2.1 65 k_readLine_65 69 = true := by decide +kernel
theorem d_readLine_69 : decode m_readLine.2.1 69 = .ok (.ifCond .ne 10, 3) := by decide +kernel
def k_readLine_72 : List fwO := [(.aload_n 0, 0, 0, .null), (.iconst 0, 0, 0, .int 0), (.putfield 63, 3, 9, .retAddr 15), (.iconst 2, 0, 0, .int 2)]
theorem k_readLine_72_ok : fwChain m_readLine.1.cls m_readLine.2.1 72 k_readLine_72 78 = true := by decide +kernel
theorem d_readLine_78 : decode m_readLine.2.1 78 = .ok (.ireturn, 1) := by decide +kernel
def k_readLine_79 : List fwO := [(.aload_n 0, 0, 0, .null), (.iload_n 2, 0, 0, .null)]
theorem k_readLine_79_ok : fwChain m_readLine.1.cls m_readLine.2.1 79 k_readLine_79 81 = true := by decide +kernel
theorem d_readLine_81 : decode m_readLine.2.1 81 = .ok (.invokevirtual 76, 3) := by decide +kernel
def k_readLine_84 : List fwO := [(.aload_n 0, 0, 0, .null), (.getfield 60, 3, 7, .retAddr 12), (.aload_n 0, 0, 0, .null), (.getfield 57, 3, 8, .retAddr 14)]
theorem k_readLine_84_ok : fwChain m_readLine.1.cls m_readLine.2.1 84 k_readLine_84 92 = true := by decide +kernel
theorem d_readLine_92 : decode m_readLine.2.1 92 = .ok (.if_icmp .lt 8, 3) := by decide +kernel
def k_readLine_95 : List fwO := [(.aload_n 0, 0, 0, .null)]
theorem k_readLine_95_ok : fwChain m_readLine.1.cls m_readLine.2.1 95 k_readLine_95 96 = true := by decide +kernel
theorem d_readLine_96 : decode m_readLine.2.1 96 = .ok (.invokevirtual 70, 3) := by decide +kernel
theorem d_readLine_99 : decode m_readLine.2.1 99 = .ok (.ireturn, 1) := by decide +kernel
def k_readLine_100 : List fwO := [(.iinc 1 1, 0, 0, .int 1)]
theorem k_readLine_100_ok : fwChain m_readLine.1.cls m_readLine.2.1 100 k_readLine_100 103 = true := by decide +kernel
theorem d_readLine_103 : decode m_readLine.2.1 103 = .ok (.goto (-101), 3) := by decide +kernel
def k_readLine_106 : List fwO := [(.iconst 0, 0, 0, .int 0)]
theorem k_readLine_106_ok : fwChain m_readLine.1.cls m_readLine.2.1 106 k_readLine_106 107 = true := by decide +kernel
theorem d_readLine_107 : decode m_readLine.2.1 107 = .ok (.ireturn, 1) := by decide +kernel
/-- MonitorBoard$Shell.goOn()Z -/
abbrev m_goOn : fwM := (⟨"MonitorBoard$Shell", "goOn", "()Z"⟩, prog_11_method_2_code, 3, (some FieldType.boolean))
theorem m_goOn_in : Cond.code m_goOn.1 m_goOn.2.1 m_goOn.2.2.1 m_goOn.2.2.2 ∈ fwT := fwT_mem (List.mem_of_getElem? (i := 950) (by decide +kernel)) rfl
def k_goOn_0 : List fwO := [(.aload_n 0, 0, 0, .null), (.getfield 59, 10, 2, .retAddr 114)]
theorem k_goOn_0_ok : fwChain m_goOn.1.cls m_goOn.2.1 0 k_goOn_0 4 = true := by decide +kernel
theorem d_goOn_4 : decode m_goOn.2.1 4 = .ok (.invokevirtual 74, 3) := by decide +kernel
def k_goOn_7 : List fwO := [(.istore_n 1, 0, 0, .null), (.iload_n 1, 0, 0, .null)]
theorem k_goOn_7_ok : fwChain m_goOn.1.cls m_goOn.2.1 7 k_goOn_7 9 = true := by decide +kernel
theorem d_goOn_9 : decode m_goOn.2.1 9 = .ok (.ifCond .ne 5, 3) := by decide +kernel
def k_goOn_12 : List fwO := [(.iconst 0, 0, 0, .int 0)]
theorem k_goOn_12_ok : fwChain m_goOn.1.cls m_goOn.2.1 12 k_goOn_12 13 = true := by decide +kernel
theorem d_goOn_13 : decode m_goOn.2.1 13 = .ok (.ireturn, 1) := by decide +kernel
def k_goOn_14 : List fwO := [(.iload_n 1, 0, 0, .null), (.iconst 2, 0, 0, .int 2)]
theorem k_goOn_14_ok : fwChain m_goOn.1.cls m_goOn.2.1 14 k_goOn_14 16 = true := by decide +kernel
theorem d_goOn_16 : decode m_goOn.2.1 16 = .ok (.if_icmp .ne 12, 3) := by decide +kernel
def k_goOn_19 : List fwO := [(.aload_n 0, 0, 0, .null), (.getfield 44, 10, 0, .retAddr 112)]
theorem k_goOn_19_ok : fwChain m_goOn.1.cls m_goOn.2.1 19 k_goOn_19 23 = true := by decide +kernel
theorem d_goOn_23 : decode m_goOn.2.1 23 = .ok (.invokevirtual 80, 3) := by decide +kernel
def k_goOn_26 : List fwO := [(.iconst 1, 0, 0, .int 1)]
theorem k_goOn_26_ok : fwChain m_goOn.1.cls m_goOn.2.1 26 k_goOn_26 27 = true := by decide +kernel
theorem d_goOn_27 : decode m_goOn.2.1 27 = .ok (.ireturn, 1) := by decide +kernel
def k_goOn_28 : List fwO := [(.aload_n 0, 0, 0, .null)]
theorem k_goOn_28_ok : fwChain m_goOn.1.cls m_goOn.2.1 28 k_goOn_28 29 = true := by decide +kernel
theorem d_goOn_29 : decode m_goOn.2.1 29 = .ok (.invokevirtual 83, 3) := by decide +kernel
def k_goOn_32 : List fwO := [(.aload_n 0, 0, 0, .null)]
theorem k_goOn_32_ok : fwChain m_goOn.1.cls m_goOn.2.1 32 k_goOn_32 33 = true := by decide +kernel
theorem d_goOn_33 : decode m_goOn.2.1 33 = .ok (.invokevirtual 86, 3) := by decide +kernel
theorem d_goOn_36 : decode m_goOn.2.1 36 = .ok (.tableswitch 136 0 9 #[56, 64, 72, 80, 88, 96, 104, 112, 120, 128], 56) := by decide +kernel
def k_goOn_92 : List fwO := [(.aload_n 0, 0, 0, .null)]
theorem k_goOn_92_ok : fwChain m_goOn.1.cls m_goOn.2.1 92 k_goOn_92 93 = true := by decide +kernel
theorem d_goOn_93 : decode m_goOn.2.1 93 = .ok (.invokevirtual 89, 3) := by decide +kernel
def k_goOn_96 : List fwO := [(.istore_n 2, 0, 0, .null)]
theorem k_goOn_96_ok : fwChain m_goOn.1.cls m_goOn.2.1 96 k_goOn_96 97 = true := by decide +kernel
theorem d_goOn_97 : decode m_goOn.2.1 97 = .ok (.goto 95, 3) := by decide +kernel
def k_goOn_100 : List fwO := [(.aload_n 0, 0, 0, .null)]
theorem k_goOn_100_ok : fwChain m_goOn.1.cls m_goOn.2.1 100 k_goOn_100 101 = true := by decide +kernel
theorem d_goOn_101 : decode m_goOn.2.1 101 = .ok (.invokevirtual 92, 3) := by decide +kernel
def k_goOn_104 : List fwO := [(.istore_n 2, 0, 0, .null)]
theorem k_goOn_104_ok : fwChain m_goOn.1.cls m_goOn.2.1 104 k_goOn_104 105 = true := by decide +kernel
theorem d_goOn_105 : decode m_goOn.2.1 105 = .ok (.goto 87, 3) := by decide +kernel
def k_goOn_108 : List fwO := [(.aload_n 0, 0, 0, .null)]
theorem k_goOn_108_ok : fwChain m_goOn.1.cls m_goOn.2.1 108 k_goOn_108 109 = true := by decide +kernel
theorem d_goOn_109 : decode m_goOn.2.1 109 = .ok (.invokevirtual 95, 3) := by decide +kernel
def k_goOn_112 : List fwO := [(.istore_n 2, 0, 0, .null)]
theorem k_goOn_112_ok : fwChain m_goOn.1.cls m_goOn.2.1 112 k_goOn_112 113 = true := by decide +kernel
theorem d_goOn_113 : decode m_goOn.2.1 113 = .ok (.goto 79, 3) := by decide +kernel
def k_goOn_116 : List fwO := [(.aload_n 0, 0, 0, .null)]
theorem k_goOn_116_ok : fwChain m_goOn.1.cls m_goOn.2.1 116 k_goOn_116 117 = true := by decide +kernel
theorem d_goOn_117 : decode m_goOn.2.1 117 = .ok (.invokevirtual 98, 3) := by decide +kernel
def k_goOn_120 : List fwO := [(.istore_n 2, 0, 0, .null)]
theorem k_goOn_120_ok : fwChain m_goOn.1.cls m_goOn.2.1 120 k_goOn_120 121 = true := by decide +kernel
theorem d_goOn_121 : decode m_goOn.2.1 121 = .ok (.goto 71, 3) := by decide +kernel
def k_goOn_124 : List fwO := [(.aload_n 0, 0, 0, .null)]
theorem k_goOn_124_ok : fwChain m_goOn.1.cls m_goOn.2.1 124 k_goOn_124 125 = true := by decide +kernel
theorem d_goOn_125 : decode m_goOn.2.1 125 = .ok (.invokevirtual 101, 3) := by decide +kernel
def k_goOn_128 : List fwO := [(.istore_n 2, 0, 0, .null)]
theorem k_goOn_128_ok : fwChain m_goOn.1.cls m_goOn.2.1 128 k_goOn_128 129 = true := by decide +kernel
theorem d_goOn_129 : decode m_goOn.2.1 129 = .ok (.goto 63, 3) := by decide +kernel
def k_goOn_132 : List fwO := [(.aload_n 0, 0, 0, .null)]
theorem k_goOn_132_ok : fwChain m_goOn.1.cls m_goOn.2.1 132 k_goOn_132 133 = true := by decide +kernel
theorem d_goOn_133 : decode m_goOn.2.1 133 = .ok (.invokevirtual 104, 3) := by decide +kernel
def k_goOn_136 : List fwO := [(.istore_n 2, 0, 0, .null)]
theorem k_goOn_136_ok : fwChain m_goOn.1.cls m_goOn.2.1 136 k_goOn_136 137 = true := by decide +kernel
theorem d_goOn_137 : decode m_goOn.2.1 137 = .ok (.goto 55, 3) := by decide +kernel
def k_goOn_140 : List fwO := [(.aload_n 0, 0, 0, .null)]
theorem k_goOn_140_ok : fwChain m_goOn.1.cls m_goOn.2.1 140 k_goOn_140 141 = true := by decide +kernel
theorem d_goOn_141 : decode m_goOn.2.1 141 = .ok (.invokevirtual 107, 3) := by decide +kernel
def k_goOn_144 : List fwO := [(.istore_n 2, 0, 0, .null)]
theorem k_goOn_144_ok : fwChain m_goOn.1.cls m_goOn.2.1 144 k_goOn_144 145 = true := by decide +kernel
theorem d_goOn_145 : decode m_goOn.2.1 145 = .ok (.goto 47, 3) := by decide +kernel
def k_goOn_148 : List fwO := [(.aload_n 0, 0, 0, .null)]
theorem k_goOn_148_ok : fwChain m_goOn.1.cls m_goOn.2.1 148 k_goOn_148 149 = true := by decide +kernel
theorem d_goOn_149 : decode m_goOn.2.1 149 = .ok (.invokevirtual 110, 3) := by decide +kernel
def k_goOn_152 : List fwO := [(.istore_n 2, 0, 0, .null)]
theorem k_goOn_152_ok : fwChain m_goOn.1.cls m_goOn.2.1 152 k_goOn_152 153 = true := by decide +kernel
theorem d_goOn_153 : decode m_goOn.2.1 153 = .ok (.goto 39, 3) := by decide +kernel
def k_goOn_156 : List fwO := [(.aload_n 0, 0, 0, .null)]
theorem k_goOn_156_ok : fwChain m_goOn.1.cls m_goOn.2.1 156 k_goOn_156 157 = true := by decide +kernel
theorem d_goOn_157 : decode m_goOn.2.1 157 = .ok (.invokevirtual 113, 3) := by decide +kernel
def k_goOn_160 : List fwO := [(.istore_n 2, 0, 0, .null)]
theorem k_goOn_160_ok : fwChain m_goOn.1.cls m_goOn.2.1 160 k_goOn_160 161 = true := by decide +kernel
theorem d_goOn_161 : decode m_goOn.2.1 161 = .ok (.goto 31, 3) := by decide +kernel
def k_goOn_164 : List fwO := [(.aload_n 0, 0, 0, .null)]
theorem k_goOn_164_ok : fwChain m_goOn.1.cls m_goOn.2.1 164 k_goOn_164 165 = true := by decide +kernel
theorem d_goOn_165 : decode m_goOn.2.1 165 = .ok (.invokevirtual 116, 3) := by decide +kernel
def k_goOn_168 : List fwO := [(.istore_n 2, 0, 0, .null)]
theorem k_goOn_168_ok : fwChain m_goOn.1.cls m_goOn.2.1 168 k_goOn_168 169 = true := by decide +kernel
theorem d_goOn_169 : decode m_goOn.2.1 169 = .ok (.goto 23, 3) := by decide +kernel
def k_goOn_172 : List fwO := [(.aload_n 0, 0, 0, .null), (.getfield 119, 10, 13, .retAddr 125), (.aload_n 0, 0, 0, .null), (.getfield 123, 10, 12, .retAddr 124)]
theorem k_goOn_172_ok : fwChain m_goOn.1.cls m_goOn.2.1 172 k_goOn_172 180 = true := by decide +kernel
theorem d_goOn_180 : decode m_goOn.2.1 180 = .ok (.if_icmp .ne 7, 3) := by decide +kernel
def k_goOn_183 : List fwO := [(.iconst 0, 0, 0, .int 0)]
theorem k_goOn_183_ok : fwChain m_goOn.1.cls m_goOn.2.1 183 k_goOn_183 184 = true := by decide +kernel
theorem d_goOn_184 : decode m_goOn.2.1 184 = .ok (.goto 7, 3) := by decide +kernel
def k_goOn_187 : List fwO := [(.aload_n 0, 0, 0, .null)]
theorem k_goOn_187_ok : fwChain m_goOn.1.cls m_goOn.2.1 187 k_goOn_187 188 = true := by decide +kernel
theorem d_goOn_188 : decode m_goOn.2.1 188 = .ok (.invokevirtual 126, 3) := by decide +kernel
def k_goOn_191 : List fwO := [(.istore_n 2, 0, 0, .null)]
theorem k_goOn_191_ok : fwChain m_goOn.1.cls m_goOn.2.1 191 k_goOn_191 192 = true := by decide +kernel
def k_goOn_192 : List fwO := [(.aload_n 0, 0, 0, .null), (.iload_n 2, 0, 0, .null)]
theorem k_goOn_192_ok : fwChain m_goOn.1.cls m_goOn.2.1 192 k_goOn_192 194 = true := by decide +kernel
theorem d_goOn_194 : decode m_goOn.2.1 194 = .ok (.invokevirtual 129, 3) := by decide +kernel
def k_goOn_197 : List fwO := [(.iconst 1, 0, 0, .int 1)]
theorem k_goOn_197_ok : fwChain m_goOn.1.cls m_goOn.2.1 197 k_goOn_197 198 = true := by decide +kernel
theorem d_goOn_198 : decode m_goOn.2.1 198 = .ok (.ireturn, 1) := by decide +kernel
/-- MonitorBoard.run(I)I -/
abbrev m_run : fwM := (⟨"MonitorBoard", "run", "(I)I"⟩, prog_1_method_7_code, 5, (some FieldType.int))
theorem m_run_in : Cond.code m_run.1 m_run.2.1 m_run.2.2.1 m_run.2.2.2 ∈ fwT := fwT_mem (List.mem_of_getElem? (i := 944) (by decide +kernel)) rfl
def k_run_0 : List fwO := [(.iload_n 1, 0, 0, .null), (.iconst 1, 0, 0, .int 1)]
theorem k_run_0_ok : fwChain m_run.1.cls m_run.2.1 0 k_run_0 2 = true := by decide +kernel
theorem d_run_2 : decode m_run.2.1 2 = .ok (.if_icmp .lt 9, 3) := by decide +kernel
def k_run_5 : List fwO := [(.iload_n 1, 0, 0, .null), (.ldc 98, 8, 0, .int 200000)]
theorem k_run_5_ok : fwChain m_run.1.cls m_run.2.1 5 k_run_5 8 = true := by decide +kernel
theorem d_run_8 : decode m_run.2.1 8 = .ok (.if_icmp .le 19, 3) := by decide +kernel
def k_run_11 : List fwO := [(.aload_n 0, 0, 0, .null), (.getfield 32, 0, 4, .retAddr 159), (.getfield 99, 8, 7, .retAddr 40)]
theorem k_run_11_ok : fwChain m_run.1.cls m_run.2.1 11 k_run_11 18 = true := by decide +kernel
theorem d_run_18 : decode m_run.2.1 18 = .ok (.ifCond .eq 7, 3) := by decide +kernel
def k_run_21 : List fwO := [(.iconst 2, 0, 0, .int 2)]
theorem k_run_21_ok : fwChain m_run.1.cls m_run.2.1 21 k_run_21 22 = true := by decide +kernel
theorem d_run_22 : decode m_run.2.1 22 = .ok (.goto 4, 3) := by decide +kernel
def k_run_25 : List fwO := [(.iconst 0, 0, 0, .int 0)]
theorem k_run_25_ok : fwChain m_run.1.cls m_run.2.1 25 k_run_25 26 = true := by decide +kernel
theorem d_run_26 : decode m_run.2.1 26 = .ok (.ireturn, 1) := by decide +kernel
def k_run_27 : List fwO := [(.aload_n 0, 0, 0, .null), (.getfield 32, 0, 4, .retAddr 159), (.getfield 103, 8, 6, .retAddr 36), (.iload_n 1, 0, 0, .null), (.i2l, 0, 0, .null), (.ladd, 0, 0, .null), (.lstore_n 2, 0, 0, .null), (.iconst 0, 0, 0, .int 0), (.istore 4, 0, 0, .null)]
theorem k_run_27_ok : fwChain m_run.1.cls m_run.2.1 27 k_run_27 41 = true := by decide +kernel
def k_run_41 : List fwO := [(.iload 4, 0, 0, .null), (.ldc 107, 9, 0, .int 1000000)]
theorem k_run_41_ok : fwChain m_run.1.cls m_run.2.1 41 k_run_41 45 = true := by decide +kernel
theorem d_run_45 : decode m_run.2.1 45 = .ok (.if_icmp .ge 89, 3) := by decide +kernel
def k_run_48 : List fwO := [(.aload_n 0, 0, 0, .null), (.getfield 32, 0, 4, .retAddr 159), (.getfield 99, 8, 7, .retAddr 40)]
theorem k_run_48_ok : fwChain m_run.1.cls m_run.2.1 48 k_run_48 55 = true := by decide +kernel
theorem d_run_55 : decode m_run.2.1 55 = .ok (.ifCond .eq 5, 3) := by decide +kernel
def k_run_58 : List fwO := [(.iconst 2, 0, 0, .int 2)]
theorem k_run_58_ok : fwChain m_run.1.cls m_run.2.1 58 k_run_58 59 = true := by decide +kernel
theorem d_run_59 : decode m_run.2.1 59 = .ok (.ireturn, 1) := by decide +kernel
def k_run_60 : List fwO := [(.aload_n 0, 0, 0, .null), (.getfield 32, 0, 4, .retAddr 159), (.getfield 103, 8, 6, .retAddr 36), (.lload_n 2, 0, 0, .null), (.lcmp, 0, 0, .null)]
theorem k_run_60_ok : fwChain m_run.1.cls m_run.2.1 60 k_run_60 69 = true := by decide +kernel
theorem d_run_69 : decode m_run.2.1 69 = .ok (.ifCond .lt 5, 3) := by decide +kernel
def k_run_72 : List fwO := [(.iconst 0, 0, 0, .int 0)]
theorem k_run_72_ok : fwChain m_run.1.cls m_run.2.1 72 k_run_72 73 = true := by decide +kernel
theorem d_run_73 : decode m_run.2.1 73 = .ok (.ireturn, 1) := by decide +kernel
def k_run_74 : List fwO := [(.aload_n 0, 0, 0, .null), (.getfield 48, 0, 6, .retAddr 161), (.getfield 108, 7, 8, .retAddr 91)]
theorem k_run_74_ok : fwChain m_run.1.cls m_run.2.1 74 k_run_74 81 = true := by decide +kernel
theorem d_run_81 : decode m_run.2.1 81 = .ok (.ifCond .eq 15, 3) := by decide +kernel
def k_run_84 : List fwO := [(.aload_n 0, 0, 0, .null), (.getfield 57, 0, 7, .retAddr 162)]
theorem k_run_84_ok : fwChain m_run.1.cls m_run.2.1 84 k_run_84 88 = true := by decide +kernel
theorem d_run_88 : decode m_run.2.1 88 = .ok (.invokevirtual 111, 3) := by decide +kernel
theorem d_run_91 : decode m_run.2.1 91 = .ok (.ifCond .ne 37, 3) := by decide +kernel
def k_run_94 : List fwO := [(.iconst 1, 0, 0, .int 1)]
theorem k_run_94_ok : fwChain m_run.1.cls m_run.2.1 94 k_run_94 95 = true := by decide +kernel
theorem d_run_95 : decode m_run.2.1 95 = .ok (.ireturn, 1) := by decide +kernel
def k_run_96 : List fwO := [(.aload_n 0, 0, 0, .null), (.getfield 32, 0, 4, .retAddr 159), (.getfield 115, 8, 5, .retAddr 32)]
theorem k_run_96_ok : fwChain m_run.1.cls m_run.2.1 96 k_run_96 103 = true := by decide +kernel
theorem d_run_103 : decode m_run.2.1 103 = .ok (.invokestatic 118, 3) := by decide +kernel
theorem d_run_106 : decode m_run.2.1 106 = .ok (.ifCond .eq 15, 3) := by decide +kernel
def k_run_109 : List fwO := [(.aload_n 0, 0, 0, .null), (.getfield 48, 0, 6, .retAddr 161)]
theorem k_run_109_ok : fwChain m_run.1.cls m_run.2.1 109 k_run_109 113 = true := by decide +kernel
theorem d_run_113 : decode m_run.2.1 113 = .ok (.invokevirtual 122, 3) := by decide +kernel
theorem d_run_116 : decode m_run.2.1 116 = .ok (.ifCond .ne 12, 3) := by decide +kernel
def k_run_119 : List fwO := [(.iconst 1, 0, 0, .int 1)]
theorem k_run_119_ok : fwChain m_run.1.cls m_run.2.1 119 k_run_119 120 = true := by decide +kernel
theorem d_run_120 : decode m_run.2.1 120 = .ok (.ireturn, 1) := by decide +kernel
def k_run_121 : List fwO := [(.aload_n 0, 0, 0, .null), (.getfield 32, 0, 4, .retAddr 159)]
theorem k_run_121_ok : fwChain m_run.1.cls m_run.2.1 121 k_run_121 125 = true := by decide +kernel
theorem d_run_125 : decode m_run.2.1 125 = .ok (.invokevirtual 125, 3) := by decide +kernel
def k_run_128 : List fwO := [(.iinc 4 1, 0, 0, .int 1)]
theorem k_run_128_ok : fwChain m_run.1.cls m_run.2.1 128 k_run_128 131 = true := by decide +kernel
theorem d_run_131 : decode m_run.2.1 131 = .ok (.goto (-90), 3) := by decide +kernel
def k_run_134 : List fwO := [(.iconst 0, 0, 0, .int 0)]
theorem k_run_134_ok : fwChain m_run.1.cls m_run.2.1 134 k_run_134 135 = true := by decide +kernel
theorem d_run_135 : decode m_run.2.1 135 = .ok (.ireturn, 1) := by decide +kernel
/-- MonitorBoard.states()J -/
abbrev m_states : fwM := (⟨"MonitorBoard", "states", "()J"⟩, prog_1_method_8_code, 1, (some FieldType.long))
theorem m_states_in : Cond.code m_states.1 m_states.2.1 m_states.2.2.1 m_states.2.2.2 ∈ fwT := fwT_mem (List.mem_of_getElem? (i := 1650) (by decide +kernel)) rfl
def k_states_0 : List fwO := [(.aload_n 0, 0, 0, .null), (.getfield 32, 0, 4, .retAddr 159), (.getfield 103, 8, 6, .retAddr 36)]
theorem k_states_0_ok : fwChain m_states.1.cls m_states.2.1 0 k_states_0 7 = true := by decide +kernel
theorem d_states_7 : decode m_states.2.1 7 = .ok (.lreturn, 1) := by decide +kernel
/-- MonitorBoard.register(I)I -/
abbrev m_register : fwM := (⟨"MonitorBoard", "register", "(I)I"⟩, prog_1_method_9_code, 2, (some FieldType.int))
theorem m_register_in : Cond.code m_register.1 m_register.2.1 m_register.2.2.1 m_register.2.2.2 ∈ fwT := fwT_mem (List.mem_of_getElem? (i := 1654) (by decide +kernel)) rfl
def k_register_0 : List fwO := [(.iload_n 1, 0, 0, .null)]
theorem k_register_0_ok : fwChain m_register.1.cls m_register.2.1 0 k_register_0 1 = true := by decide +kernel
theorem d_register_1 : decode m_register.2.1 1 = .ok (.ifCond .lt 9, 3) := by decide +kernel
def k_register_4 : List fwO := [(.iload_n 1, 0, 0, .null), (.bipush 12, 0, 0, .int 12)]
theorem k_register_4_ok : fwChain m_register.1.cls m_register.2.1 4 k_register_4 7 = true := by decide +kernel
theorem d_register_7 : decode m_register.2.1 7 = .ok (.if_icmp .le 5, 3) := by decide +kernel
def k_register_10 : List fwO := [(.iconst (-1), 0, 0, .int (-1))]
theorem k_register_10_ok : fwChain m_register.1.cls m_register.2.1 10 k_register_10 11 = true := by decide +kernel
theorem d_register_11 : decode m_register.2.1 11 = .ok (.ireturn, 1) := by decide +kernel
def k_register_12 : List fwO := [(.iload_n 1, 0, 0, .null)]
theorem k_register_12_ok : fwChain m_register.1.cls m_register.2.1 12 k_register_12 13 = true := by decide +kernel
theorem d_register_13 : decode m_register.2.1 13 = .ok (.tableswitch 91 6 12 #[43, 91, 51, 59, 67, 75, 83], 43) := by decide +kernel
def k_register_56 : List fwO := [(.aload_n 0, 0, 0, .null), (.getfield 32, 0, 4, .retAddr 159), (.getfield 128, 8, 3, .retAddr 27)]
theorem k_register_56_ok : fwChain m_register.1.cls m_register.2.1 56 k_register_56 63 = true := by decide +kernel
theorem d_register_63 : decode m_register.2.1 63 = .ok (.ireturn, 1) := by decide +kernel
def k_register_64 : List fwO := [(.aload_n 0, 0, 0, .null), (.getfield 32, 0, 4, .retAddr 159), (.getfield 131, 8, 4, .retAddr 29)]
theorem k_register_64_ok : fwChain m_register.1.cls m_register.2.1 64 k_register_64 71 = true := by decide +kernel
theorem d_register_71 : decode m_register.2.1 71 = .ok (.ireturn, 1) := by decide +kernel
def k_register_72 : List fwO := [(.aload_n 0, 0, 0, .null), (.getfield 32, 0, 4, .retAddr 159), (.getfield 115, 8, 5, .retAddr 32)]
theorem k_register_72_ok : fwChain m_register.1.cls m_register.2.1 72 k_register_72 79 = true := by decide +kernel
theorem d_register_79 : decode m_register.2.1 79 = .ok (.ireturn, 1) := by decide +kernel
def k_register_80 : List fwO := [(.aload_n 0, 0, 0, .null), (.getfield 39, 0, 5, .retAddr 160), (.getfield 134, 4, 11, .retAddr 66)]
theorem k_register_80_ok : fwChain m_register.1.cls m_register.2.1 80 k_register_80 87 = true := by decide +kernel
theorem d_register_87 : decode m_register.2.1 87 = .ok (.ireturn, 1) := by decide +kernel
def k_register_88 : List fwO := [(.aload_n 0, 0, 0, .null), (.getfield 39, 0, 5, .retAddr 160), (.getfield 137, 4, 12, .retAddr 70)]
theorem k_register_88_ok : fwChain m_register.1.cls m_register.2.1 88 k_register_88 95 = true := by decide +kernel
theorem d_register_95 : decode m_register.2.1 95 = .ok (.ireturn, 1) := by decide +kernel
def k_register_96 : List fwO := [(.aload_n 0, 0, 0, .null), (.getfield 48, 0, 6, .retAddr 161), (.getfield 140, 7, 4, .retAddr 85)]
theorem k_register_96_ok : fwChain m_register.1.cls m_register.2.1 96 k_register_96 103 = true := by decide +kernel
theorem d_register_103 : decode m_register.2.1 103 = .ok (.ireturn, 1) := by decide +kernel
def k_register_104 : List fwO := [(.aload_n 0, 0, 0, .null), (.getfield 32, 0, 4, .retAddr 159), (.getfield 143, 8, 1, .retAddr 24), (.iload_n 1, 0, 0, .null), (.iaload, 0, 0, .null)]
theorem k_register_104_ok : fwChain m_register.1.cls m_register.2.1 104 k_register_104 113 = true := by decide +kernel
theorem d_register_113 : decode m_register.2.1 113 = .ok (.ireturn, 1) := by decide +kernel
/-- MonitorBoard$Processor.peek(I)I -/
abbrev m_peek : fwM := (⟨"MonitorBoard$Processor", "peek", "(I)I"⟩, prog_9_method_3_code, 2, (some FieldType.int))
theorem m_peek_in : Cond.code m_peek.1 m_peek.2.1 m_peek.2.2.1 m_peek.2.2.2 ∈ fwT := fwT_mem (List.mem_of_getElem? (i := 1255) (by decide +kernel)) rfl
def k_peek_0 : List fwO := [(.aload_n 0, 0, 0, .null), (.getfield 10, 8, 0, .retAddr 18), (.iload_n 1, 0, 0, .null), (.ldc 37, 5, 0, .int 65535), (.iand, 0, 0, .null), (.baload, 0, 0, .null), (.sipush 255, 0, 0, .int 255), (.iand, 0, 0, .null)]
theorem k_peek_0_ok : fwChain m_peek.1.cls m_peek.2.1 0 k_peek_0 13 = true := by decide +kernel
theorem d_peek_13 : decode m_peek.2.1 13 = .ok (.ireturn, 1) := by decide +kernel
/-- MonitorBoard.memory(I)I -/
abbrev m_memory : fwM := (⟨"MonitorBoard", "memory", "(I)I"⟩, prog_1_method_10_code, 2, (some FieldType.int))
theorem m_memory_in : Cond.code m_memory.1 m_memory.2.1 m_memory.2.2.1 m_memory.2.2.2 ∈ fwT := fwT_mem (List.mem_of_getElem? (i := 1658) (by decide +kernel)) rfl
def k_memory_0 : List fwO := [(.iload_n 1, 0, 0, .null)]
theorem k_memory_0_ok : fwChain m_memory.1.cls m_memory.2.1 0 k_memory_0 1 = true := by decide +kernel
theorem d_memory_1 : decode m_memory.2.1 1 = .ok (.ifCond .lt 9, 3) := by decide +kernel
def k_memory_4 : List fwO := [(.iload_n 1, 0, 0, .null), (.ldc 147, 27, 0, .int 65536)]
theorem k_memory_4_ok : fwChain m_memory.1.cls m_memory.2.1 4 k_memory_4 7 = true := by decide +kernel
theorem d_memory_7 : decode m_memory.2.1 7 = .ok (.if_icmp .lt 5, 3) := by decide +kernel
def k_memory_10 : List fwO := [(.iconst (-1), 0, 0, .int (-1))]
theorem k_memory_10_ok : fwChain m_memory.1.cls m_memory.2.1 10 k_memory_10 11 = true := by decide +kernel
theorem d_memory_11 : decode m_memory.2.1 11 = .ok (.ireturn, 1) := by decide +kernel
def k_memory_12 : List fwO := [(.aload_n 0, 0, 0, .null), (.getfield 32, 0, 4, .retAddr 159), (.iload_n 1, 0, 0, .null)]
theorem k_memory_12_ok : fwChain m_memory.1.cls m_memory.2.1 12 k_memory_12 17 = true := by decide +kernel
theorem d_memory_17 : decode m_memory.2.1 17 = .ok (.invokevirtual 148, 3) := by decide +kernel
theorem d_memory_20 : decode m_memory.2.1 20 = .ok (.ireturn, 1) := by decide +kernel
/-- MonitorBoard.load(I)V -/
abbrev m_load : fwM := (⟨"MonitorBoard", "load", "(I)V"⟩, prog_1_method_11_code, 3, (none : Option FieldType))
theorem m_load_in : Cond.code m_load.1 m_load.2.1 m_load.2.2.1 m_load.2.2.2 ∈ fwT := fwT_mem (List.mem_of_getElem? (i := 1664) (by decide +kernel)) rfl
def k_load_0 : List fwO := [(.iconst 0, 0, 0, .int 0), (.istore_n 2, 0, 0, .null)]
theorem k_load_0_ok : fwChain m_load.1.cls m_load.2.1 0 k_load_0 2 = true := by decide +kernel
def k_load_2 : List fwO := [(.iload_n 2, 0, 0, .null), (.aload_n 0, 0, 0, .null), (.getfield 83, 0, 10, .retAddr 165)]
theorem k_load_2_ok : fwChain m_load.1.cls m_load.2.1 2 k_load_2 7 = true := by decide +kernel
theorem d_load_7 : decode m_load.2.1 7 = .ok (.if_icmp .ge 25, 3) := by decide +kernel
def k_load_10 : List fwO := [(.aload_n 0, 0, 0, .null), (.getfield 32, 0, 4, .retAddr 159), (.iload_n 1, 0, 0, .null), (.iload_n 2, 0, 0, .null), (.iadd, 0, 0, .null), (.aload_n 0, 0, 0, .null), (.getfield 9, 0, 0, .retAddr 155), (.iload_n 2, 0, 0, .null), (.baload, 0, 0, .null)]
theorem k_load_10_ok : fwChain m_load.1.cls m_load.2.1 10 k_load_10 23 = true := by decide +kernel
theorem d_load_23 : decode m_load.2.1 23 = .ok (.invokevirtual 152, 3) := by decide +kernel
def k_load_26 : List fwO := [(.iinc 2 1, 0, 0, .int 1)]
theorem k_load_26_ok : fwChain m_load.1.cls m_load.2.1 26 k_load_26 29 = true := by decide +kernel
theorem d_load_29 : decode m_load.2.1 29 = .ok (.goto (-27), 3) := by decide +kernel
def k_load_32 : List fwO := [(.aload_n 0, 0, 0, .null), (.iconst 0, 0, 0, .int 0), (.putfield 83, 0, 10, .retAddr 165)]
theorem k_load_32_ok : fwChain m_load.1.cls m_load.2.1 32 k_load_32 37 = true := by decide +kernel
theorem d_load_37 : decode m_load.2.1 37 = .ok (.return_, 1) := by decide +kernel
/-- MonitorBoard.jump(I)V -/
abbrev m_jump : fwM := (⟨"MonitorBoard", "jump", "(I)V"⟩, prog_1_method_12_code, 2, (none : Option FieldType))
theorem m_jump_in : Cond.code m_jump.1 m_jump.2.1 m_jump.2.2.1 m_jump.2.2.2 ∈ fwT := fwT_mem (List.mem_of_getElem? (i := 1669) (by decide +kernel)) rfl
def k_jump_0 : List fwO := [(.aload_n 0, 0, 0, .null), (.getfield 32, 0, 4, .retAddr 159), (.iload_n 1, 0, 0, .null), (.ldc 156, 28, 0, .int 65535), (.iand, 0, 0, .null), (.putfield 115, 8, 5, .retAddr 32), (.aload_n 0, 0, 0, .null), (.getfield 32, 0, 4, .retAddr 159), (.iconst 0, 0, 0, .int 0), (.putfield 99, 8, 7, .retAddr 40), (.aload_n 0, 0, 0, .null), (.getfield 48, 0, 6, .retAddr 161), (.iconst 0, 0, 0, .int 0), (.putfield 108, 7, 8, .retAddr 91), (.aload_n 0, 0, 0, .null), (.getfield 23, 0, 3, .retAddr 158), (.iconst 0, 0, 0, .int 0), (.putfield 157, 3, 9, .retAddr 16)]
theorem k_jump_0_ok : fwChain m_jump.1.cls m_jump.2.1 0 k_jump_0 35 = true := by decide +kernel
theorem d_jump_35 : decode m_jump.2.1 35 = .ok (.return_, 1) := by decide +kernel
/-- MonitorBoard$Console.takeTold([B)I -/
abbrev m_takeTold : fwM := (⟨"MonitorBoard$Console", "takeTold", "([B)I"⟩, prog_4_method_7_code, 4, (some FieldType.int))
theorem m_takeTold_in : Cond.code m_takeTold.1 m_takeTold.2.1 m_takeTold.2.2.1 m_takeTold.2.2.2 ∈ fwT := fwT_mem (List.mem_of_getElem? (i := 1678) (by decide +kernel)) rfl
def k_takeTold_0 : List fwO := [(.aload_n 0, 0, 0, .null), (.getfield 26, 3, 4, .retAddr 6), (.aload_n 1, 0, 0, .null), (.arraylength, 0, 0, .null)]
theorem k_takeTold_0_ok : fwChain m_takeTold.1.cls m_takeTold.2.1 0 k_takeTold_0 6 = true := by decide +kernel
theorem d_takeTold_6 : decode m_takeTold.2.1 6 = .ok (.invokestatic 45, 3) := by decide +kernel
def k_takeTold_9 : List fwO := [(.istore_n 2, 0, 0, .null), (.iconst 0, 0, 0, .int 0), (.istore_n 3, 0, 0, .null)]
theorem k_takeTold_9_ok : fwChain m_takeTold.1.cls m_takeTold.2.1 9 k_takeTold_9 12 = true := by decide +kernel
def k_takeTold_12 : List fwO := [(.iload_n 3, 0, 0, .null), (.iload_n 2, 0, 0, .null)]
theorem k_takeTold_12_ok : fwChain m_takeTold.1.cls m_takeTold.2.1 12 k_takeTold_12 14 = true := by decide +kernel
theorem d_takeTold_14 : decode m_takeTold.2.1 14 = .ok (.if_icmp .ge 27, 3) := by decide +kernel
def k_takeTold_17 : List fwO := [(.aload_n 1, 0, 0, .null), (.iload_n 3, 0, 0, .null), (.aload_n 0, 0, 0, .null), (.getfield 9, 3, 0, .retAddr 0), (.aload_n 0, 0, 0, .null), (.getfield 22, 3, 3, .retAddr 5), (.iload_n 3, 0, 0, .null), (.iadd, 0, 0, .null), (.sipush 8000, 0, 0, .int 8000), (.irem, 0, 0, .null), (.baload, 0, 0, .null), (.bastore, 0, 0, .null), (.iinc 3 1, 0, 0, .int 1)]
theorem k_takeTold_17_ok : fwChain m_takeTold.1.cls m_takeTold.2.1 17 k_takeTold_17 38 = true := by decide +kernel
theorem d_takeTold_38 : decode m_takeTold.2.1 38 = .ok (.goto (-26), 3) := by decide +kernel
def k_takeTold_41 : List fwO := [(.aload_n 0, 0, 0, .null), (.iconst 0, 0, 0, .int 0), (.putfield 22, 3, 3, .retAddr 5), (.aload_n 0, 0, 0, .null), (.iconst 0, 0, 0, .int 0), (.putfield 26, 3, 4, .retAddr 6), (.iload_n 2, 0, 0, .null)]
theorem k_takeTold_41_ok : fwChain m_takeTold.1.cls m_takeTold.2.1 41 k_takeTold_41 52 = true := by decide +kernel
theorem d_takeTold_52 : decode m_takeTold.2.1 52 = .ok (.ireturn, 1) := by decide +kernel
/-- MonitorBoard.console()I -/
abbrev m_console : fwM := (⟨"MonitorBoard", "console", "()I"⟩, prog_1_method_13_code, 1, (some FieldType.int))
theorem m_console_in : Cond.code m_console.1 m_console.2.1 m_console.2.2.1 m_console.2.2.2 ∈ fwT := fwT_mem (List.mem_of_getElem? (i := 1674) (by decide +kernel)) rfl
def k_console_0 : List fwO := [(.aload_n 0, 0, 0, .null), (.aload_n 0, 0, 0, .null), (.getfield 23, 0, 3, .retAddr 158), (.aload_n 0, 0, 0, .null), (.getfield 14, 0, 1, .retAddr 156)]
theorem k_console_0_ok : fwChain m_console.1.cls m_console.2.1 0 k_console_0 9 = true := by decide +kernel
theorem d_console_9 : decode m_console.2.1 9 = .ok (.invokevirtual 160, 3) := by decide +kernel
def k_console_12 : List fwO := [(.putfield 164, 0, 11, .retAddr 166), (.aload_n 0, 0, 0, .null), (.getfield 164, 0, 11, .retAddr 166)]
theorem k_console_12_ok : fwChain m_console.1.cls m_console.2.1 12 k_console_12 19 = true := by decide +kernel
theorem d_console_19 : decode m_console.2.1 19 = .ok (.ireturn, 1) := by decide +kernel
/-- MonitorBoard.out(I)I -/
abbrev m_out : fwM := (⟨"MonitorBoard", "out", "(I)I"⟩, prog_1_method_14_code, 2, (some FieldType.int))
theorem m_out_in : Cond.code m_out.1 m_out.2.1 m_out.2.2.1 m_out.2.2.2 ∈ fwT := fwT_mem (List.mem_of_getElem? (i := 1682) (by decide +kernel)) rfl
def k_out_0 : List fwO := [(.iload_n 1, 0, 0, .null)]
theorem k_out_0_ok : fwChain m_out.1.cls m_out.2.1 0 k_out_0 1 = true := by decide +kernel
theorem d_out_1 : decode m_out.2.1 1 = .ok (.ifCond .lt 11, 3) := by decide +kernel
def k_out_4 : List fwO := [(.iload_n 1, 0, 0, .null), (.aload_n 0, 0, 0, .null), (.getfield 164, 0, 11, .retAddr 166)]
theorem k_out_4_ok : fwChain m_out.1.cls m_out.2.1 4 k_out_4 9 = true := by decide +kernel
theorem d_out_9 : decode m_out.2.1 9 = .ok (.if_icmp .lt 5, 3) := by decide +kernel
def k_out_12 : List fwO := [(.iconst (-1), 0, 0, .int (-1))]
theorem k_out_12_ok : fwChain m_out.1.cls m_out.2.1 12 k_out_12 13 = true := by decide +kernel
theorem d_out_13 : decode m_out.2.1 13 = .ok (.ireturn, 1) := by decide +kernel
def k_out_14 : List fwO := [(.aload_n 0, 0, 0, .null), (.getfield 14, 0, 1, .retAddr 156), (.iload_n 1, 0, 0, .null), (.baload, 0, 0, .null), (.sipush 255, 0, 0, .int 255), (.iand, 0, 0, .null)]
theorem k_out_14_ok : fwChain m_out.1.cls m_out.2.1 14 k_out_14 24 = true := by decide +kernel
theorem d_out_24 : decode m_out.2.1 24 = .ok (.ireturn, 1) := by decide +kernel
/-- MonitorBoard$Assembler.translate(I)I -/
abbrev m_translate : fwM := (⟨"MonitorBoard$Assembler", "translate", "(I)I"⟩, prog_2_method_2_code, 4, (some FieldType.int))
theorem m_translate_in : Cond.code m_translate.1 m_translate.2.1 m_translate.2.2.1 m_translate.2.2.2 ∈ fwT := fwT_mem (List.mem_of_getElem? (i := 1690) (by decide +kernel)) rfl
def k_translate_0 : List fwO := [(.aload_n 0, 0, 0, .null), (.iload_n 1, 0, 0, .null), (.aload_n 0, 0, 0, .null), (.getfield 36, 2, 0, .retAddr 131), (.arraylength, 0, 0, .null)]
theorem k_translate_0_ok : fwChain m_translate.1.cls m_translate.2.1 0 k_translate_0 7 = true := by decide +kernel
theorem d_translate_7 : decode m_translate.2.1 7 = .ok (.invokestatic 47, 3) := by decide +kernel
def k_translate_10 : List fwO := [(.putfield 53, 2, 9, .retAddr 140), (.aload_n 0, 0, 0, .null), (.iconst 0, 0, 0, .int 0), (.putfield 57, 2, 7, .retAddr 138), (.aload_n 0, 0, 0, .null), (.iconst (-1), 0, 0, .int (-1)), (.putfield 60, 2, 11, .retAddr 142), (.iconst 1, 0, 0, .int 1), (.istore_n 2, 0, 0, .null)]
theorem k_translate_10_ok : fwChain m_translate.1.cls m_translate.2.1 10 k_translate_10 25 = true := by decide +kernel
def k_translate_25 : List fwO := [(.iload_n 2, 0, 0, .null), (.iconst 2, 0, 0, .int 2)]
theorem k_translate_25_ok : fwChain m_translate.1.cls m_translate.2.1 25 k_translate_25 27 = true := by decide +kernel
theorem d_translate_27 : decode m_translate.2.1 27 = .ok (.if_icmp .gt 108, 3) := by decide +kernel
def k_translate_30 : List fwO := [(.aload_n 0, 0, 0, .null), (.getfield 60, 2, 11, .retAddr 142), (.iconst (-1), 0, 0, .int (-1))]
theorem k_translate_30_ok : fwChain m_translate.1.cls m_translate.2.1 30 k_translate_30 35 = true := by decide +kernel
theorem d_translate_35 : decode m_translate.2.1 35 = .ok (.if_icmp .ne 100, 3) := by decide +kernel
def k_translate_38 : List fwO := [(.aload_n 0, 0, 0, .null), (.iload_n 2, 0, 0, .null), (.iconst 2, 0, 0, .int 2)]
theorem k_translate_38_ok : fwChain m_translate.1.cls m_translate.2.1 38 k_translate_38 41 = true := by decide +kernel
theorem d_translate_41 : decode m_translate.2.1 41 = .ok (.if_icmp .ne 7, 3) := by decide +kernel
def k_translate_44 : List fwO := [(.iconst 1, 0, 0, .int 1)]
theorem k_translate_44_ok : fwChain m_translate.1.cls m_translate.2.1 44 k_translate_44 45 = true := by decide +kernel
theorem d_translate_45 : decode m_translate.2.1 45 = .ok (.goto 4, 3) := by decide +kernel
def k_translate_48 : List fwO := [(.iconst 0, 0, 0, .int 0)]
theorem k_translate_48_ok : fwChain m_translate.1.cls m_translate.2.1 48 k_translate_48 49 = true := by decide +kernel
def k_translate_49 : List fwO := [(.putfield 63, 2, 16, .retAddr 147), (.aload_n 0, 0, 0, .null), (.iconst 0, 0, 0, .int 0), (.putfield 67, 2, 10, .retAddr 141), (.aload_n 0, 0, 0, .null), (.sipush 256, 0, 0, .int 256), (.putfield 70, 2, 12, .retAddr 143), (.aload_n 0, 0, 0, .null), (.sipush 256, 0, 0, .int 256), (.putfield 73, 2, 13, .retAddr 144), (.aload_n 0, 0, 0, .null), (.iconst 0, 0, 0, .int 0), (.putfield 76, 2, 17, .retAddr 148), (.iconst 0, 0, 0, .int 0), (.istore_n 3, 0, 0, .null)]
theorem k_translate_49_ok : fwChain m_translate.1.cls m_translate.2.1 49 k_translate_49 78 = true := by decide +kernel
def k_translate_78 : List fwO := [(.iload_n 3, 0, 0, .null), (.sipush 4000, 0, 0, .int 4000)]
theorem k_translate_78_ok : fwChain m_translate.1.cls m_translate.2.1 78 k_translate_78 82 = true := by decide +kernel
theorem d_translate_82 : decode m_translate.2.1 82 = .ok (.if_icmp .gt 47, 3) := by decide +kernel
def k_translate_85 : List fwO := [(.aload_n 0, 0, 0, .null), (.getfield 67, 2, 10, .retAddr 141), (.aload_n 0, 0, 0, .null), (.getfield 53, 2, 9, .retAddr 140)]
theorem k_translate_85_ok : fwChain m_translate.1.cls m_translate.2.1 85 k_translate_85 93 = true := by decide +kernel
theorem d_translate_93 : decode m_translate.2.1 93 = .ok (.if_icmp .ge 36, 3) := by decide +kernel
def k_translate_96 : List fwO := [(.aload_n 0, 0, 0, .null), (.getfield 60, 2, 11, .retAddr 142), (.iconst (-1), 0, 0, .int (-1))]
theorem k_translate_96_ok : fwChain m_translate.1.cls m_translate.2.1 96 k_translate_96 101 = true := by decide +kernel
theorem d_translate_101 : decode m_translate.2.1 101 = .ok (.if_icmp .ne 28, 3) := by decide +kernel
def k_translate_104 : List fwO := [(.aload_n 0, 0, 0, .null), (.getfield 76, 2, 17, .retAddr 148)]
theorem k_translate_104_ok : fwChain m_translate.1.cls m_translate.2.1 104 k_translate_104 108 = true := by decide +kernel
theorem d_translate_108 : decode m_translate.2.1 108 = .ok (.ifCond .ne 21, 3) := by decide +kernel
def k_translate_111 : List fwO := [(.aload_n 0, 0, 0, .null)]
theorem k_translate_111_ok : fwChain m_translate.1.cls m_translate.2.1 111 k_translate_111 112 = true := by decide +kernel
theorem d_translate_112 : decode m_translate.2.1 112 = .ok (.invokevirtual 79, 3) := by decide +kernel
def k_translate_115 : List fwO := [(.aload_n 0, 0, 0, .null)]
theorem k_translate_115_ok : fwChain m_translate.1.cls m_translate.2.1 115 k_translate_115 116 = true := by decide +kernel
theorem d_translate_116 : decode m_translate.2.1 116 = .ok (.invokevirtual 82, 3) := by decide +kernel
def k_translate_119 : List fwO := [(.aload_n 0, 0, 0, .null)]
theorem k_translate_119_ok : fwChain m_translate.1.cls m_translate.2.1 119 k_translate_119 120 = true := by decide +kernel
theorem d_translate_120 : decode m_translate.2.1 120 = .ok (.invokevirtual 85, 3) := by decide +kernel
def k_translate_123 : List fwO := [(.iinc 3 1, 0, 0, .int 1)]
theorem k_translate_123_ok : fwChain m_translate.1.cls m_translate.2.1 123 k_translate_123 126 = true := by decide +kernel
theorem d_translate_126 : decode m_translate.2.1 126 = .ok (.goto (-48), 3) := by decide +kernel
def k_translate_129 : List fwO := [(.iinc 2 1, 0, 0, .int 1)]
theorem k_translate_129_ok : fwChain m_translate.1.cls m_translate.2.1 129 k_translate_129 132 = true := by decide +kernel
theorem d_translate_132 : decode m_translate.2.1 132 = .ok (.goto (-107), 3) := by decide +kernel
def k_translate_135 : List fwO := [(.aload_n 0, 0, 0, .null), (.getfield 60, 2, 11, .retAddr 142), (.iconst (-1), 0, 0, .int (-1))]
theorem k_translate_135_ok : fwChain m_translate.1.cls m_translate.2.1 135 k_translate_135 140 = true := by decide +kernel
theorem d_translate_140 : decode m_translate.2.1 140 = .ok (.if_icmp .ne 14, 3) := by decide +kernel
def k_translate_143 : List fwO := [(.aload_n 0, 0, 0, .null), (.getfield 73, 2, 13, .retAddr 144), (.sipush 256, 0, 0, .int 256), (.isub, 0, 0, .null)]
theorem k_translate_143_ok : fwChain m_translate.1.cls m_translate.2.1 143 k_translate_143 151 = true := by decide +kernel
theorem d_translate_151 : decode m_translate.2.1 151 = .ok (.goto 9, 3) := by decide +kernel
def k_translate_154 : List fwO := [(.iconst (-1), 0, 0, .int (-1)), (.aload_n 0, 0, 0, .null), (.getfield 60, 2, 11, .retAddr 142), (.isub, 0, 0, .null)]
theorem k_translate_154_ok : fwChain m_translate.1.cls m_translate.2.1 154 k_translate_154 160 = true := by decide +kernel
theorem d_translate_160 : decode m_translate.2.1 160 = .ok (.ireturn, 1) := by decide +kernel
/-- MonitorBoard.assemble()I -/
abbrev m_assemble : fwM := (⟨"MonitorBoard", "assemble", "()I"⟩, prog_1_method_15_code, 2, (some FieldType.int))
theorem m_assemble_in : Cond.code m_assemble.1 m_assemble.2.1 m_assemble.2.2.1 m_assemble.2.2.2 ∈ fwT := fwT_mem (List.mem_of_getElem? (i := 1686) (by decide +kernel)) rfl
def k_assemble_0 : List fwO := [(.aload_n 0, 0, 0, .null), (.getfield 66, 0, 8, .retAddr 163), (.aload_n 0, 0, 0, .null), (.getfield 83, 0, 10, .retAddr 165)]
theorem k_assemble_0_ok : fwChain m_assemble.1.cls m_assemble.2.1 0 k_assemble_0 8 = true := by decide +kernel
theorem d_assemble_8 : decode m_assemble.2.1 8 = .ok (.invokevirtual 167, 3) := by decide +kernel
def k_assemble_11 : List fwO := [(.istore_n 1, 0, 0, .null), (.aload_n 0, 0, 0, .null), (.iconst 0, 0, 0, .int 0), (.putfield 83, 0, 10, .retAddr 165), (.aload_n 0, 0, 0, .null), (.iload_n 1, 0, 0, .null), (.iconst 0, 0, 0, .int 0)]
theorem k_assemble_11_ok : fwChain m_assemble.1.cls m_assemble.2.1 11 k_assemble_11 20 = true := by decide +kernel
theorem d_assemble_20 : decode m_assemble.2.1 20 = .ok (.invokestatic 170, 3) := by decide +kernel
def k_assemble_23 : List fwO := [(.putfield 164, 0, 11, .retAddr 166), (.iload_n 1, 0, 0, .null)]
theorem k_assemble_23_ok : fwChain m_assemble.1.cls m_assemble.2.1 23 k_assemble_23 27 = true := by decide +kernel
theorem d_assemble_27 : decode m_assemble.2.1 27 = .ok (.ireturn, 1) := by decide +kernel
/-- MonitorBoard$Files.isSector(II)Z -/
abbrev m_isSector : fwM := (⟨"MonitorBoard$Files", "isSector", "(II)Z"⟩, prog_5_method_3_code, 2, (some FieldType.boolean))
theorem m_isSector_in : Cond.code m_isSector.1 m_isSector.2.1 m_isSector.2.2.1 m_isSector.2.2.2 ∈ fwT := fwT_mem (List.mem_of_getElem? (i := 1418) (by decide +kernel)) rfl
def k_isSector_0 : List fwO := [(.iload_n 0, 0, 0, .null)]
theorem k_isSector_0_ok : fwChain m_isSector.1.cls m_isSector.2.1 0 k_isSector_0 1 = true := by decide +kernel
theorem d_isSector_1 : decode m_isSector.2.1 1 = .ok (.ifCond .lt 24, 3) := by decide +kernel
def k_isSector_4 : List fwO := [(.iload_n 0, 0, 0, .null), (.bipush 77, 0, 0, .int 77)]
theorem k_isSector_4_ok : fwChain m_isSector.1.cls m_isSector.2.1 4 k_isSector_4 7 = true := by decide +kernel
theorem d_isSector_7 : decode m_isSector.2.1 7 = .ok (.if_icmp .ge 18, 3) := by decide +kernel
def k_isSector_10 : List fwO := [(.iload_n 1, 0, 0, .null), (.iconst 1, 0, 0, .int 1)]
theorem k_isSector_10_ok : fwChain m_isSector.1.cls m_isSector.2.1 10 k_isSector_10 12 = true := by decide +kernel
theorem d_isSector_12 : decode m_isSector.2.1 12 = .ok (.if_icmp .lt 13, 3) := by decide +kernel
def k_isSector_15 : List fwO := [(.iload_n 1, 0, 0, .null), (.bipush 26, 0, 0, .int 26)]
theorem k_isSector_15_ok : fwChain m_isSector.1.cls m_isSector.2.1 15 k_isSector_15 18 = true := by decide +kernel
theorem d_isSector_18 : decode m_isSector.2.1 18 = .ok (.if_icmp .gt 7, 3) := by decide +kernel
def k_isSector_21 : List fwO := [(.iconst 1, 0, 0, .int 1)]
theorem k_isSector_21_ok : fwChain m_isSector.1.cls m_isSector.2.1 21 k_isSector_21 22 = true := by decide +kernel
theorem d_isSector_22 : decode m_isSector.2.1 22 = .ok (.goto 4, 3) := by decide +kernel
def k_isSector_25 : List fwO := [(.iconst 0, 0, 0, .int 0)]
theorem k_isSector_25_ok : fwChain m_isSector.1.cls m_isSector.2.1 25 k_isSector_25 26 = true := by decide +kernel
theorem d_isSector_26 : decode m_isSector.2.1 26 = .ok (.ireturn, 1) := by decide +kernel
/-- MonitorBoard.disk(IIIII)I -/
abbrev m_disk : fwM := (⟨"MonitorBoard", "disk", "(IIIII)I"⟩, prog_1_method_17_code, 7, (some FieldType.int))
theorem m_disk_in : Cond.code m_disk.1 m_disk.2.1 m_disk.2.2.1 m_disk.2.2.2 ∈ fwT := fwT_mem (List.mem_of_getElem? (i := 1838) (by decide +kernel)) rfl
def k_disk_0 : List fwO := [(.iload_n 1, 0, 0, .null)]
theorem k_disk_0_ok : fwChain m_disk.1.cls m_disk.2.1 0 k_disk_0 1 = true := by decide +kernel
theorem d_disk_1 : decode m_disk.2.1 1 = .ok (.ifCond .lt 29, 3) := by decide +kernel
def k_disk_4 : List fwO := [(.iload_n 1, 0, 0, .null), (.iconst 1, 0, 0, .int 1)]
theorem k_disk_4_ok : fwChain m_disk.1.cls m_disk.2.1 4 k_disk_4 6 = true := by decide +kernel
theorem d_disk_6 : decode m_disk.2.1 6 = .ok (.if_icmp .gt 24, 3) := by decide +kernel
def k_disk_9 : List fwO := [(.iload 4, 0, 0, .null)]
theorem k_disk_9_ok : fwChain m_disk.1.cls m_disk.2.1 9 k_disk_9 11 = true := by decide +kernel
theorem d_disk_11 : decode m_disk.2.1 11 = .ok (.ifCond .lt 19, 3) := by decide +kernel
def k_disk_14 : List fwO := [(.iload 4, 0, 0, .null), (.sipush 128, 0, 0, .int 128)]
theorem k_disk_14_ok : fwChain m_disk.1.cls m_disk.2.1 14 k_disk_14 19 = true := by decide +kernel
theorem d_disk_19 : decode m_disk.2.1 19 = .ok (.if_icmp .ge 11, 3) := by decide +kernel
def k_disk_22 : List fwO := [(.iload_n 2, 0, 0, .null), (.iload_n 3, 0, 0, .null)]
theorem k_disk_22_ok : fwChain m_disk.1.cls m_disk.2.1 22 k_disk_22 24 = true := by decide +kernel
theorem d_disk_24 : decode m_disk.2.1 24 = .ok (.invokestatic 185, 3) := by decide +kernel
theorem d_disk_27 : decode m_disk.2.1 27 = .ok (.ifCond .ne 5, 3) := by decide +kernel
def k_disk_30 : List fwO := [(.iconst (-1), 0, 0, .int (-1))]
theorem k_disk_30_ok : fwChain m_disk.1.cls m_disk.2.1 30 k_disk_30 31 = true := by decide +kernel
theorem d_disk_31 : decode m_disk.2.1 31 = .ok (.ireturn, 1) := by decide +kernel
def k_disk_32 : List fwO := [(.iload_n 1, 0, 0, .null), (.iload_n 2, 0, 0, .null), (.iload_n 3, 0, 0, .null)]
theorem k_disk_32_ok : fwChain m_disk.1.cls m_disk.2.1 32 k_disk_32 35 = true := by decide +kernel
theorem d_disk_35 : decode m_disk.2.1 35 = .ok (.invokestatic 189, 3) := by decide +kernel
def k_disk_38 : List fwO := [(.iload 4, 0, 0, .null), (.iadd, 0, 0, .null), (.istore 6, 0, 0, .null), (.aload_n 0, 0, 0, .null), (.getfield 39, 0, 5, .retAddr 160), (.getfield 193, 4, 0, .retAddr 46), (.iload 6, 0, 0, .null), (.aload_n 0, 0, 0, .null), (.getfield 39, 0, 5, .retAddr 160), (.getfield 193, 4, 0, .retAddr 46), (.iload 6, 0, 0, .null), (.baload, 0, 0, .null), (.iload 5, 0, 0, .null), (.ixor, 0, 0, .null), (.i2b, 0, 0, .null), (.bastore, 0, 0, .null), (.aload_n 0, 0, 0, .null), (.getfield 39, 0, 5, .retAddr 160), (.getfield 193, 4, 0, .retAddr 46), (.iload 6, 0, 0, .null), (.baload, 0, 0, .null), (.sipush 255, 0, 0, .int 255), (.iand, 0, 0, .null)]
theorem k_disk_38_ok : fwChain m_disk.1.cls m_disk.2.1 38 k_disk_38 81 = true := by decide +kernel
theorem d_disk_81 : decode m_disk.2.1 81 = .ok (.ireturn, 1) := by decide +kernel
theorem c_feed_17 : ∀ w ∈ ([(Cond.methodLink "MonitorBoard" (87 : Nat) ({ cls := "MonitorBoard", name := "feedNumber", desc := "(I)V" } : MethodName)), (Cond.instanceMethod ({ cls := "MonitorBoard", name := "feedNumber", desc := "(I)V" } : MethodName)), (Cond.selects "MonitorBoard" ({ cls := "MonitorBoard", name := "feedNumber", desc := "(I)V" } : MethodName) ({ cls := "MonitorBoard", name := "feedNumber", desc := "(I)V" } : MethodName)), (Cond.initialized "MonitorBoard")] : List Cond), w ∈ fwT := fwT_all [921, 923, 1, 279] (by decide +kernel) (by decide +kernel)
theorem c_feed_22 : ∀ w ∈ ([(Cond.methodLink "MonitorBoard" (87 : Nat) ({ cls := "MonitorBoard", name := "feedNumber", desc := "(I)V" } : MethodName)), (Cond.instanceMethod ({ cls := "MonitorBoard", name := "feedNumber", desc := "(I)V" } : MethodName)), (Cond.selects "MonitorBoard" ({ cls := "MonitorBoard", name := "feedNumber", desc := "(I)V" } : MethodName) ({ cls := "MonitorBoard", name := "feedNumber", desc := "(I)V" } : MethodName)), (Cond.initialized "MonitorBoard")] : List Cond), w ∈ fwT := c_feed_17
theorem c_feed_27 : ∀ w ∈ ([(Cond.methodLink "MonitorBoard" (87 : Nat) ({ cls := "MonitorBoard", name := "feedNumber", desc := "(I)V" } : MethodName)), (Cond.instanceMethod ({ cls := "MonitorBoard", name := "feedNumber", desc := "(I)V" } : MethodName)), (Cond.selects "MonitorBoard" ({ cls := "MonitorBoard", name := "feedNumber", desc := "(I)V" } : MethodName) ({ cls := "MonitorBoard", name := "feedNumber", desc := "(I)V" } : MethodName)), (Cond.initialized "MonitorBoard")] : List Cond), w ∈ fwT := c_feed_17
theorem c_feed_33 : ∀ w ∈ ([(Cond.methodLink "MonitorBoard" (87 : Nat) ({ cls := "MonitorBoard", name := "feedNumber", desc := "(I)V" } : MethodName)), (Cond.instanceMethod ({ cls := "MonitorBoard", name := "feedNumber", desc := "(I)V" } : MethodName)), (Cond.selects "MonitorBoard" ({ cls := "MonitorBoard", name := "feedNumber", desc := "(I)V" } : MethodName) ({ cls := "MonitorBoard", name := "feedNumber", desc := "(I)V" } : MethodName)), (Cond.initialized "MonitorBoard")] : List Cond), w ∈ fwT := c_feed_17
theorem c_feed_39 : ∀ w ∈ ([(Cond.methodLink "MonitorBoard" (87 : Nat) ({ cls := "MonitorBoard", name := "feedNumber", desc := "(I)V" } : MethodName)), (Cond.instanceMethod ({ cls := "MonitorBoard", name := "feedNumber", desc := "(I)V" } : MethodName)), (Cond.selects "MonitorBoard" ({ cls := "MonitorBoard", name := "feedNumber", desc := "(I)V" } : MethodName) ({ cls := "MonitorBoard", name := "feedNumber", desc := "(I)V" } : MethodName)), (Cond.initialized "MonitorBoard")] : List Cond), w ∈ fwT := c_feed_17
theorem c_keys_32 : ∀ w ∈ ([(Cond.methodLink "MonitorBoard" (94 : Nat) ({ cls := "MonitorBoard$Console", name := "addKeys", desc := "([BI)V" } : MethodName)), (Cond.instanceMethod ({ cls := "MonitorBoard$Console", name := "addKeys", desc := "([BI)V" } : MethodName)), (Cond.selects "MonitorBoard$Console" ({ cls := "MonitorBoard$Console", name := "addKeys", desc := "([BI)V" } : MethodName) ({ cls := "MonitorBoard$Console", name := "addKeys", desc := "([BI)V" } : MethodName)), (Cond.initialized "MonitorBoard$Console")] : List Cond), w ∈ fwT := fwT_all [933, 934, 935, 280] (by decide +kernel) (by decide +kernel)
theorem c_boot_4 : ∀ w ∈ ([(Cond.methodLink "MonitorBoard" (80 : Nat) ({ cls := "MonitorBoard$Monitor", name := "bootCold", desc := "()V" } : MethodName)), (Cond.instanceMethod ({ cls := "MonitorBoard$Monitor", name := "bootCold", desc := "()V" } : MethodName)), (Cond.selects "MonitorBoard$Monitor" ({ cls := "MonitorBoard$Monitor", name := "bootCold", desc := "()V" } : MethodName) ({ cls := "MonitorBoard$Monitor", name := "bootCold", desc := "()V" } : MethodName)), (Cond.initialized "MonitorBoard$Monitor")] : List Cond), w ∈ fwT := fwT_all [809, 810, 811, 284] (by decide +kernel) (by decide +kernel)
theorem c_readLine_17 : ∀ w ∈ ([(Cond.methodLink "MonitorBoard$Console" (67 : Nat) ({ cls := "MonitorBoard$Console", name := "takeKey", desc := "()I" } : MethodName)), (Cond.instanceMethod ({ cls := "MonitorBoard$Console", name := "takeKey", desc := "()I" } : MethodName)), (Cond.selects "MonitorBoard$Console" ({ cls := "MonitorBoard$Console", name := "takeKey", desc := "()I" } : MethodName) ({ cls := "MonitorBoard$Console", name := "takeKey", desc := "()I" } : MethodName)), (Cond.initialized "MonitorBoard$Console")] : List Cond), w ∈ fwT := fwT_all [955, 956, 957, 280] (by decide +kernel) (by decide +kernel)
theorem c_readLine_37 : ∀ w ∈ ([(Cond.methodLink "MonitorBoard$Console" (70 : Nat) ({ cls := "MonitorBoard$Console", name := "endLine", desc := "()I" } : MethodName)), (Cond.instanceMethod ({ cls := "MonitorBoard$Console", name := "endLine", desc := "()I" } : MethodName)), (Cond.selects "MonitorBoard$Console" ({ cls := "MonitorBoard$Console", name := "endLine", desc := "()I" } : MethodName) ({ cls := "MonitorBoard$Console", name := "endLine", desc := "()I" } : MethodName)), (Cond.initialized "MonitorBoard$Console")] : List Cond), w ∈ fwT := fwT_all [959, 961, 2, 280] (by decide +kernel) (by decide +kernel)
theorem c_readLine_54 : ∀ w ∈ ([(Cond.methodLink "MonitorBoard$Console" (73 : Nat) ({ cls := "MonitorBoard$Console", name := "takeBack", desc := "()V" } : MethodName)), (Cond.instanceMethod ({ cls := "MonitorBoard$Console", name := "takeBack", desc := "()V" } : MethodName)), (Cond.selects "MonitorBoard$Console" ({ cls := "MonitorBoard$Console", name := "takeBack", desc := "()V" } : MethodName) ({ cls := "MonitorBoard$Console", name := "takeBack", desc := "()V" } : MethodName)), (Cond.initialized "MonitorBoard$Console")] : List Cond), w ∈ fwT := fwT_all [963, 965, 3, 280] (by decide +kernel) (by decide +kernel)
theorem c_readLine_81 : ∀ w ∈ ([(Cond.methodLink "MonitorBoard$Console" (76 : Nat) ({ cls := "MonitorBoard$Console", name := "takeSign", desc := "(I)V" } : MethodName)), (Cond.instanceMethod ({ cls := "MonitorBoard$Console", name := "takeSign", desc := "(I)V" } : MethodName)), (Cond.selects "MonitorBoard$Console" ({ cls := "MonitorBoard$Console", name := "takeSign", desc := "(I)V" } : MethodName) ({ cls := "MonitorBoard$Console", name := "takeSign", desc := "(I)V" } : MethodName)), (Cond.initialized "MonitorBoard$Console")] : List Cond), w ∈ fwT := fwT_all [967, 969, 4, 280] (by decide +kernel) (by decide +kernel)
theorem c_readLine_96 : ∀ w ∈ ([(Cond.methodLink "MonitorBoard$Console" (70 : Nat) ({ cls := "MonitorBoard$Console", name := "endLine", desc := "()I" } : MethodName)), (Cond.instanceMethod ({ cls := "MonitorBoard$Console", name := "endLine", desc := "()I" } : MethodName)), (Cond.selects "MonitorBoard$Console" ({ cls := "MonitorBoard$Console", name := "endLine", desc := "()I" } : MethodName) ({ cls := "MonitorBoard$Console", name := "endLine", desc := "()I" } : MethodName)), (Cond.initialized "MonitorBoard$Console")] : List Cond), w ∈ fwT := c_readLine_37
theorem c_goOn_4 : ∀ w ∈ ([(Cond.methodLink "MonitorBoard$Shell" (74 : Nat) ({ cls := "MonitorBoard$Console", name := "readLine", desc := "()I" } : MethodName)), (Cond.instanceMethod ({ cls := "MonitorBoard$Console", name := "readLine", desc := "()I" } : MethodName)), (Cond.selects "MonitorBoard$Console" ({ cls := "MonitorBoard$Console", name := "readLine", desc := "()I" } : MethodName) ({ cls := "MonitorBoard$Console", name := "readLine", desc := "()I" } : MethodName)), (Cond.initialized "MonitorBoard$Console")] : List Cond), w ∈ fwT := fwT_all [951, 952, 953, 280] (by decide +kernel) (by decide +kernel)
theorem c_goOn_23 : ∀ w ∈ ([(Cond.methodLink "MonitorBoard$Shell" (80 : Nat) ({ cls := "MonitorBoard$Monitor", name := "bootWarm", desc := "()V" } : MethodName)), (Cond.instanceMethod ({ cls := "MonitorBoard$Monitor", name := "bootWarm", desc := "()V" } : MethodName)), (Cond.selects "MonitorBoard$Monitor" ({ cls := "MonitorBoard$Monitor", name := "bootWarm", desc := "()V" } : MethodName) ({ cls := "MonitorBoard$Monitor", name := "bootWarm", desc := "()V" } : MethodName)), (Cond.initialized "MonitorBoard$Monitor")] : List Cond), w ∈ fwT := fwT_all [971, 833, 834, 284] (by decide +kernel) (by decide +kernel)
theorem c_goOn_29 : ∀ w ∈ ([(Cond.methodLink "MonitorBoard$Shell" (83 : Nat) ({ cls := "MonitorBoard$Shell", name := "takeLine", desc := "()V" } : MethodName)), (Cond.instanceMethod ({ cls := "MonitorBoard$Shell", name := "takeLine", desc := "()V" } : MethodName)), (Cond.selects "MonitorBoard$Shell" ({ cls := "MonitorBoard$Shell", name := "takeLine", desc := "()V" } : MethodName) ({ cls := "MonitorBoard$Shell", name := "takeLine", desc := "()V" } : MethodName)), (Cond.initialized "MonitorBoard$Shell")] : List Cond), w ∈ fwT := fwT_all [972, 974, 5, 285] (by decide +kernel) (by decide +kernel)
theorem c_goOn_33 : ∀ w ∈ ([(Cond.methodLink "MonitorBoard$Shell" (86 : Nat) ({ cls := "MonitorBoard$Shell", name := "command", desc := "()I" } : MethodName)), (Cond.instanceMethod ({ cls := "MonitorBoard$Shell", name := "command", desc := "()I" } : MethodName)), (Cond.selects "MonitorBoard$Shell" ({ cls := "MonitorBoard$Shell", name := "command", desc := "()I" } : MethodName) ({ cls := "MonitorBoard$Shell", name := "command", desc := "()I" } : MethodName)), (Cond.initialized "MonitorBoard$Shell")] : List Cond), w ∈ fwT := fwT_all [986, 988, 8, 285] (by decide +kernel) (by decide +kernel)
theorem c_goOn_93 : ∀ w ∈ ([(Cond.methodLink "MonitorBoard$Shell" (89 : Nat) ({ cls := "MonitorBoard$Shell", name := "tellDirectory", desc := "()I" } : MethodName)), (Cond.instanceMethod ({ cls := "MonitorBoard$Shell", name := "tellDirectory", desc := "()I" } : MethodName)), (Cond.selects "MonitorBoard$Shell" ({ cls := "MonitorBoard$Shell", name := "tellDirectory", desc := "()I" } : MethodName) ({ cls := "MonitorBoard$Shell", name := "tellDirectory", desc := "()I" } : MethodName)), (Cond.initialized "MonitorBoard$Shell")] : List Cond), w ∈ fwT := fwT_all [994, 996, 9, 285] (by decide +kernel) (by decide +kernel)
theorem c_goOn_101 : ∀ w ∈ ([(Cond.methodLink "MonitorBoard$Shell" (92 : Nat) ({ cls := "MonitorBoard$Shell", name := "erase", desc := "()I" } : MethodName)), (Cond.instanceMethod ({ cls := "MonitorBoard$Shell", name := "erase", desc := "()I" } : MethodName)), (Cond.selects "MonitorBoard$Shell" ({ cls := "MonitorBoard$Shell", name := "erase", desc := "()I" } : MethodName) ({ cls := "MonitorBoard$Shell", name := "erase", desc := "()I" } : MethodName)), (Cond.initialized "MonitorBoard$Shell")] : List Cond), w ∈ fwT := fwT_all [1105, 1107, 16, 285] (by decide +kernel) (by decide +kernel)
theorem c_goOn_109 : ∀ w ∈ ([(Cond.methodLink "MonitorBoard$Shell" (95 : Nat) ({ cls := "MonitorBoard$Shell", name := "rename", desc := "()I" } : MethodName)), (Cond.instanceMethod ({ cls := "MonitorBoard$Shell", name := "rename", desc := "()I" } : MethodName)), (Cond.selects "MonitorBoard$Shell" ({ cls := "MonitorBoard$Shell", name := "rename", desc := "()I" } : MethodName) ({ cls := "MonitorBoard$Shell", name := "rename", desc := "()I" } : MethodName)), (Cond.initialized "MonitorBoard$Shell")] : List Cond), w ∈ fwT := fwT_all [1195, 1197, 31, 285] (by decide +kernel) (by decide +kernel)
theorem c_goOn_117 : ∀ w ∈ ([(Cond.methodLink "MonitorBoard$Shell" (98 : Nat) ({ cls := "MonitorBoard$Shell", name := "type", desc := "()I" } : MethodName)), (Cond.instanceMethod ({ cls := "MonitorBoard$Shell", name := "type", desc := "()I" } : MethodName)), (Cond.selects "MonitorBoard$Shell" ({ cls := "MonitorBoard$Shell", name := "type", desc := "()I" } : MethodName) ({ cls := "MonitorBoard$Shell", name := "type", desc := "()I" } : MethodName)), (Cond.initialized "MonitorBoard$Shell")] : List Cond), w ∈ fwT := fwT_all [1206, 1208, 33, 285] (by decide +kernel) (by decide +kernel)
theorem c_goOn_125 : ∀ w ∈ ([(Cond.methodLink "MonitorBoard$Shell" (101 : Nat) ({ cls := "MonitorBoard$Shell", name := "save", desc := "()I" } : MethodName)), (Cond.instanceMethod ({ cls := "MonitorBoard$Shell", name := "save", desc := "()I" } : MethodName)), (Cond.selects "MonitorBoard$Shell" ({ cls := "MonitorBoard$Shell", name := "save", desc := "()I" } : MethodName) ({ cls := "MonitorBoard$Shell", name := "save", desc := "()I" } : MethodName)), (Cond.initialized "MonitorBoard$Shell")] : List Cond), w ∈ fwT := fwT_all [1233, 1235, 36, 285] (by decide +kernel) (by decide +kernel)
theorem c_goOn_133 : ∀ w ∈ ([(Cond.methodLink "MonitorBoard$Shell" (104 : Nat) ({ cls := "MonitorBoard$Shell", name := "chooseUser", desc := "()I" } : MethodName)), (Cond.instanceMethod ({ cls := "MonitorBoard$Shell", name := "chooseUser", desc := "()I" } : MethodName)), (Cond.selects "MonitorBoard$Shell" ({ cls := "MonitorBoard$Shell", name := "chooseUser", desc := "()I" } : MethodName) ({ cls := "MonitorBoard$Shell", name := "chooseUser", desc := "()I" } : MethodName)), (Cond.initialized "MonitorBoard$Shell")] : List Cond), w ∈ fwT := fwT_all [1258, 1260, 39, 285] (by decide +kernel) (by decide +kernel)
theorem c_goOn_141 : ∀ w ∈ ([(Cond.methodLink "MonitorBoard$Shell" (107 : Nat) ({ cls := "MonitorBoard$Shell", name := "dump", desc := "()I" } : MethodName)), (Cond.instanceMethod ({ cls := "MonitorBoard$Shell", name := "dump", desc := "()I" } : MethodName)), (Cond.selects "MonitorBoard$Shell" ({ cls := "MonitorBoard$Shell", name := "dump", desc := "()I" } : MethodName) ({ cls := "MonitorBoard$Shell", name := "dump", desc := "()I" } : MethodName)), (Cond.initialized "MonitorBoard$Shell")] : List Cond), w ∈ fwT := fwT_all [1262, 1264, 40, 285] (by decide +kernel) (by decide +kernel)
theorem c_goOn_149 : ∀ w ∈ ([(Cond.methodLink "MonitorBoard$Shell" (110 : Nat) ({ cls := "MonitorBoard$Shell", name := "tellStatus", desc := "()I" } : MethodName)), (Cond.instanceMethod ({ cls := "MonitorBoard$Shell", name := "tellStatus", desc := "()I" } : MethodName)), (Cond.selects "MonitorBoard$Shell" ({ cls := "MonitorBoard$Shell", name := "tellStatus", desc := "()I" } : MethodName) ({ cls := "MonitorBoard$Shell", name := "tellStatus", desc := "()I" } : MethodName)), (Cond.initialized "MonitorBoard$Shell")] : List Cond), w ∈ fwT := fwT_all [1271, 1273, 41, 285] (by decide +kernel) (by decide +kernel)
theorem c_goOn_157 : ∀ w ∈ ([(Cond.methodLink "MonitorBoard$Shell" (113 : Nat) ({ cls := "MonitorBoard$Shell", name := "copy", desc := "()I" } : MethodName)), (Cond.instanceMethod ({ cls := "MonitorBoard$Shell", name := "copy", desc := "()I" } : MethodName)), (Cond.selects "MonitorBoard$Shell" ({ cls := "MonitorBoard$Shell", name := "copy", desc := "()I" } : MethodName) ({ cls := "MonitorBoard$Shell", name := "copy", desc := "()I" } : MethodName)), (Cond.initialized "MonitorBoard$Shell")] : List Cond), w ∈ fwT := fwT_all [1289, 1291, 44, 285] (by decide +kernel) (by decide +kernel)
theorem c_goOn_165 : ∀ w ∈ ([(Cond.methodLink "MonitorBoard$Shell" (116 : Nat) ({ cls := "MonitorBoard$Shell", name := "loadHex", desc := "()I" } : MethodName)), (Cond.instanceMethod ({ cls := "MonitorBoard$Shell", name := "loadHex", desc := "()I" } : MethodName)), (Cond.selects "MonitorBoard$Shell" ({ cls := "MonitorBoard$Shell", name := "loadHex", desc := "()I" } : MethodName) ({ cls := "MonitorBoard$Shell", name := "loadHex", desc := "()I" } : MethodName)), (Cond.initialized "MonitorBoard$Shell")] : List Cond), w ∈ fwT := fwT_all [1293, 1295, 45, 285] (by decide +kernel) (by decide +kernel)
theorem c_goOn_188 : ∀ w ∈ ([(Cond.methodLink "MonitorBoard$Shell" (126 : Nat) ({ cls := "MonitorBoard$Shell", name := "chooseDriveOrProgram", desc := "()I" } : MethodName)), (Cond.instanceMethod ({ cls := "MonitorBoard$Shell", name := "chooseDriveOrProgram", desc := "()I" } : MethodName)), (Cond.selects "MonitorBoard$Shell" ({ cls := "MonitorBoard$Shell", name := "chooseDriveOrProgram", desc := "()I" } : MethodName) ({ cls := "MonitorBoard$Shell", name := "chooseDriveOrProgram", desc := "()I" } : MethodName)), (Cond.initialized "MonitorBoard$Shell")] : List Cond), w ∈ fwT := fwT_all [1342, 1344, 50, 285] (by decide +kernel) (by decide +kernel)
theorem c_goOn_194 : ∀ w ∈ ([(Cond.methodLink "MonitorBoard$Shell" (129 : Nat) ({ cls := "MonitorBoard$Shell", name := "finish", desc := "(I)V" } : MethodName)), (Cond.instanceMethod ({ cls := "MonitorBoard$Shell", name := "finish", desc := "(I)V" } : MethodName)), (Cond.selects "MonitorBoard$Shell" ({ cls := "MonitorBoard$Shell", name := "finish", desc := "(I)V" } : MethodName) ({ cls := "MonitorBoard$Shell", name := "finish", desc := "(I)V" } : MethodName)), (Cond.initialized "MonitorBoard$Shell")] : List Cond), w ∈ fwT := fwT_all [1358, 1360, 53, 285] (by decide +kernel) (by decide +kernel)
theorem c_run_88 : ∀ w ∈ ([(Cond.methodLink "MonitorBoard" (111 : Nat) ({ cls := "MonitorBoard$Shell", name := "goOn", desc := "()Z" } : MethodName)), (Cond.instanceMethod ({ cls := "MonitorBoard$Shell", name := "goOn", desc := "()Z" } : MethodName)), (Cond.selects "MonitorBoard$Shell" ({ cls := "MonitorBoard$Shell", name := "goOn", desc := "()Z" } : MethodName) ({ cls := "MonitorBoard$Shell", name := "goOn", desc := "()Z" } : MethodName)), (Cond.initialized "MonitorBoard$Shell")] : List Cond), w ∈ fwT := fwT_all [947, 948, 949, 285] (by decide +kernel) (by decide +kernel)
theorem c_run_103 : ∀ w ∈ ([(Cond.methodLink "MonitorBoard" (118 : Nat) ({ cls := "MonitorBoard$Monitor", name := "isEntry", desc := "(I)Z" } : MethodName)), (Cond.static ({ cls := "MonitorBoard$Monitor", name := "isEntry", desc := "(I)Z" } : MethodName)), (Cond.initialized "MonitorBoard$Monitor")] : List Cond), w ∈ fwT := fwT_all [1377, 1378, 284] (by decide +kernel) (by decide +kernel)
theorem c_run_113 : ∀ w ∈ ([(Cond.methodLink "MonitorBoard" (122 : Nat) ({ cls := "MonitorBoard$Monitor", name := "serve", desc := "()Z" } : MethodName)), (Cond.instanceMethod ({ cls := "MonitorBoard$Monitor", name := "serve", desc := "()Z" } : MethodName)), (Cond.selects "MonitorBoard$Monitor" ({ cls := "MonitorBoard$Monitor", name := "serve", desc := "()Z" } : MethodName) ({ cls := "MonitorBoard$Monitor", name := "serve", desc := "()Z" } : MethodName)), (Cond.initialized "MonitorBoard$Monitor")] : List Cond), w ∈ fwT := fwT_all [1382, 1383, 1384, 284] (by decide +kernel) (by decide +kernel)
theorem c_run_125 : ∀ w ∈ ([(Cond.methodLink "MonitorBoard" (125 : Nat) ({ cls := "MonitorBoard$Processor", name := "step", desc := "()V" } : MethodName)), (Cond.instanceMethod ({ cls := "MonitorBoard$Processor", name := "step", desc := "()V" } : MethodName)), (Cond.selects "MonitorBoard$Processor" ({ cls := "MonitorBoard$Processor", name := "step", desc := "()V" } : MethodName) ({ cls := "MonitorBoard$Processor", name := "step", desc := "()V" } : MethodName)), (Cond.initialized "MonitorBoard$Processor")] : List Cond), w ∈ fwT := fwT_all [1491, 1492, 1493, 281] (by decide +kernel) (by decide +kernel)
theorem c_memory_17 : ∀ w ∈ ([(Cond.methodLink "MonitorBoard" (148 : Nat) ({ cls := "MonitorBoard$Processor", name := "peek", desc := "(I)I" } : MethodName)), (Cond.instanceMethod ({ cls := "MonitorBoard$Processor", name := "peek", desc := "(I)I" } : MethodName)), (Cond.selects "MonitorBoard$Processor" ({ cls := "MonitorBoard$Processor", name := "peek", desc := "(I)I" } : MethodName) ({ cls := "MonitorBoard$Processor", name := "peek", desc := "(I)I" } : MethodName)), (Cond.initialized "MonitorBoard$Processor")] : List Cond), w ∈ fwT := fwT_all [1660, 1253, 1254, 281] (by decide +kernel) (by decide +kernel)
theorem c_load_23 : ∀ w ∈ ([(Cond.methodLink "MonitorBoard" (152 : Nat) ({ cls := "MonitorBoard$Processor", name := "poke", desc := "(II)V" } : MethodName)), (Cond.instanceMethod ({ cls := "MonitorBoard$Processor", name := "poke", desc := "(II)V" } : MethodName)), (Cond.selects "MonitorBoard$Processor" ({ cls := "MonitorBoard$Processor", name := "poke", desc := "(II)V" } : MethodName) ({ cls := "MonitorBoard$Processor", name := "poke", desc := "(II)V" } : MethodName)), (Cond.initialized "MonitorBoard$Processor")] : List Cond), w ∈ fwT := fwT_all [1665, 837, 838, 281] (by decide +kernel) (by decide +kernel)
theorem c_takeTold_6 : ∀ w ∈ ([(Cond.methodLink "MonitorBoard$Console" (45 : Nat) ({ cls := "java/lang/Math", name := "min", desc := "(II)I" } : MethodName)), (Cond.static ({ cls := "java/lang/Math", name := "min", desc := "(II)I" } : MethodName)), (Cond.initialized "java/lang/Math")] : List Cond), w ∈ fwT := fwT_all [877, 878, 294] (by decide +kernel) (by decide +kernel)
theorem c_console_9 : ∀ w ∈ ([(Cond.methodLink "MonitorBoard" (160 : Nat) ({ cls := "MonitorBoard$Console", name := "takeTold", desc := "([B)I" } : MethodName)), (Cond.instanceMethod ({ cls := "MonitorBoard$Console", name := "takeTold", desc := "([B)I" } : MethodName)), (Cond.selects "MonitorBoard$Console" ({ cls := "MonitorBoard$Console", name := "takeTold", desc := "([B)I" } : MethodName) ({ cls := "MonitorBoard$Console", name := "takeTold", desc := "([B)I" } : MethodName)), (Cond.initialized "MonitorBoard$Console")] : List Cond), w ∈ fwT := fwT_all [1675, 1676, 1677, 280] (by decide +kernel) (by decide +kernel)
theorem c_translate_7 : ∀ w ∈ ([(Cond.methodLink "MonitorBoard$Assembler" (47 : Nat) ({ cls := "java/lang/Math", name := "min", desc := "(II)I" } : MethodName)), (Cond.static ({ cls := "java/lang/Math", name := "min", desc := "(II)I" } : MethodName)), (Cond.initialized "java/lang/Math")] : List Cond), w ∈ fwT := fwT_all [1691, 878, 294] (by decide +kernel) (by decide +kernel)
theorem c_translate_112 : ∀ w ∈ ([(Cond.methodLink "MonitorBoard$Assembler" (79 : Nat) ({ cls := "MonitorBoard$Assembler", name := "readLabel", desc := "()V" } : MethodName)), (Cond.instanceMethod ({ cls := "MonitorBoard$Assembler", name := "readLabel", desc := "()V" } : MethodName)), (Cond.selects "MonitorBoard$Assembler" ({ cls := "MonitorBoard$Assembler", name := "readLabel", desc := "()V" } : MethodName) ({ cls := "MonitorBoard$Assembler", name := "readLabel", desc := "()V" } : MethodName)), (Cond.initialized "MonitorBoard$Assembler")] : List Cond), w ∈ fwT := fwT_all [1692, 1694, 101, 292] (by decide +kernel) (by decide +kernel)
theorem c_translate_116 : ∀ w ∈ ([(Cond.methodLink "MonitorBoard$Assembler" (82 : Nat) ({ cls := "MonitorBoard$Assembler", name := "readOperation", desc := "()V" } : MethodName)), (Cond.instanceMethod ({ cls := "MonitorBoard$Assembler", name := "readOperation", desc := "()V" } : MethodName)), (Cond.selects "MonitorBoard$Assembler" ({ cls := "MonitorBoard$Assembler", name := "readOperation", desc := "()V" } : MethodName) ({ cls := "MonitorBoard$Assembler", name := "readOperation", desc := "()V" } : MethodName)), (Cond.initialized "MonitorBoard$Assembler")] : List Cond), w ∈ fwT := fwT_all [1714, 1716, 106, 292] (by decide +kernel) (by decide +kernel)
theorem c_translate_120 : ∀ w ∈ ([(Cond.methodLink "MonitorBoard$Assembler" (85 : Nat) ({ cls := "MonitorBoard$Assembler", name := "finishLine", desc := "()V" } : MethodName)), (Cond.instanceMethod ({ cls := "MonitorBoard$Assembler", name := "finishLine", desc := "()V" } : MethodName)), (Cond.selects "MonitorBoard$Assembler" ({ cls := "MonitorBoard$Assembler", name := "finishLine", desc := "()V" } : MethodName) ({ cls := "MonitorBoard$Assembler", name := "finishLine", desc := "()V" } : MethodName)), (Cond.initialized "MonitorBoard$Assembler")] : List Cond), w ∈ fwT := fwT_all [1824, 1826, 128, 292] (by decide +kernel) (by decide +kernel)
theorem c_assemble_8 : ∀ w ∈ ([(Cond.methodLink "MonitorBoard" (167 : Nat) ({ cls := "MonitorBoard$Assembler", name := "translate", desc := "(I)I" } : MethodName)), (Cond.instanceMethod ({ cls := "MonitorBoard$Assembler", name := "translate", desc := "(I)I" } : MethodName)), (Cond.selects "MonitorBoard$Assembler" ({ cls := "MonitorBoard$Assembler", name := "translate", desc := "(I)I" } : MethodName) ({ cls := "MonitorBoard$Assembler", name := "translate", desc := "(I)I" } : MethodName)), (Cond.initialized "MonitorBoard$Assembler")] : List Cond), w ∈ fwT := fwT_all [1687, 1688, 1689, 292] (by decide +kernel) (by decide +kernel)
theorem c_assemble_20 : ∀ w ∈ ([(Cond.methodLink "MonitorBoard" (170 : Nat) ({ cls := "java/lang/Math", name := "max", desc := "(II)I" } : MethodName)), (Cond.static ({ cls := "java/lang/Math", name := "max", desc := "(II)I" } : MethodName)), (Cond.initialized "java/lang/Math")] : List Cond), w ∈ fwT := fwT_all [1828, 1034, 294] (by decide +kernel) (by decide +kernel)
theorem c_disk_24 : ∀ w ∈ ([(Cond.methodLink "MonitorBoard" (185 : Nat) ({ cls := "MonitorBoard$Files", name := "isSector", desc := "(II)Z" } : MethodName)), (Cond.static ({ cls := "MonitorBoard$Files", name := "isSector", desc := "(II)Z" } : MethodName)), (Cond.initialized "MonitorBoard$Files")] : List Cond), w ∈ fwT := fwT_all [1839, 1417, 282] (by decide +kernel) (by decide +kernel)
theorem c_disk_35 : ∀ w ∈ ([(Cond.methodLink "MonitorBoard" (189 : Nat) ({ cls := "MonitorBoard$Files", name := "sectorPlace", desc := "(III)I" } : MethodName)), (Cond.static ({ cls := "MonitorBoard$Files", name := "sectorPlace", desc := "(III)I" } : MethodName)), (Cond.initialized "MonitorBoard$Files")] : List Cond), w ∈ fwT := fwT_all [1840, 418, 282] (by decide +kernel) (by decide +kernel)
end
section
/-! the class's calls on a new object -/
abbrev fwLo : List Nat := List.range 39
abbrev Up (σ σ' : fwS) : Prop := fwSame fwLo σ σ'
def aEnd (n : Int32) : Int32 := if n < 0 ∨ ¬ n ≤ 0 then 0 else 1
def aMem (a : Int32) : Int32 := if a < 0 ∨ ¬ a < 65536 then -1 else memW (fun _ => 0) (a &&& 65535).toNatClampNeg &&& 255
def aReg (i : Int32) : Int32 := if i = 6 then 2 else if i = 9 then 60419 else if i = 12 then 128 else if i < 0 ∨ ¬ i ≤ 12 then -1 else 0
def aRun (n : Int32) : Int32 := if n < 1 ∨ ¬ n ≤ 200000 then 0 else 1
theorem vp_in_lt {x : Int32} {n : Nat} (h : vp_in x n) : x.toNatClampNeg < n := Nat.lt_of_not_le (fun q => h (Or.inr q))
section FST
variable {l : Launch} {Z : fwZ} {e0 e1 e2 e3 : fwE} {re : List fwE} {σ : fwS}
theorem ct_states (hF : Fre σ) : fwC l Z m_states 1 0 0 [.ref 0] (shMB re) σ (fun w sh' σ' => w = some (.long 0) ∧ sh' = shMB re ∧ Up σ σ') := by
  refine fwC_of (ls := [some (.ref 0)]) (by decide +kernel) rfl (by rw [fw_sl1]; exact Nat.le_refl 1) ?_
  refine fwRun_ok k_states_0_ok rfl trivial ?_
  refine fwg_lret rfl (Nat.le_refl _) (Nat.le_refl _) ⟨?_, rfl, fwSame.rf⟩ d_states_7
  show some (Value.long (σ.2 8 6)) = _
  rw [hF.2.2.1.2.2.2.2]
theorem ct_end {n : Int32} (hF : Fre σ) : fwC l Z m_end 1 0 0 [.ref 0, .int n] (shMB re) σ (fun w sh' σ' => w = some (.int (aEnd n)) ∧ sh' = shMB re ∧ Up σ σ') := by
  refine fwC_of (ls := [some (.ref 0), some (.int n)]) (by decide +kernel) rfl (by rw [fw_sl1]; exact Nat.le_refl 2) ?_
  refine fwRun_ok k_end_0_ok rfl trivial ?_
  refine fwg_if 12 d_end_1 (by decide) (fun h => ?_) (fun h => ?_)
  · refine fwRun_ok k_end_12_ok rfl trivial ?_
    exact fwg_zret rfl rfl (Nat.le_refl _) (Nat.le_refl _) ⟨by rw [aEnd, if_pos (Or.inl (show n < 0 from h))], rfl, fwSame.rf⟩ d_end_13
  · refine fwRun_ok k_end_4_ok rfl trivial ?_
    refine fwg_cmp 14 d_end_9 (by decide) (fun h2 => ?_) (fun h2 => ?_)
    · have h3 : n ≤ σ.1 0 10 := h2
      rw [hF.1.1] at h3
      refine fwRun_ok k_end_14_ok rfl trivial ?_
      exact fwg_zret rfl rfl (Nat.le_refl _) (Nat.le_refl _) ⟨by rw [aEnd, if_neg (fun q => q.elim h (fun q => q h3))], rfl, fwSame_I (by decide)⟩ d_end_20
    · have h3 : ¬ n ≤ σ.1 0 10 := h2
      rw [hF.1.1] at h3
      refine fwRun_ok k_end_12_ok rfl trivial ?_
      exact fwg_zret rfl rfl (Nat.le_refl _) (Nat.le_refl _) ⟨by rw [aEnd, if_pos (Or.inr h3)], rfl, fwSame.rf⟩ d_end_13
theorem fn_step {x s : Int32} {t : Nat} {Post : fwPost} (h : σ.1 0 10 = nI t) (ht : t < 4000) (hs : ¬ s < 0) (k : ∀ σ', fwSame [0, 1] σ σ' → σ'.1 0 10 = nI (t + 1) → fwG l Z m_feedNumber 1 0 0 Post 0 0 3 [some (.ref 0), some (.int x), some (.int (s + (-8)))] [] (shMB re) σ') : fwG l Z m_feedNumber 1 0 0 Post 0 0 3 [some (.ref 0), some (.int x), some (.int s)] [] (shMB re) σ := by
  refine fwRun_ok k_feedNumber_3_ok rfl trivial ?_
  refine fwg_if 36 d_feedNumber_4 (by decide) (fun q => absurd q hs) (fun _ => ?_)
  refine fwRun_ok k_feedNumber_7_ok rfl (by show vp_in (σ.1 0 10) 4000; rw [h]; exact vp_in_nI ht (by decide)) ?_
  refine fwg_goto 3 d_feedNumber_33 (by decide) ?_
  refine k _ ((fwSame_I (by decide)).tr (fwSame_I (by decide))) ?_
  rw [fwI_eq, fwI_ne (by decide), h]
  exact nI_1 t
theorem ct_feedNumber {x : Int32} {t : Nat} (h : σ.1 0 10 = nI t) (ht : t + 4 ≤ 4000) : fwC l Z m_feedNumber 1 0 0 [.ref 0, .int x] (shMB re) σ (fun w sh' σ' => w = none ∧ sh' = shMB re ∧ fwSame [0, 1] σ σ' ∧ σ'.1 0 10 = nI (t + 4)) := by
  refine fwC_of (ls := [some (.ref 0), some (.int x), none]) (by decide +kernel) rfl (by rw [fw_sl1]; exact Nat.le_of_ble_eq_true rfl) ?_
  refine fwRun_ok k_feedNumber_0_ok rfl trivial ?_
  refine fn_step h (by omega) (by decide) (fun σ1 s1 h1 => ?_)
  refine fn_step h1 (by omega) (by decide) (fun σ2 s2 h2 => ?_)
  refine fn_step h2 (by omega) (by decide) (fun σ3 s3 h3 => ?_)
  refine fn_step h3 (by omega) (by decide) (fun σ4 s4 h4 => ?_)
  refine fwRun_ok k_feedNumber_3_ok rfl trivial ?_
  refine fwg_if 36 d_feedNumber_4 (by decide) (fun q => ?_) (fun q => absurd (show (24 : Int32) + -8 + -8 + -8 + -8 < 0 by decide) q)
  exact fwg_vret rfl (Nat.le_refl _) (Nat.le_refl _) ⟨rfl, rfl, ((s1.tr s2).tr s3).tr s4, h4⟩ d_feedNumber_36
theorem ct_feed {a b c e f : Int32} (hF : Fre σ) : fwC l Z m_feed 2 0 0 [.ref 0, .int a, .int b, .int c, .int e, .int f] (shMB re) σ (fun w sh' σ' => w = some (.int 1) ∧ sh' = shMB re ∧ Up σ σ') := by
  refine fwC_of (ls := [some (.ref 0), some (.int a), some (.int b), some (.int c), some (.int e), some (.int f)]) (by decide +kernel) rfl (by rw [fw_sl1]; exact Nat.le_refl 6) ?_
  refine fwRun_ok k_feed_0_ok rfl trivial ?_
  refine fwg_cmp 15 d_feed_10 (by decide) (fun _ => ?_) (fun q => absurd (show σ.1 0 10 + 20 ≤ 4000 by rw [hF.1.1]; decide) q)
  have h0 : σ.1 0 10 = nI 0 := hF.1.1
  refine fwRun_ok k_feed_15_ok rfl trivial ?_
  refine fwg_callV (n := 1) (i := 0) (as := [.int a]) (r := []) (ct_feedNumber h0 (by decide)) ⟨by decide, by decide, by decide +kernel⟩ m_feedNumber_in c_feed_17 rfl rfl rfl rfl (Nat.le_of_ble_eq_true rfl) d_feed_17 ⟨Nat.le_refl _, Nat.le_of_ble_eq_true rfl⟩ ⟨Nat.le_refl _, Nat.le_refl _⟩ (fun v sh' σ1 hq => ?_)
  obtain ⟨rfl, rfl, s1, h1⟩ := hq
  refine fwRun_ok k_feed_20_ok rfl trivial ?_
  refine fwg_callV (n := 1) (i := 0) (as := [.int b]) (r := []) (ct_feedNumber h1 (by decide)) ⟨by decide, by decide, by decide +kernel⟩ m_feedNumber_in c_feed_22 rfl rfl rfl rfl (Nat.le_of_ble_eq_true rfl) d_feed_22 ⟨Nat.le_refl _, Nat.le_of_ble_eq_true rfl⟩ ⟨Nat.le_refl _, Nat.le_refl _⟩ (fun v sh' σ2 hq => ?_)
  obtain ⟨rfl, rfl, s2, h2⟩ := hq
  refine fwRun_ok k_feed_25_ok rfl trivial ?_
  refine fwg_callV (n := 1) (i := 0) (as := [.int c]) (r := []) (ct_feedNumber h2 (by decide)) ⟨by decide, by decide, by decide +kernel⟩ m_feedNumber_in c_feed_27 rfl rfl rfl rfl (Nat.le_of_ble_eq_true rfl) d_feed_27 ⟨Nat.le_refl _, Nat.le_of_ble_eq_true rfl⟩ ⟨Nat.le_refl _, Nat.le_refl _⟩ (fun v sh' σ3 hq => ?_)
  obtain ⟨rfl, rfl, s3, h3⟩ := hq
  refine fwRun_ok k_feed_30_ok rfl trivial ?_
  refine fwg_callV (n := 1) (i := 0) (as := [.int e]) (r := []) (ct_feedNumber h3 (by decide)) ⟨by decide, by decide, by decide +kernel⟩ m_feedNumber_in c_feed_33 rfl rfl rfl rfl (Nat.le_of_ble_eq_true rfl) d_feed_33 ⟨Nat.le_refl _, Nat.le_of_ble_eq_true rfl⟩ ⟨Nat.le_refl _, Nat.le_refl _⟩ (fun v sh' σ4 hq => ?_)
  obtain ⟨rfl, rfl, s4, h4⟩ := hq
  refine fwRun_ok k_feed_36_ok rfl trivial ?_
  refine fwg_callV (n := 1) (i := 0) (as := [.int f]) (r := []) (ct_feedNumber h4 (by decide)) ⟨by decide, by decide, by decide +kernel⟩ m_feedNumber_in c_feed_39 rfl rfl rfl rfl (Nat.le_of_ble_eq_true rfl) d_feed_39 ⟨Nat.le_refl _, Nat.le_of_ble_eq_true rfl⟩ ⟨Nat.le_refl _, Nat.le_refl _⟩ (fun v sh' σ5 hq => ?_)
  obtain ⟨rfl, rfl, s5, h5⟩ := hq
  refine fwRun_ok k_feed_42_ok rfl trivial ?_
  exact fwg_zret rfl rfl (Nat.le_refl _) (Nat.le_refl _) ⟨rfl, rfl, ((((s1.tr s2).tr s3).tr s4).tr s5).up (by decide)⟩ d_feed_43
theorem ct_addKeys0 : fwC l Z m_addKeys 1 0 0 [.ref 4, .ref 1, .int 0] (shCon e0 e1 e2 e3 re) σ (fun w sh' σ' => w = none ∧ sh' = shCon e0 e1 e2 e3 re ∧ σ' = σ) := by
  refine fwC_of (ls := [some (.ref 4), some (.ref 1), some (.int 0), none]) (by decide +kernel) rfl (by rw [fw_sl1]; exact Nat.le_of_ble_eq_true rfl) ?_
  refine fwRun_ok k_addKeys_0_ok rfl trivial ?_
  refine fwRun_ok k_addKeys_2_ok rfl trivial ?_
  refine fwg_cmp 60 d_addKeys_4 (by decide) (fun _ => ?_) (fun q => absurd (show (0 : Int32) ≤ 0 by decide) q)
  exact fwg_vret rfl (Nat.le_refl _) (Nat.le_refl _) ⟨rfl, rfl, rfl⟩ d_addKeys_60
theorem ct_keys (hF : Fre σ) : fwC l Z m_keys 2 0 0 [.ref 0] (shMB re) σ (fun w sh' σ' => w = some (.int 0) ∧ sh' = shMB re ∧ Up σ σ') := by
  refine fwC_of (ls := [some (.ref 0)]) (by decide +kernel) rfl (by rw [fw_sl1]; exact Nat.le_refl 1) ?_
  refine fwRun_ok k_keys_0_ok rfl trivial ?_
  refine fwg_cmp 20 d_keys_15 (by decide) (fun _ => ?_) (fun q => absurd (show σ.1 4 6 + σ.1 0 10 ≤ 2000 by rw [hF.1.1, hF.2.1.2.2.2.1]; decide) q)
  refine fwRun_ok k_keys_20_ok rfl trivial ?_
  have h0 : σ.1 0 10 = 0 := hF.1.1
  show fwG l Z m_keys _ _ _ _ _ _ 32 _ [.int (σ.1 0 10), .ref 1, .ref 4] _ _
  rw [h0]
  refine fwg_callV (n := 2) (i := 4) (as := [.ref 1, .int 0]) (r := []) ct_addKeys0 ⟨by decide, by decide, by decide +kernel⟩ m_addKeys_in c_keys_32 rfl rfl rfl rfl (Nat.le_of_ble_eq_true rfl) d_keys_32 ⟨Nat.le_refl _, Nat.le_of_ble_eq_true rfl⟩ ⟨Nat.le_refl _, Nat.le_refl _⟩ (fun v sh' σ1 hq => ?_)
  obtain ⟨rfl, rfl, rfl⟩ := hq
  refine fwRun_ok k_keys_35_ok rfl trivial ?_
  refine fwg_iret rfl (Nat.le_refl _) (Nat.le_refl _) ⟨?_, rfl, fwSame_I (by decide)⟩ d_keys_47
  show some (Value.int ((fwI σ1 0 10 0).1 4 6)) = _
  rw [fwI_ne (by decide), hF.2.1.2.2.2.1]
theorem ct_boot (hF : Fre σ) : fwC l Z m_boot 9 0 0 [.ref 0] (shMB re) σ (fun w sh' σ' => w = none ∧ sh' = shMB re ∧ Up σ σ') := by
  refine fwC_of (ls := [some (.ref 0)]) (by decide +kernel) rfl (by rw [fw_sl1]; exact Nat.le_refl 1) ?_
  refine fwRun_ok k_boot_0_ok rfl trivial ?_
  refine fwg_callV (n := 0) (i := 18) (as := []) (r := []) (ct_cold (t := 9) hF.2.1.1 hF.2.1.2.1 (by decide) hF.2.2.2.2.2.2.2) ⟨by decide, by decide, by decide +kernel⟩ m_cold_in c_boot_4 rfl rfl rfl rfl (Nat.le_of_ble_eq_true rfl) d_boot_4 ⟨Nat.le_refl _, Nat.le_of_ble_eq_true rfl⟩ ⟨Nat.le_refl _, Nat.le_refl _⟩ (fun v sh' σ1 hq => ?_)
  obtain ⟨rfl, rfl, hC⟩ := hq
  exact fwg_vret rfl (Nat.le_refl _) (Nat.le_refl _) ⟨rfl, rfl, hC.1.up (by decide)⟩ d_boot_7
theorem ct_jump {x : Int32} : fwC l Z m_jump 1 0 0 [.ref 0, .int x] (shMB re) σ (fun w sh' σ' => w = none ∧ sh' = shMB re ∧ Up σ σ') := by
  refine fwC_of (ls := [some (.ref 0), some (.int x)]) (by decide +kernel) rfl (by rw [fw_sl1]; exact Nat.le_refl 2) ?_
  refine fwRun_ok k_jump_0_ok rfl ⟨Or.inl rfl, Or.inl rfl, Or.inl rfl⟩ ?_
  exact fwg_vret rfl (Nat.le_refl _) (Nat.le_refl _) ⟨rfl, rfl, (((fwSame_I (by decide)).tr (fwSame_I (by decide))).tr (fwSame_I (by decide))).tr (fwSame_I (by decide))⟩ d_jump_35
theorem ct_load {x : Int32} (hF : Fre σ) : fwC l Z m_load 2 0 0 [.ref 0, .int x] (shMB re) σ (fun w sh' σ' => w = none ∧ sh' = shMB re ∧ Up σ σ') := by
  refine fwC_of (ls := [some (.ref 0), some (.int x), none]) (by decide +kernel) rfl (by rw [fw_sl1]; exact Nat.le_of_ble_eq_true rfl) ?_
  refine fwRun_ok k_load_0_ok rfl trivial ?_
  refine fwRun_ok k_load_2_ok rfl trivial ?_
  refine fwg_cmp 32 d_load_7 (by decide) (fun _ => ?_) (fun q => absurd (show σ.1 0 10 ≤ 0 by rw [hF.1.1]; decide) q)
  refine fwRun_ok k_load_32_ok rfl trivial ?_
  exact fwg_vret rfl (Nat.le_refl _) (Nat.le_refl _) ⟨rfl, rfl, fwSame_I (by decide)⟩ d_load_37
theorem ct_out {i : Int32} (hF : Fre σ) : fwC l Z m_out 1 0 0 [.ref 0, .int i] (shMB re) σ (fun w sh' σ' => w = some (.int (-1)) ∧ sh' = shMB re ∧ Up σ σ') := by
  refine fwC_of (ls := [some (.ref 0), some (.int i)]) (by decide +kernel) rfl (by rw [fw_sl1]; exact Nat.le_refl 2) ?_
  refine fwRun_ok k_out_0_ok rfl trivial ?_
  have k12 : fwG l Z m_out 1 0 0 (fun w sh' σ' => w = some (.int (-1)) ∧ sh' = shMB re ∧ Up σ σ') 0 0 12 [some (.ref 0), some (.int i)] [] (shMB re) σ := by
    refine fwRun_ok k_out_12_ok rfl trivial ?_
    exact fwg_iret rfl (Nat.le_refl _) (Nat.le_refl _) ⟨rfl, rfl, fwSame.rf⟩ d_out_13
  refine fwg_if 12 d_out_1 (by decide) (fun h => k12) (fun h => ?_)
  refine fwRun_ok k_out_4_ok rfl trivial ?_
  refine fwg_cmp 14 d_out_9 (by decide) (fun h2 => ?_) (fun h2 => k12)
  have h3 : i < σ.1 0 11 := h2
  rw [hF.1.2] at h3
  exact absurd h3 h
theorem ct_peek {a : Int32} : fwC l Z m_peek 1 0 0 [.ref 8, .int a] (shMon e0 e1 e2 e3 re) σ (fwPure (.int (σ.1 9 (a &&& 65535).toNatClampNeg &&& 255)) (shMon e0 e1 e2 e3 re) σ) := by
  refine fwC_of (ls := [some (.ref 8), some (.int a)]) (by decide +kernel) rfl (by rw [fw_sl1]; exact Nat.le_refl 2) ?_
  refine fwRun_ok k_peek_0_ok rfl (pk_andIn a 16 (by decide) (by decide)) ?_
  exact fwg_iret rfl (Nat.le_refl _) (Nat.le_refl _) ⟨rfl, rfl, rfl⟩ d_peek_13
theorem ct_memory {a : Int32} (hF : Fre σ) : fwC l Z m_memory 2 0 0 [.ref 0, .int a] (shMB re) σ (fun w sh' σ' => w = some (.int (aMem a)) ∧ sh' = shMB re ∧ Up σ σ') := by
  refine fwC_of (ls := [some (.ref 0), some (.int a)]) (by decide +kernel) rfl (by rw [fw_sl1]; exact Nat.le_refl 2) ?_
  refine fwRun_ok k_memory_0_ok rfl trivial ?_
  have k10 : (a < 0 ∨ ¬ a < 65536) → fwG l Z m_memory 2 0 0 (fun w sh' σ' => w = some (.int (aMem a)) ∧ sh' = shMB re ∧ Up σ σ') 0 0 10 [some (.ref 0), some (.int a)] [] (shMB re) σ := by
    intro h
    refine fwRun_ok k_memory_10_ok rfl trivial ?_
    exact fwg_iret rfl (Nat.le_refl _) (Nat.le_refl _) ⟨by rw [aMem, if_pos h], rfl, fwSame.rf⟩ d_memory_11
  refine fwg_if 10 d_memory_1 (by decide) (fun h => k10 (Or.inl h)) (fun h => ?_)
  refine fwRun_ok k_memory_4_ok rfl trivial ?_
  refine fwg_cmp 12 d_memory_7 (by decide) (fun h2 => ?_) (fun h2 => k10 (Or.inr h2))
  refine fwRun_ok k_memory_12_ok rfl trivial ?_
  refine fwg_callV (n := 1) (i := 8) (as := [.int a]) (r := []) ct_peek ⟨by decide, by decide, by decide +kernel⟩ m_peek_in c_memory_17 rfl rfl rfl rfl (Nat.le_of_ble_eq_true rfl) d_memory_17 ⟨Nat.le_refl _, Nat.le_of_ble_eq_true rfl⟩ ⟨Nat.le_refl _, Nat.le_refl _⟩ (fun v sh' σ1 hq => ?_)
  obtain ⟨rfl, rfl, rfl⟩ := hq
  refine fwg_iret rfl (Nat.le_refl _) (Nat.le_refl _) ⟨?_, rfl, fwSame.rf⟩ d_memory_20
  rw [aMem, if_neg (fun q => q.elim h (fun q => q h2)), hF.2.2.2.1 _ (vp_in_lt (pk_andIn a 16 (m := 65535) (by decide) (by decide)))]
theorem ct_register {i : Int32} (hF : Fre σ) : fwC l Z m_register 1 0 0 [.ref 0, .int i] (shMB re) σ (fun w sh' σ' => w = some (.int (aReg i)) ∧ sh' = shMB re ∧ Up σ σ') := by
  refine fwC_of (ls := [some (.ref 0), some (.int i)]) (by decide +kernel) rfl (by rw [fw_sl1]; exact Nat.le_refl 2) ?_
  refine fwRun_ok k_register_0_ok rfl trivial ?_
  have k10 : (i < 0 ∨ ¬ i ≤ 12) → fwG l Z m_register 1 0 0 (fun w sh' σ' => w = some (.int (aReg i)) ∧ sh' = shMB re ∧ Up σ σ') 0 0 10 [some (.ref 0), some (.int i)] [] (shMB re) σ := by
    intro h
    refine fwRun_ok k_register_10_ok rfl trivial ?_
    refine fwg_iret rfl (Nat.le_refl _) (Nat.le_refl _) ⟨?_, rfl, fwSame.rf⟩ d_register_11
    have n6 : ¬ i = 6 := fun q => by subst q; revert h; decide
    have n9 : ¬ i = 9 := fun q => by subst q; revert h; decide
    have n12 : ¬ i = 12 := fun q => by subst q; revert h; decide
    rw [aReg, if_neg n6, if_neg n9, if_neg n12, if_pos h]
  refine fwg_if 10 d_register_1 (by decide) (fun h => k10 (Or.inl h)) (fun h => ?_)
  refine fwRun_ok k_register_4_ok rfl trivial ?_
  refine fwg_cmp 12 d_register_7 (by decide) (fun h2 => ?_) (fun h2 => k10 (Or.inr h2))
  clear k10
  obtain ⟨j, hj, rfl⟩ := nI_of2 (n := 12) (M := 12) (by decide) h h2
  obtain ⟨_, _, ⟨f3, f4, f5, _⟩, _, hr, ⟨g1, g2⟩, ⟨_, m4⟩, _⟩ := hF
  refine fwRun_ok k_register_12_ok rfl trivial ?_
  have k104 : j < 8 → aReg (nI j) = 0 → fwG l Z m_register 1 0 0 (fun w sh' σ' => w = some (.int (aReg (nI j))) ∧ sh' = shMB re ∧ Up σ σ') 0 0 104 [some (.ref 0), some (.int (nI j))] [] (shMB re) σ := by
    intro h8 ha
    refine fwRun_ok k_register_104_ok rfl (vp_in_nI h8 (by decide)) ?_
    refine fwg_iret rfl (Nat.le_refl _) (Nat.le_refl _) ⟨?_, rfl, fwSame.rf⟩ d_register_113
    rw [ha]
    show some (Value.int (σ.1 10 (nI j).toNatClampNeg)) = _
    rw [nI_clamp (by omega), hr j h8]
  have hc : j = 0 ∨ j = 1 ∨ j = 2 ∨ j = 3 ∨ j = 4 ∨ j = 5 ∨ j = 6 ∨ j = 7 ∨ j = 8 ∨ j = 9 ∨ j = 10 ∨ j = 11 ∨ j = 12 := by omega
  rcases hc with rfl | rfl | rfl | rfl | rfl | rfl | rfl | rfl | rfl | rfl | rfl | rfl | rfl
  · exact fwg_tabOut 104 d_register_13 (by decide) (by decide) (k104 (by decide) (by decide))
  · exact fwg_tabOut 104 d_register_13 (by decide) (by decide) (k104 (by decide) (by decide))
  · exact fwg_tabOut 104 d_register_13 (by decide) (by decide) (k104 (by decide) (by decide))
  · exact fwg_tabOut 104 d_register_13 (by decide) (by decide) (k104 (by decide) (by decide))
  · exact fwg_tabOut 104 d_register_13 (by decide) (by decide) (k104 (by decide) (by decide))
  · exact fwg_tabOut 104 d_register_13 (by decide) (by decide) (k104 (by decide) (by decide))
  · refine fwg_tabIn 56 d_register_13 (by decide) (by decide) rfl (by decide) ?_
    refine fwRun_ok k_register_56_ok rfl trivial ?_
    exact fwg_iret rfl (Nat.le_refl _) (Nat.le_refl _) ⟨by show some (Value.int (σ.1 8 3)) = _; rw [f3]; rfl, rfl, fwSame.rf⟩ d_register_63
  · exact fwg_tabIn 104 d_register_13 (by decide) (by decide) rfl (by decide) (k104 (by decide) (by decide))
  · refine fwg_tabIn 64 d_register_13 (by decide) (by decide) rfl (by decide) ?_
    refine fwRun_ok k_register_64_ok rfl trivial ?_
    exact fwg_iret rfl (Nat.le_refl _) (Nat.le_refl _) ⟨by show some (Value.int (σ.1 8 4)) = _; rw [f4]; rfl, rfl, fwSame.rf⟩ d_register_71
  · refine fwg_tabIn 72 d_register_13 (by decide) (by decide) rfl (by decide) ?_
    refine fwRun_ok k_register_72_ok rfl trivial ?_
    exact fwg_iret rfl (Nat.le_refl _) (Nat.le_refl _) ⟨by show some (Value.int (σ.1 8 5)) = _; rw [f5]; rfl, rfl, fwSame.rf⟩ d_register_79
  · refine fwg_tabIn 80 d_register_13 (by decide) (by decide) rfl (by decide) ?_
    refine fwRun_ok k_register_80_ok rfl trivial ?_
    exact fwg_iret rfl (Nat.le_refl _) (Nat.le_refl _) ⟨by show some (Value.int (σ.1 11 11)) = _; rw [g1]; rfl, rfl, fwSame.rf⟩ d_register_87
  · refine fwg_tabIn 88 d_register_13 (by decide) (by decide) rfl (by decide) ?_
    refine fwRun_ok k_register_88_ok rfl trivial ?_
    exact fwg_iret rfl (Nat.le_refl _) (Nat.le_refl _) ⟨by show some (Value.int (σ.1 11 12)) = _; rw [g2]; rfl, rfl, fwSame.rf⟩ d_register_95
  · refine fwg_tabIn 96 d_register_13 (by decide) (by decide) rfl (by decide) ?_
    refine fwRun_ok k_register_96_ok rfl trivial ?_
    exact fwg_iret rfl (Nat.le_refl _) (Nat.le_refl _) ⟨by show some (Value.int (σ.1 18 4)) = _; rw [m4]; rfl, rfl, fwSame.rf⟩ d_register_103
end FST
end
section
/-! the class's calls on a new object: console, run, disk, assemble -/
abbrev aSec (t s : Int32) : Prop := ¬ (t < 0) ∧ ¬ (77 ≤ t) ∧ ¬ (s < 1) ∧ ¬ (26 < s)
abbrev aDiskOk (dr t s k : Int32) : Prop := ¬ (dr < 0) ∧ ¬ (1 < dr) ∧ ¬ (k < 0) ∧ ¬ (128 ≤ k) ∧ aSec t s
def aDisk (dr t s k m : Int32) : Int32 := if aDiskOk dr t s k then ((-27) ^^^ m).toInt8.toInt32 &&& 255 else -1
section FST
variable {l : Launch} {Z : fwZ} {e0 e1 e2 e3 : fwE} {re : List fwE} {σ : fwS}
theorem takeTold_loop {n N : Nat} {Post : fwPost} (hn : n ≤ 8000) (hN : n ≤ N) (hN2 : N < 2 ^ 31) {σ0 : fwS} (k : ∀ σ', fwSame [2] σ0 σ' → fwG l Z m_takeTold 2 0 0 Post 0 0 41 [some (.ref 4), some (.ref 2), some (.int (nI n)), some (.int (nI n))] [] (shCon e0 e1 (.inl (.byte, N)) e3 re) σ') : ∀ (q i : Nat) (σ : fwS), i + q = n → fwSame [2] σ0 σ → σ.1 4 3 = 0 → fwG l Z m_takeTold 2 0 0 Post 0 0 12 [some (.ref 4), some (.ref 2), some (.int (nI n)), some (.int (nI i))] [] (shCon e0 e1 (.inl (.byte, N)) e3 re) σ := by
  intro q
  induction q with
  | zero =>
    intro i σ hi hs h3
    obtain rfl : i = n := by omega
    refine fwRun_ok k_takeTold_12_ok rfl trivial ?_
    exact fwg_cmp 41 d_takeTold_14 (by decide) (fun _ => k σ hs) (fun h => absurd (nI_le (Nat.le_refl i) (by omega)) h)
  | succ q ih =>
    intro i σ hi hs h3
    refine fwRun_ok k_takeTold_12_ok rfl trivial ?_
    refine fwg_cmp 41 d_takeTold_14 (by decide) (fun h => absurd (show nI n ≤ nI i from h) (nI_ge (by omega) (by omega))) (fun h => ?_)
    have e : σ.1 4 3 + nI i - (σ.1 4 3 + nI i) / 8000 * 8000 = nI i := by
      rw [h3, ← nI_0, nI_add, Nat.zero_add]
      show nI i - nI i / nI 8000 * nI 8000 = nI i
      rw [pk_rem (by omega) (by decide) (by decide), Nat.mod_eq_of_lt (by omega)]
    refine fwRun_ok k_takeTold_17_ok rfl ⟨by decide, by show vp_in (σ.1 4 3 + nI i - (σ.1 4 3 + nI i) / 8000 * 8000) 8000; rw [e]; exact vp_in_nI (by omega) (by decide), vp_in_nI (by omega) hN2⟩ ?_
    refine fwg_goto 12 d_takeTold_38 (by decide) ?_
    have := ih (i + 1) (fwI σ 2 (nI i).toNatClampNeg (σ.1 5 (σ.1 4 3 + nI i - (σ.1 4 3 + nI i) / 8000 * 8000).toNatClampNeg).toInt8.toInt32) (by omega) (hs.tr (fwSame_I (by decide))) (by rw [fwI_ne (by decide)]; exact h3)
    rw [← nI_1] at this
    exact this
theorem ct_takeTold {n N : Nat} (hn : n ≤ 8000) (hN : n ≤ N) (hN2 : N < 2 ^ 31) (h3 : σ.1 4 3 = 0) (h4 : σ.1 4 4 = nI n) : fwC l Z m_takeTold 2 0 0 [.ref 4, .ref 2] (shCon e0 e1 (.inl (.byte, N)) e3 re) σ (fun w sh' σ' => w = some (.int (nI n)) ∧ sh' = shCon e0 e1 (.inl (.byte, N)) e3 re ∧ fwSame [2, 4] σ σ') := by
  refine fwC_of (ls := [some (.ref 4), some (.ref 2), none, none]) (by decide +kernel) rfl (by rw [fw_sl1]; exact Nat.le_of_ble_eq_true rfl) ?_
  refine fwRun_ok k_takeTold_0_ok rfl trivial ?_
  show fwG l Z m_takeTold _ _ _ _ _ _ 6 _ [.int (nI N), .int (σ.1 4 4)] _ _
  rw [h4]
  refine fwg_callS (n := 2) (as := [.int (nI n), .int (nI N)]) (r := []) (ct_mmin _ _) ⟨by decide, by decide, by decide +kernel⟩ m_mmin_in c_takeTold_6 rfl rfl (Nat.le_of_ble_eq_true rfl) d_takeTold_6 ⟨Nat.le_refl _, Nat.le_of_ble_eq_true rfl⟩ ⟨Nat.le_refl _, Nat.le_refl _⟩ (fun v sh' σ1 hq => ?_)
  obtain ⟨rfl, rfl, rfl⟩ := hq
  rw [if_neg (nI_nlt hN hN2)]
  refine fwRun_ok k_takeTold_9_ok rfl trivial ?_
  refine takeTold_loop (σ0 := σ1) hn hN hN2 (fun σ' hs => ?_) n 0 σ1 (by omega) fwSame.rf h3
  refine fwRun_ok k_takeTold_41_ok rfl trivial ?_
  exact fwg_iret rfl (Nat.le_refl _) (Nat.le_refl _) ⟨rfl, rfl, ((hs.up (by decide)).tr (fwSame_I (by decide))).tr (fwSame_I (by decide))⟩ d_takeTold_52
theorem ct_console (hF : Fre σ) : fwC l Z m_console 3 0 0 [.ref 0] (shMB re) σ (fun w sh' σ' => w = some (.int (nI 9)) ∧ sh' = shMB re ∧ Up σ σ') := by
  refine fwC_of (ls := [some (.ref 0)]) (by decide +kernel) rfl (by rw [fw_sl1]; exact Nat.le_refl 1) ?_
  refine fwRun_ok k_console_0_ok rfl trivial ?_
  refine fwg_callV (n := 1) (i := 4) (as := [.ref 2]) (r := [.ref 0]) (ct_takeTold (n := 9) (N := 58112) (by decide) (by decide) (by decide) hF.2.1.1 hF.2.1.2.1) ⟨by decide, by decide, by decide +kernel⟩ m_takeTold_in c_console_9 rfl rfl rfl rfl (Nat.le_of_ble_eq_true rfl) d_console_9 ⟨Nat.le_refl _, Nat.le_of_ble_eq_true rfl⟩ ⟨Nat.le_refl _, Nat.le_refl _⟩ (fun v sh' σ1 hq => ?_)
  obtain ⟨rfl, rfl, hs⟩ := hq
  refine fwRun_ok k_console_12_ok rfl trivial ?_
  refine fwg_iret rfl (Nat.le_refl _) (Nat.le_refl _) ⟨?_, rfl, (hs.up (by decide)).tr (fwSame_I (by decide))⟩ d_console_19
  show some (Value.int ((fwI σ1 0 11 (nI 9)).1 0 11)) = _
  rw [fwI_eq]
theorem ct_readLine0 (h6 : σ.1 4 6 = 0) : fwC l Z m_readLine 1 0 0 [.ref 4] (shCon e0 e1 e2 e3 re) σ (fwPure (.int 0) (shCon e0 e1 e2 e3 re) σ) := by
  refine fwC_of (ls := [some (.ref 4), none, none]) (by decide +kernel) rfl (by rw [fw_sl1]; exact Nat.le_of_ble_eq_true rfl) ?_
  refine fwRun_ok k_readLine_0_ok rfl trivial ?_
  refine fwRun_ok k_readLine_2_ok rfl trivial ?_
  refine fwg_cmp 106 d_readLine_6 (by decide) (fun q => absurd (show (2000 : Int32) ≤ 0 from q) (by decide)) (fun _ => ?_)
  refine fwRun_ok k_readLine_9_ok rfl trivial ?_
  refine fwg_if 106 d_readLine_13 (by decide) (fun q => ?_) (fun q => absurd (show σ.1 4 6 ≤ 0 by rw [h6]; decide) q)
  refine fwRun_ok k_readLine_106_ok rfl trivial ?_
  exact fwg_iret rfl (Nat.le_refl _) (Nat.le_refl _) ⟨rfl, rfl, rfl⟩ d_readLine_107
theorem ct_goOn0 (h6 : σ.1 4 6 = 0) : fwC l Z m_goOn 2 0 0 [.ref 20] (shMB re) σ (fwPure (.int 0) (shMB re) σ) := by
  refine fwC_of (ls := [some (.ref 20), none, none]) (by decide +kernel) rfl (by rw [fw_sl1]; exact Nat.le_of_ble_eq_true rfl) ?_
  refine fwRun_ok k_goOn_0_ok rfl trivial ?_
  refine fwg_callV (n := 0) (i := 4) (as := []) (r := []) (ct_readLine0 h6) ⟨by decide, by decide, by decide +kernel⟩ m_readLine_in c_goOn_4 rfl rfl rfl rfl (Nat.le_of_ble_eq_true rfl) d_goOn_4 ⟨Nat.le_refl _, Nat.le_of_ble_eq_true rfl⟩ ⟨Nat.le_refl _, Nat.le_refl _⟩ (fun v sh' σ1 hq => ?_)
  obtain ⟨rfl, rfl, rfl⟩ := hq
  refine fwRun_ok k_goOn_7_ok rfl trivial ?_
  refine fwg_if 14 d_goOn_9 (by decide) (fun q => absurd rfl q) (fun _ => ?_)
  refine fwRun_ok k_goOn_12_ok rfl trivial ?_
  exact fwg_zret rfl rfl (Nat.le_refl _) (Nat.le_refl _) ⟨rfl, rfl, rfl⟩ d_goOn_13
theorem ct_isSector {sh : List fwE} {t s : Int32} : fwC l Z m_isSector 1 0 0 [.int t, .int s] sh σ (fwPure (.int (if aSec t s then 1 else 0)) sh σ) := by
  refine fwC_of (ls := [some (.int t), some (.int s)]) (by decide +kernel) rfl (by rw [fw_sl1]; exact Nat.le_refl 2) ?_
  have k25 : ¬ aSec t s → fwG l Z m_isSector 1 0 0 (fwPure (.int (if aSec t s then 1 else 0)) sh σ) 0 0 25 [some (.int t), some (.int s)] [] sh σ := by
    intro h
    refine fwRun_ok k_isSector_25_ok rfl trivial ?_
    exact fwg_zret rfl rfl (Nat.le_refl _) (Nat.le_refl _) ⟨by rw [if_neg h], rfl, rfl⟩ d_isSector_26
  refine fwRun_ok k_isSector_0_ok rfl trivial ?_
  refine fwg_if 25 d_isSector_1 (by decide) (fun h => k25 (fun q => q.1 h)) (fun h1 => ?_)
  refine fwRun_ok k_isSector_4_ok rfl trivial ?_
  refine fwg_cmp 25 d_isSector_7 (by decide) (fun h => k25 (fun q => q.2.1 h)) (fun h2 => ?_)
  refine fwRun_ok k_isSector_10_ok rfl trivial ?_
  refine fwg_cmp 25 d_isSector_12 (by decide) (fun h => k25 (fun q => q.2.2.1 h)) (fun h3 => ?_)
  refine fwRun_ok k_isSector_15_ok rfl trivial ?_
  refine fwg_cmp 25 d_isSector_18 (by decide) (fun h => k25 (fun q => q.2.2.2 h)) (fun h4 => ?_)
  refine fwRun_ok k_isSector_21_ok rfl trivial ?_
  refine fwg_goto 26 d_isSector_22 (by decide) ?_
  exact fwg_zret rfl rfl (Nat.le_refl _) (Nat.le_refl _) ⟨by rw [if_pos (show aSec t s from ⟨h1, h2, h3, h4⟩)], rfl, rfl⟩ d_isSector_26
theorem ct_place {sh : List fwE} {dr t s : Nat} (hd : dr < 2) (ht : t < 77) (hs : 1 ≤ s ∧ s ≤ 26) : fwC l Z m_sectorPlace 1 0 0 [.int (nI dr), .int (nI t), .int (nI s)] sh σ (fwPure (.int (nI (dr * 256256 + (t * 26 + s - 1) * 128))) sh σ) := by
  refine fwC_of (ls := [some (.int (nI dr)), some (.int (nI t)), some (.int (nI s))]) (by decide +kernel) rfl (by rw [fw_sl1]; exact Nat.le_refl 3) ?_
  refine fwRun_ok k_sectorPlace_0_ok rfl trivial ?_
  refine fwg_iret rfl (Nat.le_refl _) (Nat.le_refl _) ⟨?_, rfl, rfl⟩ d_sectorPlace_17
  show some (Value.int (nI dr * nI 256256 + (nI t * nI 26 + nI s - nI 1) * nI 128)) = _
  rw [pk_mul, pk_mul, nI_add, pk_sub (by omega), pk_mul, nI_add]
end FST
end
section
/-! the class's calls on a new object: run, disk, assemble -/
section FST
variable {l : Launch} {Z : fwZ} {e0 e1 e2 e3 : fwE} {re : List fwE} {σ : fwS}
theorem fw_nat {x c : Int32} {n : Nat} (h0 : ¬ x < 0) (h : ¬ c ≤ x) (hc : c.toInt = n) (hn : n < 2 ^ 31) : ∃ j : Nat, j < n ∧ x = nI j := by
  refine vp_in_of (vp_in_iff.2 ⟨?_, ?_⟩) hn
  · have h1 : (0 : Int32).toInt ≤ x.toInt := Int.not_lt.1 (fun q => h0 (Int32.lt_iff_toInt_lt.2 q))
    exact h1
  · rw [← hc]
    exact Int.not_le.1 (fun q => h (Int32.le_iff_toInt_le.2 q))
theorem fw_lpos {n : Int32} (h : ¬ n < 1) : (0 : Int64) < 0 + n.toInt64 := by
  have h1 : (1 : Int32).toInt ≤ n.toInt := Int.not_lt.1 (fun q => h (Int32.lt_iff_toInt_lt.2 q))
  rw [Int64.zero_add]
  refine Int64.lt_iff_toInt_lt.2 ?_
  rw [Int32.toInt_toInt64]
  have h2 : (1 : Int32).toInt = 1 := by decide
  have h3 : (0 : Int64).toInt = 0 := by decide
  omega
theorem ct_run {n : Int32} (hF : Fre σ) : fwC l Z m_run 3 0 0 [.ref 0, .int n] (shMB re) σ (fun w sh' σ' => w = some (.int (aRun n)) ∧ sh' = shMB re ∧ Up σ σ') := by
  refine fwC_of (ls := [some (.ref 0), some (.int n), none, none, none]) (by decide +kernel) rfl (by rw [fw_sl1]; exact Nat.le_of_ble_eq_true rfl) ?_
  have h7 : σ.1 8 7 = 0 := hF.2.2.1.2.2.2.1
  have hl : σ.2 8 6 = 0 := hF.2.2.1.2.2.2.2
  have k11 : (n < 1 ∨ ¬ n ≤ 200000) → fwG l Z m_run 3 0 0 (fun w sh' σ' => w = some (.int (aRun n)) ∧ sh' = shMB re ∧ Up σ σ') 0 0 11 [some (.ref 0), some (.int n), none, none, none] [] (shMB re) σ := by
    intro h
    refine fwRun_ok k_run_11_ok rfl trivial ?_
    refine fwg_if 25 d_run_18 (by decide) (fun _ => ?_) (fun q => absurd h7 q)
    refine fwRun_ok k_run_25_ok rfl trivial ?_
    exact fwg_iret rfl (Nat.le_refl _) (Nat.le_refl _) ⟨by rw [aRun, if_pos h], rfl, fwSame.rf⟩ d_run_26
  refine fwRun_ok k_run_0_ok rfl trivial ?_
  refine fwg_cmp 11 d_run_2 (by decide) (fun h => k11 (Or.inl h)) (fun h => ?_)
  refine fwRun_ok k_run_5_ok rfl trivial ?_
  refine fwg_cmp 27 d_run_8 (by decide) (fun h2 => ?_) (fun h2 => k11 (Or.inr h2))
  refine fwRun_ok k_run_27_ok rfl trivial ?_
  refine fwRun_ok k_run_41_ok rfl trivial ?_
  refine fwg_cmp 134 d_run_45 (by decide) (fun q => absurd (show (1000000 : Int32) ≤ 0 from q) (by decide)) (fun _ => ?_)
  refine fwRun_ok k_run_48_ok rfl trivial ?_
  refine fwg_if 60 d_run_55 (by decide) (fun _ => ?_) (fun q => absurd h7 q)
  refine fwRun_ok k_run_60_ok rfl trivial ?_
  refine fwg_if 74 d_run_69 (by decide) (fun _ => ?_) (fun q => absurd (show lg_cmp (σ.2 8 6) (σ.2 8 6 + n.toInt64) < 0 by rw [hl]; exact (lg_cmp_lt _ _).2 (fw_lpos h)) q)
  refine fwRun_ok k_run_74_ok rfl trivial ?_
  refine fwg_if 96 d_run_81 (by decide) (fun q => absurd ((show σ.1 18 8 = 0 from q).symm.trans hF.2.2.2.2.2.2.1.1) (by decide)) (fun _ => ?_)
  refine fwRun_ok k_run_84_ok rfl trivial ?_
  refine fwg_callV (n := 0) (i := 20) (as := []) (r := []) (ct_goOn0 hF.2.1.2.2.2.1) ⟨by decide, by decide, by decide +kernel⟩ m_goOn_in c_run_88 rfl rfl rfl rfl (Nat.le_of_ble_eq_true rfl) d_run_88 ⟨Nat.le_refl _, Nat.le_of_ble_eq_true rfl⟩ ⟨Nat.le_refl _, Nat.le_refl _⟩ (fun v sh' σ1 hq => ?_)
  obtain ⟨rfl, rfl, rfl⟩ := hq
  refine fwg_if 128 d_run_91 (by decide) (fun q => absurd rfl q) (fun _ => ?_)
  refine fwRun_ok k_run_94_ok rfl trivial ?_
  exact fwg_iret rfl (Nat.le_refl _) (Nat.le_refl _) ⟨by rw [aRun, if_neg (fun q => q.elim h (fun q => q h2))], rfl, fwSame.rf⟩ d_run_95
theorem tr_pass {b p : Int32} {l3 : Option Value} {Post : fwPost} (hb : b = 0 ∨ b = 1) (h9 : σ.1 32 9 = 0) (h11 : σ.1 32 11 = -1) (k : ∀ σ', fwSame [32] σ σ' → σ'.1 32 9 = 0 → σ'.1 32 11 = -1 → σ'.1 32 13 = 256 → fwG l Z m_translate 2 0 0 Post 0 0 25 [some (.ref 32), some (.int 0), some (.int (p + 1)), some (.int 0)] [] (shMB re) σ') : fwG l Z m_translate 2 0 0 Post 0 0 49 [some (.ref 32), some (.int 0), some (.int p), l3] [.int b, .ref 32] (shMB re) σ := by
  refine fwRun_ok k_translate_49_ok rfl ⟨hb, Or.inl rfl⟩ ?_
  generalize hs : fwI (fwI (fwI (fwI (fwI σ 32 16 b) 32 10 0) 32 12 256) 32 13 256) 32 17 0 = σ1
  have q9 : σ1.1 32 9 = 0 := by rw [← hs, fwI_ne2 (by decide), fwI_ne2 (by decide), fwI_ne2 (by decide), fwI_ne2 (by decide), fwI_ne2 (by decide)]; exact h9
  have q11 : σ1.1 32 11 = -1 := by rw [← hs, fwI_ne2 (by decide), fwI_ne2 (by decide), fwI_ne2 (by decide), fwI_ne2 (by decide), fwI_ne2 (by decide)]; exact h11
  have q10 : σ1.1 32 10 = 0 := by rw [← hs, fwI_ne2 (by decide), fwI_ne2 (by decide), fwI_ne2 (by decide), fwI_eq]
  have q13 : σ1.1 32 13 = 256 := by rw [← hs, fwI_ne2 (by decide), fwI_eq]
  have hS : fwSame [32] σ σ1 := by
    rw [← hs]
    exact ((((fwSame_I (by decide)).tr (fwSame_I (by decide))).tr (fwSame_I (by decide))).tr (fwSame_I (by decide))).tr (fwSame_I (by decide))
  clear hs
  refine fwRun_ok k_translate_78_ok rfl trivial ?_
  refine fwg_cmp 129 d_translate_82 (by decide) (fun q => absurd (show (4000 : Int32) < 0 from q) (by decide)) (fun _ => ?_)
  refine fwRun_ok k_translate_85_ok rfl trivial ?_
  refine fwg_cmp 129 d_translate_93 (by decide) (fun _ => ?_) (fun q => absurd (show σ1.1 32 9 ≤ σ1.1 32 10 by rw [q9, q10]; decide) q)
  refine fwRun_ok k_translate_129_ok rfl trivial ?_
  refine fwg_goto 25 d_translate_132 (by decide) ?_
  exact k σ1 hS q9 q11 q13
theorem ct_translate0 : fwC l Z m_translate 2 0 0 [.ref 32, .int 0] (shMB re) σ (fun w sh' σ' => w = some (.int 0) ∧ sh' = shMB re ∧ fwSame [32] σ σ') := by
  refine fwC_of (ls := [some (.ref 32), some (.int 0), none, none]) (by decide +kernel) rfl (by rw [fw_sl1]; exact Nat.le_of_ble_eq_true rfl) ?_
  refine fwRun_ok k_translate_0_ok rfl trivial ?_
  refine fwg_callS (n := 2) (as := [.int 0, .int (nI 4000)]) (r := [.ref 32]) (ct_mmin _ _) ⟨by decide, by decide, by decide +kernel⟩ m_mmin_in c_translate_7 rfl rfl (Nat.le_of_ble_eq_true rfl) d_translate_7 ⟨Nat.le_refl _, Nat.le_of_ble_eq_true rfl⟩ ⟨Nat.le_refl _, Nat.le_refl _⟩ (fun v sh' σ1 hq => ?_)
  obtain ⟨rfl, rfl, rfl⟩ := hq
  rw [if_neg (show ¬ nI 4000 < 0 by decide)]
  refine fwRun_ok k_translate_10_ok rfl trivial ?_
  generalize hs : fwI (fwI (fwI σ1 32 9 0) 32 7 0) 32 11 (-1) = σ2
  have q9 : σ2.1 32 9 = 0 := by rw [← hs, fwI_ne2 (by decide), fwI_ne2 (by decide), fwI_eq]
  have q11 : σ2.1 32 11 = -1 := by rw [← hs, fwI_eq]
  have hS : fwSame [32] σ1 σ2 := by
    rw [← hs]
    exact ((fwSame_I (by decide)).tr (fwSame_I (by decide))).tr (fwSame_I (by decide))
  clear hs
  refine fwRun_ok k_translate_25_ok rfl trivial ?_
  refine fwg_cmp 135 d_translate_27 (by decide) (fun q => absurd (show (2 : Int32) < 1 from q) (by decide)) (fun _ => ?_)
  refine fwRun_ok k_translate_30_ok rfl trivial ?_
  refine fwg_cmp 135 d_translate_35 (by decide) (fun q => absurd q11 q) (fun _ => ?_)
  refine fwRun_ok k_translate_38_ok rfl trivial ?_
  refine fwg_cmp 48 d_translate_41 (by decide) (fun _ => ?_) (fun q => absurd (show ¬ (1 : Int32) = 2 by decide) q)
  refine fwRun_ok k_translate_48_ok rfl trivial ?_
  refine tr_pass (Or.inl rfl) q9 q11 (fun σ3 s3 r9 r11 r13 => ?_)
  refine fwRun_ok k_translate_25_ok rfl trivial ?_
  refine fwg_cmp 135 d_translate_27 (by decide) (fun q => absurd (show (2 : Int32) < 1 + 1 from q) (by decide)) (fun _ => ?_)
  refine fwRun_ok k_translate_30_ok rfl trivial ?_
  refine fwg_cmp 135 d_translate_35 (by decide) (fun q => absurd r11 q) (fun _ => ?_)
  refine fwRun_ok k_translate_38_ok rfl trivial ?_
  refine fwg_cmp 48 d_translate_41 (by decide) (fun q => absurd (show (1 : Int32) + 1 = 2 by decide) q) (fun _ => ?_)
  refine fwRun_ok k_translate_44_ok rfl trivial ?_
  refine fwg_goto 49 d_translate_45 (by decide) ?_
  refine tr_pass (Or.inr rfl) r9 r11 (fun σ4 s4 t9 t11 t13 => ?_)
  refine fwRun_ok k_translate_25_ok rfl trivial ?_
  refine fwg_cmp 135 d_translate_27 (by decide) (fun _ => ?_) (fun q => absurd (show (2 : Int32) < 1 + 1 + 1 by decide) q)
  refine fwRun_ok k_translate_135_ok rfl trivial ?_
  refine fwg_cmp 154 d_translate_140 (by decide) (fun q => absurd t11 q) (fun _ => ?_)
  refine fwRun_ok k_translate_143_ok rfl trivial ?_
  refine fwg_goto 160 d_translate_151 (by decide) ?_
  refine fwg_iret rfl (Nat.le_refl _) (Nat.le_refl _) ⟨?_, rfl, (hS.tr s3).tr s4⟩ d_translate_160
  show some (Value.int (σ4.1 32 13 - 256)) = _
  rw [t13]
  rfl
theorem ct_assemble (hF : Fre σ) : fwC l Z m_assemble 3 0 0 [.ref 0] (shMB re) σ (fun w sh' σ' => w = some (.int 0) ∧ sh' = shMB re ∧ Up σ σ') := by
  refine fwC_of (ls := [some (.ref 0), none]) (by decide +kernel) rfl (by rw [fw_sl1]; exact Nat.le_of_ble_eq_true rfl) ?_
  refine fwRun_ok k_assemble_0_ok rfl trivial ?_
  have h0 : σ.1 0 10 = 0 := hF.1.1
  show fwG l Z m_assemble _ _ _ _ _ _ 8 _ [.int (σ.1 0 10), .ref 32] _ _
  rw [h0]
  refine fwg_callV (n := 1) (i := 32) (as := [.int 0]) (r := []) ct_translate0 ⟨by decide, by decide, by decide +kernel⟩ m_translate_in c_assemble_8 rfl rfl rfl rfl (Nat.le_of_ble_eq_true rfl) d_assemble_8 ⟨Nat.le_refl _, Nat.le_of_ble_eq_true rfl⟩ ⟨Nat.le_refl _, Nat.le_refl _⟩ (fun v sh' σ1 hq => ?_)
  obtain ⟨rfl, rfl, s1⟩ := hq
  refine fwRun_ok k_assemble_11_ok rfl trivial ?_
  refine fwg_callS (n := 2) (as := [.int 0, .int 0]) (r := [.ref 0]) (ct_mmax _ _) ⟨by decide, by decide, by decide +kernel⟩ m_mmax_in c_assemble_20 rfl rfl (Nat.le_of_ble_eq_true rfl) d_assemble_20 ⟨Nat.le_of_ble_eq_true rfl, Nat.le_of_ble_eq_true rfl⟩ ⟨Nat.le_refl _, Nat.le_refl _⟩ (fun v sh' σ2 hq => ?_)
  obtain ⟨rfl, rfl, rfl⟩ := hq
  refine fwRun_ok k_assemble_23_ok rfl trivial ?_
  exact fwg_iret rfl (Nat.le_refl _) (Nat.le_refl _) ⟨rfl, rfl, ((s1.up (by decide)).tr (fwSame_I (by decide))).tr (fwSame_I (by decide))⟩ d_assemble_27
theorem ct_disk {dr t s k m : Int32} (hF : Fre σ) : fwC l Z m_disk 2 0 0 [.ref 0, .int dr, .int t, .int s, .int k, .int m] (shMB re) σ (fun w sh' σ' => w = some (.int (aDisk dr t s k m)) ∧ sh' = shMB re ∧ Up σ σ') := by
  refine fwC_of (ls := [some (.ref 0), some (.int dr), some (.int t), some (.int s), some (.int k), some (.int m), none]) (by decide +kernel) rfl (by rw [fw_sl1]; exact Nat.le_of_ble_eq_true rfl) ?_
  have k30 : ¬ aDiskOk dr t s k → fwG l Z m_disk 2 0 0 (fun w sh' σ' => w = some (.int (aDisk dr t s k m)) ∧ sh' = shMB re ∧ Up σ σ') 0 0 30 [some (.ref 0), some (.int dr), some (.int t), some (.int s), some (.int k), some (.int m), none] [] (shMB re) σ := by
    intro h
    refine fwRun_ok k_disk_30_ok rfl trivial ?_
    exact fwg_iret rfl (Nat.le_refl _) (Nat.le_refl _) ⟨by rw [aDisk, if_neg h], rfl, fwSame.rf⟩ d_disk_31
  refine fwRun_ok k_disk_0_ok rfl trivial ?_
  refine fwg_if 30 d_disk_1 (by decide) (fun h => k30 (fun q => q.1 h)) (fun h1 => ?_)
  refine fwRun_ok k_disk_4_ok rfl trivial ?_
  refine fwg_cmp 30 d_disk_6 (by decide) (fun h => k30 (fun q => q.2.1 h)) (fun h2 => ?_)
  refine fwRun_ok k_disk_9_ok rfl trivial ?_
  refine fwg_if 30 d_disk_11 (by decide) (fun h => k30 (fun q => q.2.2.1 h)) (fun h3 => ?_)
  refine fwRun_ok k_disk_14_ok rfl trivial ?_
  refine fwg_cmp 30 d_disk_19 (by decide) (fun h => k30 (fun q => q.2.2.2.1 h)) (fun h4 => ?_)
  refine fwRun_ok k_disk_22_ok rfl trivial ?_
  refine fwg_callS (n := 2) (as := [.int t, .int s]) (r := []) ct_isSector ⟨by decide, by decide, by decide +kernel⟩ m_isSector_in c_disk_24 rfl rfl (Nat.le_of_ble_eq_true rfl) d_disk_24 ⟨Nat.le_refl _, Nat.le_of_ble_eq_true rfl⟩ ⟨Nat.le_refl _, Nat.le_refl _⟩ (fun v sh' σ1 hq => ?_)
  obtain ⟨rfl, rfl, rfl⟩ := hq
  by_cases h5 : aSec t s
  · rw [if_pos h5]
    refine fwg_if 32 d_disk_27 (by decide) (fun _ => ?_) (fun q => absurd (show ¬ (1 : Int32) = 0 by decide) q)
    have hA : aDisk dr t s k m = ((-27) ^^^ m).toInt8.toInt32 &&& 255 := by rw [aDisk, if_pos ⟨h1, h2, h3, h4, h5⟩]
    rw [hA]
    clear k30 hA
    obtain ⟨s1, s2, s3, s4⟩ := h5
    have t0 : ¬ s < 0 := fun q => s3 (Int32.lt_trans q (by decide))
    obtain ⟨a, ha, rfl⟩ := nI_of2 (n := 1) (M := 1) (by decide) h1 (Int32.not_lt.1 h2)
    obtain ⟨b, hb, rfl⟩ := fw_nat (n := 128) h3 h4 (by decide) (by decide)
    obtain ⟨c, hc, rfl⟩ := fw_nat (n := 77) s1 s2 (by decide) (by decide)
    obtain ⟨e, he, rfl⟩ := nI_of2 (n := 26) (M := 26) (by decide) t0 (Int32.not_lt.1 s4)
    have he1 : 1 ≤ e := by
      rcases Nat.eq_zero_or_pos e with q | q
      · subst q; exact absurd (show nI 0 < 1 by decide) s3
      · exact q
    refine fwRun_ok k_disk_32_ok rfl trivial ?_
    refine fwg_callS (n := 3) (as := [.int (nI a), .int (nI c), .int (nI e)]) (r := []) (ct_place (by omega) hc ⟨he1, he⟩) ⟨by decide, by decide, by decide +kernel⟩ m_sectorPlace_in c_disk_35 rfl rfl (Nat.le_of_ble_eq_true rfl) d_disk_35 ⟨Nat.le_refl _, Nat.le_of_ble_eq_true rfl⟩ ⟨Nat.le_refl _, Nat.le_refl _⟩ (fun v sh' σ2 hq => ?_)
    obtain ⟨rfl, rfl, rfl⟩ := hq
    have hp : a * 256256 + (c * 26 + e - 1) * 128 + b < 512512 := by omega
    have hv : vp_in (nI (a * 256256 + (c * 26 + e - 1) * 128) + nI b) 512512 := by
      rw [nI_add]
      exact vp_in_nI hp (by decide)
    refine fwRun_ok k_disk_38_ok rfl ⟨hv, hv, hv⟩ ?_
    refine fwg_iret rfl (Nat.le_refl _) (Nat.le_refl _) ⟨?_, rfl, fwSame_I (by decide)⟩ d_disk_81
    show some (Value.int ((fwI σ2 12 (nI (a * 256256 + (c * 26 + e - 1) * 128) + nI b).toNatClampNeg (σ2.1 12 (nI (a * 256256 + (c * 26 + e - 1) * 128) + nI b).toNatClampNeg ^^^ m).toInt8.toInt32.toInt8.toInt32).1 12 (nI (a * 256256 + (c * 26 + e - 1) * 128) + nI b).toNatClampNeg &&& 255)) = _
    rw [fwI_eq, nI_add, nI_clamp (by omega), hF.2.2.2.2.2.2.2.1 _ hp, fw_b2]
  · rw [if_neg h5]
    exact fwg_if 32 d_disk_27 (by decide) (fun q => absurd rfl q) (fun _ => k30 (fun q => h5 q.2.2.2.2))
end FST
end
section
/-! constants at wide indices -/
theorem fw_ldcwString {p : Program} {l : Launch} {e : Env} {R : Room} {s : State} {m : MethodId} {args : Array Value} {below : List Frame} {meth : Method} {c : Code} {T : State} {locs : List Loc} {cells slots : Nat}
    (X : Stand p l e R s m args below meth c T locs cells slots) (hexec : p.tables.exec = Jvm.exec) {own text : String} {index a : Nat} (hown : s.vm.findClass own = some m.cls)
    (hconst : (Cond.stringRef own index text).before args s = true) (hev : (Term.string own index).eval args s none [] s = some (.ref a)) {g : JFrame} (hg : g.method = m) (hdg : decode c.code g.pc = .ok (.ldc_w index, 3)) :
    ∀ target, Steps p.tables e below (T.setTop { g with pc := g.pc + 3, stack := .ref a :: g.stack }) target → Steps p.tables e below (T.setTop g) target := by
  obtain ⟨k, cf, i, b, hk, hcf, hcp, -, hr, hev'⟩ := Cond.stringRef_spec hown hconst
  cases hev.symm.trans hev'
  obtain ⟨k', hk', he⟩ := X.warmed.alike.2.2 _ _ hk
  have hr' : k'.resolved[index]? = some (some (.string a)) := by
    rcases X.warmed.entry hk hk' index with h | ⟨h, -⟩
    · rw [h]; exact hr
    · rw [hr] at h; cases h
  intro target hrest
  subst hg
  jvm_step X.here [hexec, hdg, ldc_w.wp_string (e := e) (s := T) (f := g) X.here.top hk' (by rw [he]; exact hcf) hcp hr']
  exact hrest
section WID
variable {l : Launch} {Z : fwZ} {M : fwM} {d mc ms : Nat} {Post : fwPost} {nc ns pc : Nat} {ls : List (Option Value)} {st r : List Value} {sh : List fwE} {σ : fwS}
theorem fwg_ldcw {i : Nat} {v : Int32} (hm : (M.1.cls, i, v) ∈ fwKc) (hd : decode M.2.1 pc = .ok (.ldc_w i, 3)) (k : fwG l Z M d mc ms Post nc ns (pc + 3) ls (.int v :: st) sh σ) : fwG l Z M d mc ms Post nc ns pc ls st sh σ := by
  intro p e s m args below meth c H locs Ls hE hO hS hL
  exact lv_ldcw hE.1 hE.2.1 hE.2.2.2.2.1 (hE.2.2.2.2.2.1 _ (List.mem_cons_of_mem _ (fwKc_in _ (List.mem_map.mpr ⟨_, hm, rfl⟩)))) hd (k p e s m args below meth c H locs Ls hE hO hS hL)
theorem fwg_ldcwS {q : String × Nat × String × Nat} (ho : M.1.cls = q.1) (hm : q ∈ fwSr) (hd : decode M.2.1 pc = .ok (.ldc_w q.2.1, 3)) (k : fwG l Z M d mc ms Post nc ns (pc + 3) ls (.retAddr q.2.2.2 :: st) sh σ) : fwG l Z M d mc ms Post nc ns pc ls st sh σ := by
  intro p e s m args below meth c H locs Ls hE hO hS hL
  have hown : s.vm.findClass q.1 = some m.cls := by rw [← ho]; exact hE.2.2.2.2.1
  have hZ := hE.2.2.2.2.2.2.2.2.2.1.2.1 q hm
  intro T hT X
  obtain ⟨t, a1, b1⟩ := k p e s m args below meth c H locs Ls hE hO hS hL T hT X
  exact ⟨t, fw_ldcwString X hE.1 hown hZ.1 hZ.2 (g := F0 m pc Ls (st.map (fwV Z))) rfl (by rw [hE.2.1]; exact hd) t a1, b1⟩
end WID
end
section
/-! methods, their instructions, by program (wip/whole/methods.py) -/
/-- MonitorBoardModel.tell(I)V -/
abbrev m_rTell : fwM := (⟨"MonitorBoardModel", "tell", "(I)V"⟩, prog_13_method_17_code, 2, (none : Option FieldType))
theorem m_rTell_in : Cond.code m_rTell.1 m_rTell.2.1 m_rTell.2.2.1 m_rTell.2.2.2 ∈ fwT := fwT_mem (List.mem_of_getElem? (i := 1948) (by decide +kernel)) rfl
def k_rTell_0 : List fwO := [(.aload_n 0, 0, 0, .null), (.getfield 24, 1, 4, .retAddr 171), (.aload_n 0, 0, 0, .null), (.getfield 132, 1, 9, .retAddr 176), (.aload_n 0, 0, 0, .null), (.getfield 126, 1, 10, .retAddr 177), (.iadd, 0, 0, .null), (.sipush 8000, 0, 0, .int 8000), (.irem, 0, 0, .null), (.iload_n 1, 0, 0, .null), (.i2b, 0, 0, .null), (.bastore, 0, 0, .null), (.aload_n 0, 0, 0, .null), (.getfield 126, 1, 10, .retAddr 177), (.sipush 8000, 0, 0, .int 8000)]
theorem k_rTell_0_ok : fwChain m_rTell.1.cls m_rTell.2.1 0 k_rTell_0 27 = true := by decide +kernel
theorem d_rTell_27 : decode m_rTell.2.1 27 = .ok (.if_icmp .ne 20, 3) := by decide +kernel
def k_rTell_30 : List fwO := [(.aload_n 0, 0, 0, .null), (.aload_n 0, 0, 0, .null), (.getfield 132, 1, 9, .retAddr 176), (.iconst 1, 0, 0, .int 1), (.iadd, 0, 0, .null), (.sipush 8000, 0, 0, .int 8000), (.irem, 0, 0, .null), (.putfield 132, 1, 9, .retAddr 176)]
theorem k_rTell_30_ok : fwChain m_rTell.1.cls m_rTell.2.1 30 k_rTell_30 44 = true := by decide +kernel
theorem d_rTell_44 : decode m_rTell.2.1 44 = .ok (.goto 13, 3) := by decide +kernel
def k_rTell_47 : List fwO := [(.aload_n 0, 0, 0, .null), (.dup, 0, 0, .null), (.getfield 126, 1, 10, .retAddr 177), (.iconst 1, 0, 0, .int 1), (.iadd, 0, 0, .null), (.putfield 126, 1, 10, .retAddr 177)]
theorem k_rTell_47_ok : fwChain m_rTell.1.cls m_rTell.2.1 47 k_rTell_47 57 = true := by decide +kernel
theorem d_rTell_57 : decode m_rTell.2.1 57 = .ok (.return_, 1) := by decide +kernel
/-- MonitorBoardModel.newLine()V -/
abbrev m_rNewLine : fwM := (⟨"MonitorBoardModel", "newLine", "()V"⟩, prog_13_method_19_code, 1, (none : Option FieldType))
theorem m_rNewLine_in : Cond.code m_rNewLine.1 m_rNewLine.2.1 m_rNewLine.2.2.1 m_rNewLine.2.2.2 ∈ fwT := fwT_mem (List.mem_of_getElem? (i := 1944) (by decide +kernel)) rfl
def k_rNewLine_0 : List fwO := [(.aload_n 0, 0, 0, .null), (.bipush 13, 0, 0, .int 13)]
theorem k_rNewLine_0_ok : fwChain m_rNewLine.1.cls m_rNewLine.2.1 0 k_rNewLine_0 3 = true := by decide +kernel
theorem d_rNewLine_3 : decode m_rNewLine.2.1 3 = .ok (.invokevirtual 149, 3) := by decide +kernel
def k_rNewLine_6 : List fwO := [(.aload_n 0, 0, 0, .null), (.bipush 10, 0, 0, .int 10)]
theorem k_rNewLine_6_ok : fwChain m_rNewLine.1.cls m_rNewLine.2.1 6 k_rNewLine_6 9 = true := by decide +kernel
theorem d_rNewLine_9 : decode m_rNewLine.2.1 9 = .ok (.invokevirtual 149, 3) := by decide +kernel
theorem d_rNewLine_12 : decode m_rNewLine.2.1 12 = .ok (.return_, 1) := by decide +kernel
/-- MonitorBoardModel.tellText(Ljava/lang/String;)V -/
abbrev m_rTellText : fwM := (⟨"MonitorBoardModel", "tellText", "(Ljava/lang/String;)V"⟩, prog_13_method_18_code, 3, (none : Option FieldType))
theorem m_rTellText_in : Cond.code m_rTellText.1 m_rTellText.2.1 m_rTellText.2.2.1 m_rTellText.2.2.2 ∈ fwT := fwT_mem (List.mem_of_getElem? (i := 1953) (by decide +kernel)) rfl
def k_rTellText_0 : List fwO := [(.iconst 0, 0, 0, .int 0), (.istore_n 2, 0, 0, .null)]
theorem k_rTellText_0_ok : fwChain m_rTellText.1.cls m_rTellText.2.1 0 k_rTellText_0 2 = true := by decide +kernel
def k_rTellText_2 : List fwO := [(.iload_n 2, 0, 0, .null), (.aload_n 1, 0, 0, .null)]
theorem k_rTellText_2_ok : fwChain m_rTellText.1.cls m_rTellText.2.1 2 k_rTellText_2 4 = true := by decide +kernel
theorem d_rTellText_4 : decode m_rTellText.2.1 4 = .ok (.invokevirtual 140, 3) := by decide +kernel
theorem d_rTellText_7 : decode m_rTellText.2.1 7 = .ok (.if_icmp .ge 18, 3) := by decide +kernel
def k_rTellText_10 : List fwO := [(.aload_n 0, 0, 0, .null), (.aload_n 1, 0, 0, .null), (.iload_n 2, 0, 0, .null)]
theorem k_rTellText_10_ok : fwChain m_rTellText.1.cls m_rTellText.2.1 10 k_rTellText_10 13 = true := by decide +kernel
theorem d_rTellText_13 : decode m_rTellText.2.1 13 = .ok (.invokevirtual 145, 3) := by decide +kernel
theorem d_rTellText_16 : decode m_rTellText.2.1 16 = .ok (.invokevirtual 149, 3) := by decide +kernel
def k_rTellText_19 : List fwO := [(.iinc 2 1, 0, 0, .int 1)]
theorem k_rTellText_19_ok : fwChain m_rTellText.1.cls m_rTellText.2.1 19 k_rTellText_19 22 = true := by decide +kernel
theorem d_rTellText_22 : decode m_rTellText.2.1 22 = .ok (.goto (-20), 3) := by decide +kernel
theorem d_rTellText_25 : decode m_rTellText.2.1 25 = .ok (.return_, 1) := by decide +kernel
/-- MonitorBoardModel.set(II)V -/
abbrev m_rSet : fwM := (⟨"MonitorBoardModel", "set", "(II)V"⟩, prog_13_method_14_code, 3, (none : Option FieldType))
theorem m_rSet_in : Cond.code m_rSet.1 m_rSet.2.1 m_rSet.2.2.1 m_rSet.2.2.2 ∈ fwT := fwT_mem (List.mem_of_getElem? (i := 1963) (by decide +kernel)) rfl
def k_rSet_0 : List fwO := [(.iload_n 1, 0, 0, .null), (.ldc 135, 37, 0, .int 1048576)]
theorem k_rSet_0_ok : fwChain m_rSet.1.cls m_rSet.2.1 0 k_rSet_0 3 = true := by decide +kernel
theorem d_rSet_3 : decode m_rSet.2.1 3 = .ok (.if_icmp .lt 17, 3) := by decide +kernel
def k_rSet_6 : List fwO := [(.aload_n 0, 0, 0, .null), (.getfield 35, 1, 19, .retAddr 186), (.iload_n 1, 0, 0, .null), (.ldc 135, 37, 0, .int 1048576), (.isub, 0, 0, .null), (.iload_n 2, 0, 0, .null), (.i2b, 0, 0, .null), (.bastore, 0, 0, .null)]
theorem k_rSet_6_ok : fwChain m_rSet.1.cls m_rSet.2.1 6 k_rSet_6 17 = true := by decide +kernel
theorem d_rSet_17 : decode m_rSet.2.1 17 = .ok (.goto 14, 3) := by decide +kernel
def k_rSet_20 : List fwO := [(.aload_n 0, 0, 0, .null), (.getfield 10, 1, 0, .retAddr 167), (.iload_n 1, 0, 0, .null), (.ldc 111, 38, 0, .int 65535), (.iand, 0, 0, .null), (.iload_n 2, 0, 0, .null), (.i2b, 0, 0, .null), (.bastore, 0, 0, .null)]
theorem k_rSet_20_ok : fwChain m_rSet.1.cls m_rSet.2.1 20 k_rSet_20 31 = true := by decide +kernel
theorem d_rSet_31 : decode m_rSet.2.1 31 = .ok (.return_, 1) := by decide +kernel
/-- MonitorBoardModel.setWord(II)V -/
abbrev m_rSetWord : fwM := (⟨"MonitorBoardModel", "setWord", "(II)V"⟩, prog_13_method_16_code, 3, (none : Option FieldType))
theorem m_rSetWord_in : Cond.code m_rSetWord.1 m_rSetWord.2.1 m_rSetWord.2.2.1 m_rSetWord.2.2.2 ∈ fwT := fwT_mem (List.mem_of_getElem? (i := 1970) (by decide +kernel)) rfl
def k_rSetWord_0 : List fwO := [(.aload_n 0, 0, 0, .null), (.iload_n 1, 0, 0, .null), (.iload_n 2, 0, 0, .null)]
theorem k_rSetWord_0_ok : fwChain m_rSetWord.1.cls m_rSetWord.2.1 0 k_rSetWord_0 3 = true := by decide +kernel
theorem d_rSetWord_3 : decode m_rSetWord.2.1 3 = .ok (.invokevirtual 112, 3) := by decide +kernel
def k_rSetWord_6 : List fwO := [(.aload_n 0, 0, 0, .null), (.iload_n 1, 0, 0, .null), (.iconst 1, 0, 0, .int 1), (.iadd, 0, 0, .null), (.iload_n 2, 0, 0, .null), (.bipush 8, 0, 0, .int 8), (.ishr, 0, 0, .null)]
theorem k_rSetWord_6_ok : fwChain m_rSetWord.1.cls m_rSetWord.2.1 6 k_rSetWord_6 14 = true := by decide +kernel
theorem d_rSetWord_14 : decode m_rSetWord.2.1 14 = .ok (.invokevirtual 112, 3) := by decide +kernel
theorem d_rSetWord_17 : decode m_rSetWord.2.1 17 = .ok (.return_, 1) := by decide +kernel
/-- MonitorBoardModel.sectorAt(III)I -/
abbrev m_rSectorAt : fwM := (⟨"MonitorBoardModel", "sectorAt", "(III)I"⟩, prog_13_method_46_code, 4, (some FieldType.int))
theorem m_rSectorAt_in : Cond.code m_rSectorAt.1 m_rSectorAt.2.1 m_rSectorAt.2.2.1 m_rSectorAt.2.2.2 ∈ fwT := fwT_mem (List.mem_of_getElem? (i := 1991) (by decide +kernel)) rfl
def k_rSectorAt_0 : List fwO := [(.sipush 128, 0, 0, .int 128), (.bipush 77, 0, 0, .int 77), (.iload_n 1, 0, 0, .null), (.imul, 0, 0, .null), (.iload_n 2, 0, 0, .null), (.iadd, 0, 0, .null), (.bipush 26, 0, 0, .int 26), (.imul, 0, 0, .null), (.iload_n 3, 0, 0, .null), (.iadd, 0, 0, .null), (.iconst 1, 0, 0, .int 1), (.isub, 0, 0, .null), (.imul, 0, 0, .null)]
theorem k_rSectorAt_0_ok : fwChain m_rSectorAt.1.cls m_rSectorAt.2.1 0 k_rSectorAt_0 17 = true := by decide +kernel
theorem d_rSectorAt_17 : decode m_rSectorAt.2.1 17 = .ok (.ireturn, 1) := by decide +kernel
/-- MonitorBoardModel.recordAt(III)I -/
abbrev m_rRecordAt : fwM := (⟨"MonitorBoardModel", "recordAt", "(III)I"⟩, prog_13_method_47_code, 6, (some FieldType.int))
theorem m_rRecordAt_in : Cond.code m_rRecordAt.1 m_rRecordAt.2.1 m_rRecordAt.2.2.1 m_rRecordAt.2.2.2 ∈ fwT := fwT_mem (List.mem_of_getElem? (i := 1987) (by decide +kernel)) rfl
def k_rRecordAt_0 : List fwO := [(.bipush 8, 0, 0, .int 8), (.iload_n 2, 0, 0, .null), (.imul, 0, 0, .null), (.iload_n 3, 0, 0, .null), (.iadd, 0, 0, .null), (.istore 4, 0, 0, .null), (.iload 4, 0, 0, .null), (.bipush 26, 0, 0, .int 26), (.irem, 0, 0, .null), (.istore 5, 0, 0, .null), (.aload_n 0, 0, 0, .null), (.iload_n 1, 0, 0, .null), (.iconst 2, 0, 0, .int 2), (.iload 4, 0, 0, .null), (.bipush 26, 0, 0, .int 26), (.idiv, 0, 0, .null), (.iadd, 0, 0, .null), (.iconst 1, 0, 0, .int 1), (.bipush 6, 0, 0, .int 6), (.iload 5, 0, 0, .null), (.imul, 0, 0, .null), (.iload 5, 0, 0, .null), (.bipush 13, 0, 0, .int 13), (.idiv, 0, 0, .null), (.iadd, 0, 0, .null), (.bipush 26, 0, 0, .int 26), (.irem, 0, 0, .null), (.iadd, 0, 0, .null)]
theorem k_rRecordAt_0_ok : fwChain m_rRecordAt.1.cls m_rRecordAt.2.1 0 k_rRecordAt_0 40 = true := by decide +kernel
theorem d_rRecordAt_40 : decode m_rRecordAt.2.1 40 = .ok (.invokevirtual 284, 3) := by decide +kernel
theorem d_rRecordAt_43 : decode m_rRecordAt.2.1 43 = .ok (.ireturn, 1) := by decide +kernel
/-- MonitorBoardModel.entryAt(III)I -/
abbrev m_rEntryAt : fwM := (⟨"MonitorBoardModel", "entryAt", "(III)I"⟩, prog_13_method_49_code, 4, (some FieldType.int))
theorem m_rEntryAt_in : Cond.code m_rEntryAt.1 m_rEntryAt.2.1 m_rEntryAt.2.2.1 m_rEntryAt.2.2.2 ∈ fwT := fwT_mem (List.mem_of_getElem? (i := 1983) (by decide +kernel)) rfl
def k_rEntryAt_0 : List fwO := [(.aload_n 0, 0, 0, .null), (.iload_n 1, 0, 0, .null), (.iload_n 2, 0, 0, .null), (.bipush 32, 0, 0, .int 32), (.idiv, 0, 0, .null), (.iload_n 2, 0, 0, .null), (.iconst 4, 0, 0, .int 4), (.idiv, 0, 0, .null), (.bipush 8, 0, 0, .int 8), (.irem, 0, 0, .null)]
theorem k_rEntryAt_0_ok : fwChain m_rEntryAt.1.cls m_rEntryAt.2.1 0 k_rEntryAt_0 12 = true := by decide +kernel
theorem d_rEntryAt_12 : decode m_rEntryAt.2.1 12 = .ok (.invokevirtual 287, 3) := by decide +kernel
def k_rEntryAt_15 : List fwO := [(.bipush 32, 0, 0, .int 32), (.iload_n 2, 0, 0, .null), (.iconst 4, 0, 0, .int 4), (.irem, 0, 0, .null), (.imul, 0, 0, .null), (.iadd, 0, 0, .null), (.iload_n 3, 0, 0, .null), (.iadd, 0, 0, .null)]
theorem k_rEntryAt_15_ok : fwChain m_rEntryAt.1.cls m_rEntryAt.2.1 15 k_rEntryAt_15 24 = true := by decide +kernel
theorem d_rEntryAt_24 : decode m_rEntryAt.2.1 24 = .ok (.ireturn, 1) := by decide +kernel
/-- MonitorBoardModel.entry(III)I -/
abbrev m_rEntry : fwM := (⟨"MonitorBoardModel", "entry", "(III)I"⟩, prog_13_method_50_code, 4, (some FieldType.int))
theorem m_rEntry_in : Cond.code m_rEntry.1 m_rEntry.2.1 m_rEntry.2.2.1 m_rEntry.2.2.2 ∈ fwT := fwT_mem (List.mem_of_getElem? (i := 1979) (by decide +kernel)) rfl
def k_rEntry_0 : List fwO := [(.aload_n 0, 0, 0, .null), (.getfield 15, 1, 1, .retAddr 168), (.aload_n 0, 0, 0, .null), (.iload_n 1, 0, 0, .null), (.iload_n 2, 0, 0, .null), (.iload_n 3, 0, 0, .null)]
theorem k_rEntry_0_ok : fwChain m_rEntry.1.cls m_rEntry.2.1 0 k_rEntry_0 8 = true := by decide +kernel
theorem d_rEntry_8 : decode m_rEntry.2.1 8 = .ok (.invokevirtual 290, 3) := by decide +kernel
def k_rEntry_11 : List fwO := [(.baload, 0, 0, .null), (.sipush 255, 0, 0, .int 255), (.iand, 0, 0, .null)]
theorem k_rEntry_11_ok : fwChain m_rEntry.1.cls m_rEntry.2.1 11 k_rEntry_11 16 = true := by decide +kernel
theorem d_rEntry_16 : decode m_rEntry.2.1 16 = .ok (.ireturn, 1) := by decide +kernel
/-- MonitorBoardModel.login(I)V -/
abbrev m_rLogin : fwM := (⟨"MonitorBoardModel", "login", "(I)V"⟩, prog_13_method_52_code, 4, (none : Option FieldType))
theorem m_rLogin_in : Cond.code m_rLogin.1 m_rLogin.2.1 m_rLogin.2.2.1 m_rLogin.2.2.2 ∈ fwT := fwT_mem (List.mem_of_getElem? (i := 1975) (by decide +kernel)) rfl
def k_rLogin_0 : List fwO := [(.aload_n 0, 0, 0, .null), (.getfield 272, 1, 27, .retAddr 194), (.iload_n 1, 0, 0, .null), (.ishr, 0, 0, .null), (.iconst 1, 0, 0, .int 1), (.iand, 0, 0, .null), (.iconst 1, 0, 0, .int 1)]
theorem k_rLogin_0_ok : fwChain m_rLogin.1.cls m_rLogin.2.1 0 k_rLogin_0 9 = true := by decide +kernel
theorem d_rLogin_9 : decode m_rLogin.2.1 9 = .ok (.if_icmp .ne 4, 3) := by decide +kernel
theorem d_rLogin_12 : decode m_rLogin.2.1 12 = .ok (.return_, 1) := by decide +kernel
def k_rLogin_13 : List fwO := [(.aload_n 0, 0, 0, .null), (.dup, 0, 0, .null), (.getfield 272, 1, 27, .retAddr 194), (.iconst 1, 0, 0, .int 1), (.iload_n 1, 0, 0, .null), (.ishl, 0, 0, .null), (.ior, 0, 0, .null), (.putfield 272, 1, 27, .retAddr 194), (.iconst 0, 0, 0, .int 0), (.istore_n 2, 0, 0, .null)]
theorem k_rLogin_13_ok : fwChain m_rLogin.1.cls m_rLogin.2.1 13 k_rLogin_13 27 = true := by decide +kernel
def k_rLogin_27 : List fwO := [(.iload_n 2, 0, 0, .null), (.sipush 243, 0, 0, .int 243)]
theorem k_rLogin_27_ok : fwChain m_rLogin.1.cls m_rLogin.2.1 27 k_rLogin_27 31 = true := by decide +kernel
theorem d_rLogin_31 : decode m_rLogin.2.1 31 = .ok (.if_icmp .ge 31, 3) := by decide +kernel
def k_rLogin_34 : List fwO := [(.aload_n 0, 0, 0, .null), (.getfield 38, 1, 29, .retAddr 196), (.sipush 243, 0, 0, .int 243), (.iload_n 1, 0, 0, .null), (.imul, 0, 0, .null), (.iload_n 2, 0, 0, .null), (.iadd, 0, 0, .null), (.iload_n 2, 0, 0, .null), (.iconst 2, 0, 0, .int 2)]
theorem k_rLogin_34_ok : fwChain m_rLogin.1.cls m_rLogin.2.1 34 k_rLogin_34 47 = true := by decide +kernel
theorem d_rLogin_47 : decode m_rLogin.2.1 47 = .ok (.if_icmp .ge 7, 3) := by decide +kernel
def k_rLogin_50 : List fwO := [(.iconst 1, 0, 0, .int 1)]
theorem k_rLogin_50_ok : fwChain m_rLogin.1.cls m_rLogin.2.1 50 k_rLogin_50 51 = true := by decide +kernel
theorem d_rLogin_51 : decode m_rLogin.2.1 51 = .ok (.goto 4, 3) := by decide +kernel
def k_rLogin_54 : List fwO := [(.iconst 0, 0, 0, .int 0)]
theorem k_rLogin_54_ok : fwChain m_rLogin.1.cls m_rLogin.2.1 54 k_rLogin_54 55 = true := by decide +kernel
def k_rLogin_55 : List fwO := [(.bastore, 0, 0, .null), (.iinc 2 1, 0, 0, .int 1)]
theorem k_rLogin_55_ok : fwChain m_rLogin.1.cls m_rLogin.2.1 55 k_rLogin_55 59 = true := by decide +kernel
theorem d_rLogin_59 : decode m_rLogin.2.1 59 = .ok (.goto (-32), 3) := by decide +kernel
def k_rLogin_62 : List fwO := [(.iconst 0, 0, 0, .int 0), (.istore_n 2, 0, 0, .null)]
theorem k_rLogin_62_ok : fwChain m_rLogin.1.cls m_rLogin.2.1 62 k_rLogin_62 64 = true := by decide +kernel
def k_rLogin_64 : List fwO := [(.iload_n 2, 0, 0, .null), (.bipush 64, 0, 0, .int 64)]
theorem k_rLogin_64_ok : fwChain m_rLogin.1.cls m_rLogin.2.1 64 k_rLogin_64 67 = true := by decide +kernel
theorem d_rLogin_67 : decode m_rLogin.2.1 67 = .ok (.if_icmp .ge 72, 3) := by decide +kernel
def k_rLogin_70 : List fwO := [(.aload_n 0, 0, 0, .null), (.iload_n 1, 0, 0, .null), (.iload_n 2, 0, 0, .null), (.iconst 0, 0, 0, .int 0)]
theorem k_rLogin_70_ok : fwChain m_rLogin.1.cls m_rLogin.2.1 70 k_rLogin_70 74 = true := by decide +kernel
theorem d_rLogin_74 : decode m_rLogin.2.1 74 = .ok (.invokevirtual 293, 3) := by decide +kernel
def k_rLogin_77 : List fwO := [(.sipush 229, 0, 0, .int 229)]
theorem k_rLogin_77_ok : fwChain m_rLogin.1.cls m_rLogin.2.1 77 k_rLogin_77 80 = true := by decide +kernel
theorem d_rLogin_80 : decode m_rLogin.2.1 80 = .ok (.if_icmp .ne 6, 3) := by decide +kernel
theorem d_rLogin_83 : decode m_rLogin.2.1 83 = .ok (.goto 50, 3) := by decide +kernel
def k_rLogin_86 : List fwO := [(.bipush 16, 0, 0, .int 16), (.istore_n 3, 0, 0, .null)]
theorem k_rLogin_86_ok : fwChain m_rLogin.1.cls m_rLogin.2.1 86 k_rLogin_86 89 = true := by decide +kernel
def k_rLogin_89 : List fwO := [(.iload_n 3, 0, 0, .null), (.bipush 32, 0, 0, .int 32)]
theorem k_rLogin_89_ok : fwChain m_rLogin.1.cls m_rLogin.2.1 89 k_rLogin_89 92 = true := by decide +kernel
theorem d_rLogin_92 : decode m_rLogin.2.1 92 = .ok (.if_icmp .ge 41, 3) := by decide +kernel
def k_rLogin_95 : List fwO := [(.aload_n 0, 0, 0, .null), (.iload_n 1, 0, 0, .null), (.iload_n 2, 0, 0, .null), (.iload_n 3, 0, 0, .null)]
theorem k_rLogin_95_ok : fwChain m_rLogin.1.cls m_rLogin.2.1 95 k_rLogin_95 99 = true := by decide +kernel
theorem d_rLogin_99 : decode m_rLogin.2.1 99 = .ok (.invokevirtual 293, 3) := by decide +kernel
def k_rLogin_102 : List fwO := [(.sipush 243, 0, 0, .int 243)]
theorem k_rLogin_102_ok : fwChain m_rLogin.1.cls m_rLogin.2.1 102 k_rLogin_102 105 = true := by decide +kernel
theorem d_rLogin_105 : decode m_rLogin.2.1 105 = .ok (.if_icmp .ge 22, 3) := by decide +kernel
def k_rLogin_108 : List fwO := [(.aload_n 0, 0, 0, .null), (.getfield 38, 1, 29, .retAddr 196), (.sipush 243, 0, 0, .int 243), (.iload_n 1, 0, 0, .null), (.imul, 0, 0, .null), (.aload_n 0, 0, 0, .null), (.iload_n 1, 0, 0, .null), (.iload_n 2, 0, 0, .null), (.iload_n 3, 0, 0, .null)]
theorem k_rLogin_108_ok : fwChain m_rLogin.1.cls m_rLogin.2.1 108 k_rLogin_108 121 = true := by decide +kernel
theorem d_rLogin_121 : decode m_rLogin.2.1 121 = .ok (.invokevirtual 293, 3) := by decide +kernel
def k_rLogin_124 : List fwO := [(.iadd, 0, 0, .null), (.iconst 1, 0, 0, .int 1), (.bastore, 0, 0, .null)]
theorem k_rLogin_124_ok : fwChain m_rLogin.1.cls m_rLogin.2.1 124 k_rLogin_124 127 = true := by decide +kernel
def k_rLogin_127 : List fwO := [(.iinc 3 1, 0, 0, .int 1)]
theorem k_rLogin_127_ok : fwChain m_rLogin.1.cls m_rLogin.2.1 127 k_rLogin_127 130 = true := by decide +kernel
theorem d_rLogin_130 : decode m_rLogin.2.1 130 = .ok (.goto (-41), 3) := by decide +kernel
def k_rLogin_133 : List fwO := [(.iinc 2 1, 0, 0, .int 1)]
theorem k_rLogin_133_ok : fwChain m_rLogin.1.cls m_rLogin.2.1 133 k_rLogin_133 136 = true := by decide +kernel
theorem d_rLogin_136 : decode m_rLogin.2.1 136 = .ok (.goto (-72), 3) := by decide +kernel
theorem d_rLogin_139 : decode m_rLogin.2.1 139 = .ok (.return_, 1) := by decide +kernel
/-- MonitorBoardModel.forget()V -/
abbrev m_rForget : fwM := (⟨"MonitorBoardModel", "forget", "()V"⟩, prog_13_method_55_code, 1, (none : Option FieldType))
theorem m_rForget_in : Cond.code m_rForget.1 m_rForget.2.1 m_rForget.2.2.1 m_rForget.2.2.2 ∈ fwT := fwT_mem (List.mem_of_getElem? (i := 1995) (by decide +kernel)) rfl
def k_rForget_0 : List fwO := [(.aload_n 0, 0, 0, .null), (.iconst (-1), 0, 0, .int (-1)), (.putfield 48, 1, 35, .retAddr 202)]
theorem k_rForget_0_ok : fwChain m_rForget.1.cls m_rForget.2.1 0 k_rForget_0 5 = true := by decide +kernel
theorem d_rForget_5 : decode m_rForget.2.1 5 = .ok (.return_, 1) := by decide +kernel
/-- MonitorBoardModel.prompt()V -/
abbrev m_rPrompt : fwM := (⟨"MonitorBoardModel", "prompt", "()V"⟩, prog_13_method_82_code, 1, (none : Option FieldType))
theorem m_rPrompt_in : Cond.code m_rPrompt.1 m_rPrompt.2.1 m_rPrompt.2.2.1 m_rPrompt.2.2.2 ∈ fwT := fwT_mem (List.mem_of_getElem? (i := 1999) (by decide +kernel)) rfl
def k_rPrompt_0 : List fwO := [(.aload_n 0, 0, 0, .null)]
theorem k_rPrompt_0_ok : fwChain m_rPrompt.1.cls m_rPrompt.2.1 0 k_rPrompt_0 1 = true := by decide +kernel
theorem d_rPrompt_1 : decode m_rPrompt.2.1 1 = .ok (.invokevirtual 259, 3) := by decide +kernel
def k_rPrompt_4 : List fwO := [(.aload_n 0, 0, 0, .null), (.bipush 65, 0, 0, .int 65), (.aload_n 0, 0, 0, .null), (.getfield 102, 1, 21, .retAddr 188), (.iadd, 0, 0, .null)]
theorem k_rPrompt_4_ok : fwChain m_rPrompt.1.cls m_rPrompt.2.1 4 k_rPrompt_4 12 = true := by decide +kernel
theorem d_rPrompt_12 : decode m_rPrompt.2.1 12 = .ok (.invokevirtual 149, 3) := by decide +kernel
def k_rPrompt_15 : List fwO := [(.aload_n 0, 0, 0, .null), (.getfield 105, 1, 22, .retAddr 189)]
theorem k_rPrompt_15_ok : fwChain m_rPrompt.1.cls m_rPrompt.2.1 15 k_rPrompt_15 19 = true := by decide +kernel
theorem d_rPrompt_19 : decode m_rPrompt.2.1 19 = .ok (.ifCond .le 11, 3) := by decide +kernel
def k_rPrompt_22 : List fwO := [(.aload_n 0, 0, 0, .null), (.aload_n 0, 0, 0, .null), (.getfield 105, 1, 22, .retAddr 189)]
theorem k_rPrompt_22_ok : fwChain m_rPrompt.1.cls m_rPrompt.2.1 22 k_rPrompt_22 27 = true := by decide +kernel
theorem d_rPrompt_27 : decode m_rPrompt.2.1 27 = .ok (.invokevirtual 419, 3) := by decide +kernel
def k_rPrompt_30 : List fwO := [(.aload_n 0, 0, 0, .null), (.bipush 62, 0, 0, .int 62)]
theorem k_rPrompt_30_ok : fwChain m_rPrompt.1.cls m_rPrompt.2.1 30 k_rPrompt_30 33 = true := by decide +kernel
theorem d_rPrompt_33 : decode m_rPrompt.2.1 33 = .ok (.invokevirtual 149, 3) := by decide +kernel
theorem d_rPrompt_36 : decode m_rPrompt.2.1 36 = .ok (.return_, 1) := by decide +kernel
/-- MonitorBoardModel.warm()V -/
abbrev m_rWarm : fwM := (⟨"MonitorBoardModel", "warm", "()V"⟩, prog_13_method_45_code, 1, (none : Option FieldType))
theorem m_rWarm_in : Cond.code m_rWarm.1 m_rWarm.2.1 m_rWarm.2.2.1 m_rWarm.2.2.2 ∈ fwT := fwT_mem (List.mem_of_getElem? (i := 1959) (by decide +kernel)) rfl
def k_rWarm_0 : List fwO := [(.aload_n 0, 0, 0, .null), (.iconst 1, 0, 0, .int 1), (.putfield 233, 1, 20, .retAddr 187), (.aload_n 0, 0, 0, .null), (.iconst 0, 0, 0, .int 0), (.putfield 120, 1, 17, .retAddr 184), (.aload_n 0, 0, 0, .null), (.iconst 0, 0, 0, .int 0), (.sipush 195, 0, 0, .int 195)]
theorem k_rWarm_0_ok : fwChain m_rWarm.1.cls m_rWarm.2.1 0 k_rWarm_0 15 = true := by decide +kernel
theorem d_rWarm_15 : decode m_rWarm.2.1 15 = .ok (.invokevirtual 112, 3) := by decide +kernel
def k_rWarm_18 : List fwO := [(.aload_n 0, 0, 0, .null), (.iconst 1, 0, 0, .int 1)]
theorem k_rWarm_18_ok : fwChain m_rWarm.1.cls m_rWarm.2.1 18 k_rWarm_18 20 = true := by decide +kernel
theorem d_rWarm_20 : decode m_rWarm.2.1 20 = .ok (.ldc_w 271, 3) := by decide +kernel
theorem d_rWarm_23 : decode m_rWarm.2.1 23 = .ok (.invokevirtual 163, 3) := by decide +kernel
def k_rWarm_26 : List fwO := [(.aload_n 0, 0, 0, .null), (.iconst 5, 0, 0, .int 5), (.sipush 195, 0, 0, .int 195)]
theorem k_rWarm_26_ok : fwChain m_rWarm.1.cls m_rWarm.2.1 26 k_rWarm_26 31 = true := by decide +kernel
theorem d_rWarm_31 : decode m_rWarm.2.1 31 = .ok (.invokevirtual 112, 3) := by decide +kernel
def k_rWarm_34 : List fwO := [(.aload_n 0, 0, 0, .null), (.bipush 6, 0, 0, .int 6), (.ldc 232, 40, 0, .int 60934)]
theorem k_rWarm_34_ok : fwChain m_rWarm.1.cls m_rWarm.2.1 34 k_rWarm_34 39 = true := by decide +kernel
theorem d_rWarm_39 : decode m_rWarm.2.1 39 = .ok (.invokevirtual 163, 3) := by decide +kernel
def k_rWarm_42 : List fwO := [(.aload_n 0, 0, 0, .null), (.sipush 128, 0, 0, .int 128), (.putfield 108, 1, 23, .retAddr 190), (.aload_n 0, 0, 0, .null), (.iconst 0, 0, 0, .int 0), (.putfield 272, 1, 27, .retAddr 194), (.aload_n 0, 0, 0, .null), (.aload_n 0, 0, 0, .null), (.getfield 102, 1, 21, .retAddr 188)]
theorem k_rWarm_42_ok : fwChain m_rWarm.1.cls m_rWarm.2.1 42 k_rWarm_42 59 = true := by decide +kernel
theorem d_rWarm_59 : decode m_rWarm.2.1 59 = .ok (.invokevirtual 275, 3) := by decide +kernel
def k_rWarm_62 : List fwO := [(.aload_n 0, 0, 0, .null)]
theorem k_rWarm_62_ok : fwChain m_rWarm.1.cls m_rWarm.2.1 62 k_rWarm_62 63 = true := by decide +kernel
theorem d_rWarm_63 : decode m_rWarm.2.1 63 = .ok (.invokevirtual 123, 3) := by decide +kernel
def k_rWarm_66 : List fwO := [(.aload_n 0, 0, 0, .null), (.iconst 0, 0, 0, .int 0), (.putfield 278, 1, 31, .retAddr 198), (.aload_n 0, 0, 0, .null), (.iconst 1, 0, 0, .int 1), (.putfield 116, 1, 18, .retAddr 185), (.aload_n 0, 0, 0, .null)]
theorem k_rWarm_66_ok : fwChain m_rWarm.1.cls m_rWarm.2.1 66 k_rWarm_66 77 = true := by decide +kernel
theorem d_rWarm_77 : decode m_rWarm.2.1 77 = .ok (.ldc_w 271, 3) := by decide +kernel
def k_rWarm_80 : List fwO := [(.putfield 99, 1, 15, .retAddr 182), (.aload_n 0, 0, 0, .null)]
theorem k_rWarm_80_ok : fwChain m_rWarm.1.cls m_rWarm.2.1 80 k_rWarm_80 84 = true := by decide +kernel
theorem d_rWarm_84 : decode m_rWarm.2.1 84 = .ok (.invokevirtual 281, 3) := by decide +kernel
theorem d_rWarm_87 : decode m_rWarm.2.1 87 = .ok (.return_, 1) := by decide +kernel
/-- MonitorBoardModel.cold()V -/
abbrev m_rCold : fwM := (⟨"MonitorBoardModel", "cold", "()V"⟩, prog_13_method_44_code, 2, (none : Option FieldType))
theorem m_rCold_in : Cond.code m_rCold.1 m_rCold.2.1 m_rCold.2.2.1 m_rCold.2.2.2 ∈ fwT := fwT_mem (List.mem_of_getElem? (i := 1940) (by decide +kernel)) rfl
def k_rCold_0 : List fwO := [(.iconst 0, 0, 0, .int 0), (.istore_n 1, 0, 0, .null)]
theorem k_rCold_0_ok : fwChain m_rCold.1.cls m_rCold.2.1 0 k_rCold_0 2 = true := by decide +kernel
def k_rCold_2 : List fwO := [(.iload_n 1, 0, 0, .null), (.ldc 9, 33, 0, .int 65536)]
theorem k_rCold_2_ok : fwChain m_rCold.1.cls m_rCold.2.1 2 k_rCold_2 5 = true := by decide +kernel
theorem d_rCold_5 : decode m_rCold.2.1 5 = .ok (.if_icmp .ge 16, 3) := by decide +kernel
def k_rCold_8 : List fwO := [(.aload_n 0, 0, 0, .null), (.getfield 10, 1, 0, .retAddr 167), (.iload_n 1, 0, 0, .null), (.iconst 0, 0, 0, .int 0), (.bastore, 0, 0, .null), (.iinc 1 1, 0, 0, .int 1)]
theorem k_rCold_8_ok : fwChain m_rCold.1.cls m_rCold.2.1 8 k_rCold_8 18 = true := by decide +kernel
theorem d_rCold_18 : decode m_rCold.2.1 18 = .ok (.goto (-16), 3) := by decide +kernel
def k_rCold_21 : List fwO := [(.iconst 0, 0, 0, .int 0), (.istore_n 1, 0, 0, .null)]
theorem k_rCold_21_ok : fwChain m_rCold.1.cls m_rCold.2.1 21 k_rCold_21 23 = true := by decide +kernel
def k_rCold_23 : List fwO := [(.iload_n 1, 0, 0, .null), (.bipush 8, 0, 0, .int 8)]
theorem k_rCold_23_ok : fwChain m_rCold.1.cls m_rCold.2.1 23 k_rCold_23 26 = true := by decide +kernel
theorem d_rCold_26 : decode m_rCold.2.1 26 = .ok (.if_icmp .ge 16, 3) := by decide +kernel
def k_rCold_29 : List fwO := [(.aload_n 0, 0, 0, .null), (.getfield 31, 1, 12, .retAddr 179), (.iload_n 1, 0, 0, .null), (.iconst 0, 0, 0, .int 0), (.iastore, 0, 0, .null), (.iinc 1 1, 0, 0, .int 1)]
theorem k_rCold_29_ok : fwChain m_rCold.1.cls m_rCold.2.1 29 k_rCold_29 39 = true := by decide +kernel
theorem d_rCold_39 : decode m_rCold.2.1 39 = .ok (.goto (-16), 3) := by decide +kernel
def k_rCold_42 : List fwO := [(.aload_n 0, 0, 0, .null), (.iconst 0, 0, 0, .int 0), (.putfield 93, 1, 13, .retAddr 180), (.aload_n 0, 0, 0, .null), (.iconst 0, 0, 0, .int 0), (.putfield 96, 1, 14, .retAddr 181), (.aload_n 0, 0, 0, .null), (.iconst 0, 0, 0, .int 0), (.putfield 99, 1, 15, .retAddr 182), (.aload_n 0, 0, 0, .null), (.iconst 0, 0, 0, .int 0), (.putfield 120, 1, 17, .retAddr 184), (.aload_n 0, 0, 0, .null), (.iconst 0, 0, 0, .int 0), (.putfield 247, 1, 28, .retAddr 195), (.aload_n 0, 0, 0, .null), (.iconst 0, 0, 0, .int 0), (.putfield 105, 1, 22, .retAddr 189), (.aload_n 0, 0, 0, .null), (.iconst 0, 0, 0, .int 0), (.putfield 102, 1, 21, .retAddr 188), (.aload_n 0, 0, 0, .null), (.iconst 0, 0, 0, .int 0), (.putfield 83, 1, 8, .retAddr 175), (.aload_n 0, 0, 0, .null), (.iconst 0, 0, 0, .int 0), (.putfield 250, 1, 24, .retAddr 191), (.aload_n 0, 0, 0, .null), (.iconst 0, 0, 0, .int 0), (.putfield 253, 1, 25, .retAddr 192), (.aload_n 0, 0, 0, .null), (.iconst 1, 0, 0, .int 1), (.putfield 256, 1, 26, .retAddr 193), (.aload_n 0, 0, 0, .null)]
theorem k_rCold_42_ok : fwChain m_rCold.1.cls m_rCold.2.1 42 k_rCold_42 98 = true := by decide +kernel
theorem d_rCold_98 : decode m_rCold.2.1 98 = .ok (.invokevirtual 259, 3) := by decide +kernel
def k_rCold_101 : List fwO := [(.aload_n 0, 0, 0, .null)]
theorem k_rCold_101_ok : fwChain m_rCold.1.cls m_rCold.2.1 101 k_rCold_101 102 = true := by decide +kernel
theorem d_rCold_102 : decode m_rCold.2.1 102 = .ok (.ldc_w 262, 3) := by decide +kernel
theorem d_rCold_105 : decode m_rCold.2.1 105 = .ok (.invokevirtual 264, 3) := by decide +kernel
def k_rCold_108 : List fwO := [(.aload_n 0, 0, 0, .null)]
theorem k_rCold_108_ok : fwChain m_rCold.1.cls m_rCold.2.1 108 k_rCold_108 109 = true := by decide +kernel
theorem d_rCold_109 : decode m_rCold.2.1 109 = .ok (.invokevirtual 268, 3) := by decide +kernel
theorem d_rCold_112 : decode m_rCold.2.1 112 = .ok (.return_, 1) := by decide +kernel
/-- MonitorBoardModel.<init>()V -/
abbrev m_rInit : fwM := (⟨"MonitorBoardModel", "<init>", "()V"⟩, prog_13_method_1_code, 2, (none : Option FieldType))
theorem m_rInit_in : Cond.code m_rInit.1 m_rInit.2.1 m_rInit.2.2.1 m_rInit.2.2.2 ∈ fwT := fwT_mem (List.mem_of_getElem? (i := 1931) (by decide +kernel)) rfl
def k_rInit_0 : List fwO := [(.aload_n 0, 0, 0, .null)]
theorem k_rInit_0_ok : fwChain m_rInit.1.cls m_rInit.2.1 0 k_rInit_0 1 = true := by decide +kernel
theorem d_rInit_1 : decode m_rInit.2.1 1 = .ok (.invokespecial 3, 3) := by decide +kernel
def k_rInit_4 : List fwO := [(.aload_n 0, 0, 0, .null), (.ldc 9, 33, 0, .int 65536)]
theorem k_rInit_4_ok : fwChain m_rInit.1.cls m_rInit.2.1 4 k_rInit_4 7 = true := by decide +kernel
theorem d_rInit_7 : decode m_rInit.2.1 7 = .ok (.newarray .byte, 2) := by decide +kernel
theorem d_rInit_9 : decode m_rInit.2.1 9 = .ok (.putfield 10, 3) := by decide +kernel
def k_rInit_12 : List fwO := [(.aload_n 0, 0, 0, .null), (.ldc 14, 34, 0, .int 512512)]
theorem k_rInit_12_ok : fwChain m_rInit.1.cls m_rInit.2.1 12 k_rInit_12 15 = true := by decide +kernel
theorem d_rInit_15 : decode m_rInit.2.1 15 = .ok (.newarray .byte, 2) := by decide +kernel
theorem d_rInit_17 : decode m_rInit.2.1 17 = .ok (.putfield 15, 3) := by decide +kernel
def k_rInit_20 : List fwO := [(.aload_n 0, 0, 0, .null), (.sipush 4000, 0, 0, .int 4000)]
theorem k_rInit_20_ok : fwChain m_rInit.1.cls m_rInit.2.1 20 k_rInit_20 24 = true := by decide +kernel
theorem d_rInit_24 : decode m_rInit.2.1 24 = .ok (.newarray .byte, 2) := by decide +kernel
theorem d_rInit_26 : decode m_rInit.2.1 26 = .ok (.putfield 18, 3) := by decide +kernel
def k_rInit_29 : List fwO := [(.aload_n 0, 0, 0, .null), (.sipush 2000, 0, 0, .int 2000)]
theorem k_rInit_29_ok : fwChain m_rInit.1.cls m_rInit.2.1 29 k_rInit_29 33 = true := by decide +kernel
theorem d_rInit_33 : decode m_rInit.2.1 33 = .ok (.newarray .byte, 2) := by decide +kernel
theorem d_rInit_35 : decode m_rInit.2.1 35 = .ok (.putfield 21, 3) := by decide +kernel
def k_rInit_38 : List fwO := [(.aload_n 0, 0, 0, .null), (.sipush 8000, 0, 0, .int 8000)]
theorem k_rInit_38_ok : fwChain m_rInit.1.cls m_rInit.2.1 38 k_rInit_38 42 = true := by decide +kernel
theorem d_rInit_42 : decode m_rInit.2.1 42 = .ok (.newarray .byte, 2) := by decide +kernel
theorem d_rInit_44 : decode m_rInit.2.1 44 = .ok (.putfield 24, 3) := by decide +kernel
def k_rInit_47 : List fwO := [(.aload_n 0, 0, 0, .null), (.ldc 27, 35, 0, .int 70000)]
theorem k_rInit_47_ok : fwChain m_rInit.1.cls m_rInit.2.1 47 k_rInit_47 50 = true := by decide +kernel
theorem d_rInit_50 : decode m_rInit.2.1 50 = .ok (.newarray .byte, 2) := by decide +kernel
theorem d_rInit_52 : decode m_rInit.2.1 52 = .ok (.putfield 28, 3) := by decide +kernel
def k_rInit_55 : List fwO := [(.aload_n 0, 0, 0, .null), (.bipush 8, 0, 0, .int 8)]
theorem k_rInit_55_ok : fwChain m_rInit.1.cls m_rInit.2.1 55 k_rInit_55 58 = true := by decide +kernel
theorem d_rInit_58 : decode m_rInit.2.1 58 = .ok (.newarray .int, 2) := by decide +kernel
theorem d_rInit_60 : decode m_rInit.2.1 60 = .ok (.putfield 31, 3) := by decide +kernel
def k_rInit_63 : List fwO := [(.aload_n 0, 0, 0, .null), (.sipush 220, 0, 0, .int 220)]
theorem k_rInit_63_ok : fwChain m_rInit.1.cls m_rInit.2.1 63 k_rInit_63 67 = true := by decide +kernel
theorem d_rInit_67 : decode m_rInit.2.1 67 = .ok (.newarray .byte, 2) := by decide +kernel
theorem d_rInit_69 : decode m_rInit.2.1 69 = .ok (.putfield 35, 3) := by decide +kernel
def k_rInit_72 : List fwO := [(.aload_n 0, 0, 0, .null), (.sipush 486, 0, 0, .int 486)]
theorem k_rInit_72_ok : fwChain m_rInit.1.cls m_rInit.2.1 72 k_rInit_72 76 = true := by decide +kernel
theorem d_rInit_76 : decode m_rInit.2.1 76 = .ok (.newarray .boolean, 2) := by decide +kernel
theorem d_rInit_78 : decode m_rInit.2.1 78 = .ok (.putfield 38, 3) := by decide +kernel
def k_rInit_81 : List fwO := [(.aload_n 0, 0, 0, .null), (.bipush 15, 0, 0, .int 15)]
theorem k_rInit_81_ok : fwChain m_rInit.1.cls m_rInit.2.1 81 k_rInit_81 84 = true := by decide +kernel
theorem d_rInit_84 : decode m_rInit.2.1 84 = .ok (.newarray .int, 2) := by decide +kernel
def k_rInit_86 : List fwO := [(.dup, 0, 0, .null), (.iconst 0, 0, 0, .int 0), (.bipush 26, 0, 0, .int 26), (.iastore, 0, 0, .null), (.dup, 0, 0, .null), (.iconst 1, 0, 0, .int 1), (.iconst 0, 0, 0, .int 0), (.iastore, 0, 0, .null), (.dup, 0, 0, .null), (.iconst 2, 0, 0, .int 2), (.iconst 3, 0, 0, .int 3), (.iastore, 0, 0, .null), (.dup, 0, 0, .null), (.iconst 3, 0, 0, .int 3), (.bipush 7, 0, 0, .int 7), (.iastore, 0, 0, .null), (.dup, 0, 0, .null), (.iconst 4, 0, 0, .int 4), (.iconst 0, 0, 0, .int 0), (.iastore, 0, 0, .null), (.dup, 0, 0, .null), (.iconst 5, 0, 0, .int 5), (.sipush 242, 0, 0, .int 242), (.iastore, 0, 0, .null), (.dup, 0, 0, .null), (.bipush 6, 0, 0, .int 6), (.iconst 0, 0, 0, .int 0), (.iastore, 0, 0, .null), (.dup, 0, 0, .null), (.bipush 7, 0, 0, .int 7), (.bipush 63, 0, 0, .int 63), (.iastore, 0, 0, .null), (.dup, 0, 0, .null), (.bipush 8, 0, 0, .int 8), (.iconst 0, 0, 0, .int 0), (.iastore, 0, 0, .null), (.dup, 0, 0, .null), (.bipush 9, 0, 0, .int 9), (.sipush 192, 0, 0, .int 192), (.iastore, 0, 0, .null), (.dup, 0, 0, .null), (.bipush 10, 0, 0, .int 10), (.iconst 0, 0, 0, .int 0), (.iastore, 0, 0, .null), (.dup, 0, 0, .null), (.bipush 11, 0, 0, .int 11), (.bipush 16, 0, 0, .int 16), (.iastore, 0, 0, .null), (.dup, 0, 0, .null), (.bipush 12, 0, 0, .int 12), (.iconst 0, 0, 0, .int 0), (.iastore, 0, 0, .null), (.dup, 0, 0, .null), (.bipush 13, 0, 0, .int 13), (.iconst 2, 0, 0, .int 2), (.iastore, 0, 0, .null), (.dup, 0, 0, .null), (.bipush 14, 0, 0, .int 14), (.iconst 0, 0, 0, .int 0), (.iastore, 0, 0, .null)]
theorem k_rInit_86_ok : fwChain m_rInit.1.cls m_rInit.2.1 86 k_rInit_86 163 = true := by decide +kernel
theorem d_rInit_163 : decode m_rInit.2.1 163 = .ok (.putfield 42, 3) := by decide +kernel
def k_rInit_166 : List fwO := [(.aload_n 0, 0, 0, .null), (.bipush 13, 0, 0, .int 13)]
theorem k_rInit_166_ok : fwChain m_rInit.1.cls m_rInit.2.1 166 k_rInit_166 169 = true := by decide +kernel
theorem d_rInit_169 : decode m_rInit.2.1 169 = .ok (.newarray .int, 2) := by decide +kernel
theorem d_rInit_171 : decode m_rInit.2.1 171 = .ok (.putfield 45, 3) := by decide +kernel
def k_rInit_174 : List fwO := [(.aload_n 0, 0, 0, .null), (.iconst (-1), 0, 0, .int (-1)), (.putfield 48, 1, 35, .retAddr 202), (.aload_n 0, 0, 0, .null), (.sipush 256, 0, 0, .int 256)]
theorem k_rInit_174_ok : fwChain m_rInit.1.cls m_rInit.2.1 174 k_rInit_174 183 = true := by decide +kernel
theorem d_rInit_183 : decode m_rInit.2.1 183 = .ok (.newarray .byte, 2) := by decide +kernel
theorem d_rInit_185 : decode m_rInit.2.1 185 = .ok (.putfield 52, 3) := by decide +kernel
def k_rInit_188 : List fwO := [(.aload_n 0, 0, 0, .null), (.bipush 64, 0, 0, .int 64)]
theorem k_rInit_188_ok : fwChain m_rInit.1.cls m_rInit.2.1 188 k_rInit_188 191 = true := by decide +kernel
theorem d_rInit_191 : decode m_rInit.2.1 191 = .ok (.newarray .boolean, 2) := by decide +kernel
theorem d_rInit_193 : decode m_rInit.2.1 193 = .ok (.putfield 55, 3) := by decide +kernel
def k_rInit_196 : List fwO := [(.aload_n 0, 0, 0, .null), (.bipush 11, 0, 0, .int 11)]
theorem k_rInit_196_ok : fwChain m_rInit.1.cls m_rInit.2.1 196 k_rInit_196 199 = true := by decide +kernel
theorem d_rInit_199 : decode m_rInit.2.1 199 = .ok (.newarray .int, 2) := by decide +kernel
theorem d_rInit_201 : decode m_rInit.2.1 201 = .ok (.putfield 58, 3) := by decide +kernel
def k_rInit_204 : List fwO := [(.aload_n 0, 0, 0, .null), (.ldc 61, 36, 0, .int 58368)]
theorem k_rInit_204_ok : fwChain m_rInit.1.cls m_rInit.2.1 204 k_rInit_204 207 = true := by decide +kernel
theorem d_rInit_207 : decode m_rInit.2.1 207 = .ok (.newarray .byte, 2) := by decide +kernel
theorem d_rInit_209 : decode m_rInit.2.1 209 = .ok (.putfield 62, 3) := by decide +kernel
def k_rInit_212 : List fwO := [(.aload_n 0, 0, 0, .null), (.sipush 800, 0, 0, .int 800)]
theorem k_rInit_212_ok : fwChain m_rInit.1.cls m_rInit.2.1 212 k_rInit_212 216 = true := by decide +kernel
theorem d_rInit_216 : decode m_rInit.2.1 216 = .ok (.newarray .byte, 2) := by decide +kernel
theorem d_rInit_218 : decode m_rInit.2.1 218 = .ok (.putfield 65, 3) := by decide +kernel
def k_rInit_221 : List fwO := [(.aload_n 0, 0, 0, .null), (.bipush 100, 0, 0, .int 100)]
theorem k_rInit_221_ok : fwChain m_rInit.1.cls m_rInit.2.1 221 k_rInit_221 224 = true := by decide +kernel
theorem d_rInit_224 : decode m_rInit.2.1 224 = .ok (.newarray .int, 2) := by decide +kernel
theorem d_rInit_226 : decode m_rInit.2.1 226 = .ok (.putfield 68, 3) := by decide +kernel
def k_rInit_229 : List fwO := [(.aload_n 0, 0, 0, .null), (.bipush 100, 0, 0, .int 100)]
theorem k_rInit_229_ok : fwChain m_rInit.1.cls m_rInit.2.1 229 k_rInit_229 232 = true := by decide +kernel
theorem d_rInit_232 : decode m_rInit.2.1 232 = .ok (.newarray .int, 2) := by decide +kernel
theorem d_rInit_234 : decode m_rInit.2.1 234 = .ok (.putfield 71, 3) := by decide +kernel
def k_rInit_237 : List fwO := [(.aload_n 0, 0, 0, .null), (.bipush 10, 0, 0, .int 10)]
theorem k_rInit_237_ok : fwChain m_rInit.1.cls m_rInit.2.1 237 k_rInit_237 240 = true := by decide +kernel
theorem d_rInit_240 : decode m_rInit.2.1 240 = .ok (.newarray .byte, 2) := by decide +kernel
theorem d_rInit_242 : decode m_rInit.2.1 242 = .ok (.putfield 74, 3) := by decide +kernel
def k_rInit_245 : List fwO := [(.iconst 0, 0, 0, .int 0), (.istore_n 1, 0, 0, .null)]
theorem k_rInit_245_ok : fwChain m_rInit.1.cls m_rInit.2.1 245 k_rInit_245 247 = true := by decide +kernel
def k_rInit_247 : List fwO := [(.iload_n 1, 0, 0, .null), (.ldc 14, 34, 0, .int 512512)]
theorem k_rInit_247_ok : fwChain m_rInit.1.cls m_rInit.2.1 247 k_rInit_247 250 = true := by decide +kernel
theorem d_rInit_250 : decode m_rInit.2.1 250 = .ok (.if_icmp .ge 17, 3) := by decide +kernel
def k_rInit_253 : List fwO := [(.aload_n 0, 0, 0, .null), (.getfield 15, 1, 1, .retAddr 168), (.iload_n 1, 0, 0, .null), (.bipush (-27), 0, 0, .int (-27)), (.bastore, 0, 0, .null), (.iinc 1 1, 0, 0, .int 1)]
theorem k_rInit_253_ok : fwChain m_rInit.1.cls m_rInit.2.1 253 k_rInit_253 264 = true := by decide +kernel
theorem d_rInit_264 : decode m_rInit.2.1 264 = .ok (.goto (-17), 3) := by decide +kernel
def k_rInit_267 : List fwO := [(.aload_n 0, 0, 0, .null)]
theorem k_rInit_267_ok : fwChain m_rInit.1.cls m_rInit.2.1 267 k_rInit_267 268 = true := by decide +kernel
theorem d_rInit_268 : decode m_rInit.2.1 268 = .ok (.invokevirtual 77, 3) := by decide +kernel
theorem d_rInit_271 : decode m_rInit.2.1 271 = .ok (.return_, 1) := by decide +kernel
/-- MonitorBoardModel.feed(IIIII)Z -/
abbrev m_rFeed : fwM := (⟨"MonitorBoardModel", "feed", "(IIIII)Z"⟩, prog_13_method_2_code, 8, (some FieldType.boolean))
theorem m_rFeed_in : Cond.code m_rFeed.1 m_rFeed.2.1 m_rFeed.2.2.1 m_rFeed.2.2.2 ∈ fwT := fwT_mem (List.mem_of_getElem? (i := 2245) (by decide +kernel)) rfl
def k_rFeed_0 : List fwO := [(.aload_n 0, 0, 0, .null), (.getfield 80, 1, 6, .retAddr 173), (.bipush 20, 0, 0, .int 20), (.iadd, 0, 0, .null), (.sipush 4000, 0, 0, .int 4000)]
theorem k_rFeed_0_ok : fwChain m_rFeed.1.cls m_rFeed.2.1 0 k_rFeed_0 10 = true := by decide +kernel
theorem d_rFeed_10 : decode m_rFeed.2.1 10 = .ok (.if_icmp .le 5, 3) := by decide +kernel
def k_rFeed_13 : List fwO := [(.iconst 0, 0, 0, .int 0)]
theorem k_rFeed_13_ok : fwChain m_rFeed.1.cls m_rFeed.2.1 13 k_rFeed_13 14 = true := by decide +kernel
theorem d_rFeed_14 : decode m_rFeed.2.1 14 = .ok (.ireturn, 1) := by decide +kernel
def k_rFeed_15 : List fwO := [(.iconst 0, 0, 0, .int 0), (.istore 6, 0, 0, .null)]
theorem k_rFeed_15_ok : fwChain m_rFeed.1.cls m_rFeed.2.1 15 k_rFeed_15 18 = true := by decide +kernel
def k_rFeed_18 : List fwO := [(.iload 6, 0, 0, .null), (.bipush 20, 0, 0, .int 20)]
theorem k_rFeed_18_ok : fwChain m_rFeed.1.cls m_rFeed.2.1 18 k_rFeed_18 22 = true := by decide +kernel
theorem d_rFeed_22 : decode m_rFeed.2.1 22 = .ok (.if_icmp .ge 90, 3) := by decide +kernel
def k_rFeed_25 : List fwO := [(.iload 6, 0, 0, .null), (.iconst 4, 0, 0, .int 4)]
theorem k_rFeed_25_ok : fwChain m_rFeed.1.cls m_rFeed.2.1 25 k_rFeed_25 28 = true := by decide +kernel
theorem d_rFeed_28 : decode m_rFeed.2.1 28 = .ok (.if_icmp .ge 7, 3) := by decide +kernel
def k_rFeed_31 : List fwO := [(.iload_n 1, 0, 0, .null)]
theorem k_rFeed_31_ok : fwChain m_rFeed.1.cls m_rFeed.2.1 31 k_rFeed_31 32 = true := by decide +kernel
theorem d_rFeed_32 : decode m_rFeed.2.1 32 = .ok (.goto 39, 3) := by decide +kernel
def k_rFeed_35 : List fwO := [(.iload 6, 0, 0, .null), (.bipush 8, 0, 0, .int 8)]
theorem k_rFeed_35_ok : fwChain m_rFeed.1.cls m_rFeed.2.1 35 k_rFeed_35 39 = true := by decide +kernel
theorem d_rFeed_39 : decode m_rFeed.2.1 39 = .ok (.if_icmp .ge 7, 3) := by decide +kernel
def k_rFeed_42 : List fwO := [(.iload_n 2, 0, 0, .null)]
theorem k_rFeed_42_ok : fwChain m_rFeed.1.cls m_rFeed.2.1 42 k_rFeed_42 43 = true := by decide +kernel
theorem d_rFeed_43 : decode m_rFeed.2.1 43 = .ok (.goto 28, 3) := by decide +kernel
def k_rFeed_46 : List fwO := [(.iload 6, 0, 0, .null), (.bipush 12, 0, 0, .int 12)]
theorem k_rFeed_46_ok : fwChain m_rFeed.1.cls m_rFeed.2.1 46 k_rFeed_46 50 = true := by decide +kernel
theorem d_rFeed_50 : decode m_rFeed.2.1 50 = .ok (.if_icmp .ge 7, 3) := by decide +kernel
def k_rFeed_53 : List fwO := [(.iload_n 3, 0, 0, .null)]
theorem k_rFeed_53_ok : fwChain m_rFeed.1.cls m_rFeed.2.1 53 k_rFeed_53 54 = true := by decide +kernel
theorem d_rFeed_54 : decode m_rFeed.2.1 54 = .ok (.goto 17, 3) := by decide +kernel
def k_rFeed_57 : List fwO := [(.iload 6, 0, 0, .null), (.bipush 16, 0, 0, .int 16)]
theorem k_rFeed_57_ok : fwChain m_rFeed.1.cls m_rFeed.2.1 57 k_rFeed_57 61 = true := by decide +kernel
theorem d_rFeed_61 : decode m_rFeed.2.1 61 = .ok (.if_icmp .ge 8, 3) := by decide +kernel
def k_rFeed_64 : List fwO := [(.iload 4, 0, 0, .null)]
theorem k_rFeed_64_ok : fwChain m_rFeed.1.cls m_rFeed.2.1 64 k_rFeed_64 66 = true := by decide +kernel
theorem d_rFeed_66 : decode m_rFeed.2.1 66 = .ok (.goto 5, 3) := by decide +kernel
def k_rFeed_69 : List fwO := [(.iload 5, 0, 0, .null)]
theorem k_rFeed_69_ok : fwChain m_rFeed.1.cls m_rFeed.2.1 69 k_rFeed_69 71 = true := by decide +kernel
def k_rFeed_71 : List fwO := [(.istore 7, 0, 0, .null), (.aload_n 0, 0, 0, .null), (.getfield 18, 1, 2, .retAddr 169), (.aload_n 0, 0, 0, .null), (.getfield 80, 1, 6, .retAddr 173), (.iload 7, 0, 0, .null), (.bipush 24, 0, 0, .int 24), (.bipush 8, 0, 0, .int 8), (.iload 6, 0, 0, .null), (.iconst 4, 0, 0, .int 4), (.irem, 0, 0, .null), (.imul, 0, 0, .null), (.isub, 0, 0, .null), (.ishr, 0, 0, .null), (.i2b, 0, 0, .null), (.bastore, 0, 0, .null), (.aload_n 0, 0, 0, .null), (.dup, 0, 0, .null), (.getfield 80, 1, 6, .retAddr 173), (.iconst 1, 0, 0, .int 1), (.iadd, 0, 0, .null), (.putfield 80, 1, 6, .retAddr 173), (.iinc 6 1, 0, 0, .int 1)]
theorem k_rFeed_71_ok : fwChain m_rFeed.1.cls m_rFeed.2.1 71 k_rFeed_71 109 = true := by decide +kernel
theorem d_rFeed_109 : decode m_rFeed.2.1 109 = .ok (.goto (-91), 3) := by decide +kernel
def k_rFeed_112 : List fwO := [(.iconst 1, 0, 0, .int 1)]
theorem k_rFeed_112_ok : fwChain m_rFeed.1.cls m_rFeed.2.1 112 k_rFeed_112 113 = true := by decide +kernel
theorem d_rFeed_113 : decode m_rFeed.2.1 113 = .ok (.ireturn, 1) := by decide +kernel
/-- MonitorBoardModel.end(I)Z -/
abbrev m_rEnd : fwM := (⟨"MonitorBoardModel", "end", "(I)Z"⟩, prog_13_method_3_code, 2, (some FieldType.boolean))
theorem m_rEnd_in : Cond.code m_rEnd.1 m_rEnd.2.1 m_rEnd.2.2.1 m_rEnd.2.2.2 ∈ fwT := fwT_mem (List.mem_of_getElem? (i := 2249) (by decide +kernel)) rfl
def k_rEnd_0 : List fwO := [(.iload_n 1, 0, 0, .null)]
theorem k_rEnd_0_ok : fwChain m_rEnd.1.cls m_rEnd.2.1 0 k_rEnd_0 1 = true := by decide +kernel
theorem d_rEnd_1 : decode m_rEnd.2.1 1 = .ok (.ifCond .lt 11, 3) := by decide +kernel
def k_rEnd_4 : List fwO := [(.iload_n 1, 0, 0, .null), (.aload_n 0, 0, 0, .null), (.getfield 80, 1, 6, .retAddr 173)]
theorem k_rEnd_4_ok : fwChain m_rEnd.1.cls m_rEnd.2.1 4 k_rEnd_4 9 = true := by decide +kernel
theorem d_rEnd_9 : decode m_rEnd.2.1 9 = .ok (.if_icmp .le 5, 3) := by decide +kernel
def k_rEnd_12 : List fwO := [(.iconst 0, 0, 0, .int 0)]
theorem k_rEnd_12_ok : fwChain m_rEnd.1.cls m_rEnd.2.1 12 k_rEnd_12 13 = true := by decide +kernel
theorem d_rEnd_13 : decode m_rEnd.2.1 13 = .ok (.ireturn, 1) := by decide +kernel
def k_rEnd_14 : List fwO := [(.aload_n 0, 0, 0, .null), (.iload_n 1, 0, 0, .null), (.putfield 80, 1, 6, .retAddr 173), (.iconst 1, 0, 0, .int 1)]
theorem k_rEnd_14_ok : fwChain m_rEnd.1.cls m_rEnd.2.1 14 k_rEnd_14 20 = true := by decide +kernel
theorem d_rEnd_20 : decode m_rEnd.2.1 20 = .ok (.ireturn, 1) := by decide +kernel
/-- MonitorBoardModel.keys()I -/
abbrev m_rKeys : fwM := (⟨"MonitorBoardModel", "keys", "()I"⟩, prog_13_method_4_code, 2, (some FieldType.int))
theorem m_rKeys_in : Cond.code m_rKeys.1 m_rKeys.2.1 m_rKeys.2.2.1 m_rKeys.2.2.2 ∈ fwT := fwT_mem (List.mem_of_getElem? (i := 2253) (by decide +kernel)) rfl
def k_rKeys_0 : List fwO := [(.aload_n 0, 0, 0, .null), (.getfield 83, 1, 8, .retAddr 175), (.aload_n 0, 0, 0, .null), (.getfield 80, 1, 6, .retAddr 173), (.iadd, 0, 0, .null), (.sipush 2000, 0, 0, .int 2000)]
theorem k_rKeys_0_ok : fwChain m_rKeys.1.cls m_rKeys.2.1 0 k_rKeys_0 12 = true := by decide +kernel
theorem d_rKeys_12 : decode m_rKeys.2.1 12 = .ok (.if_icmp .le 5, 3) := by decide +kernel
def k_rKeys_15 : List fwO := [(.iconst (-1), 0, 0, .int (-1))]
theorem k_rKeys_15_ok : fwChain m_rKeys.1.cls m_rKeys.2.1 15 k_rKeys_15 16 = true := by decide +kernel
theorem d_rKeys_16 : decode m_rKeys.2.1 16 = .ok (.ireturn, 1) := by decide +kernel
def k_rKeys_17 : List fwO := [(.iconst 0, 0, 0, .int 0), (.istore_n 1, 0, 0, .null)]
theorem k_rKeys_17_ok : fwChain m_rKeys.1.cls m_rKeys.2.1 17 k_rKeys_17 19 = true := by decide +kernel
def k_rKeys_19 : List fwO := [(.iload_n 1, 0, 0, .null), (.aload_n 0, 0, 0, .null), (.getfield 80, 1, 6, .retAddr 173)]
theorem k_rKeys_19_ok : fwChain m_rKeys.1.cls m_rKeys.2.1 19 k_rKeys_19 24 = true := by decide +kernel
theorem d_rKeys_24 : decode m_rKeys.2.1 24 = .ok (.if_icmp .ge 35, 3) := by decide +kernel
def k_rKeys_27 : List fwO := [(.aload_n 0, 0, 0, .null), (.getfield 21, 1, 3, .retAddr 170), (.aload_n 0, 0, 0, .null), (.getfield 86, 1, 7, .retAddr 174), (.aload_n 0, 0, 0, .null), (.getfield 83, 1, 8, .retAddr 175), (.iadd, 0, 0, .null), (.iload_n 1, 0, 0, .null), (.iadd, 0, 0, .null), (.sipush 2000, 0, 0, .int 2000), (.irem, 0, 0, .null), (.aload_n 0, 0, 0, .null), (.getfield 18, 1, 2, .retAddr 169), (.iload_n 1, 0, 0, .null), (.baload, 0, 0, .null), (.bastore, 0, 0, .null), (.iinc 1 1, 0, 0, .int 1)]
theorem k_rKeys_27_ok : fwChain m_rKeys.1.cls m_rKeys.2.1 27 k_rKeys_27 56 = true := by decide +kernel
theorem d_rKeys_56 : decode m_rKeys.2.1 56 = .ok (.goto (-37), 3) := by decide +kernel
def k_rKeys_59 : List fwO := [(.aload_n 0, 0, 0, .null), (.dup, 0, 0, .null), (.getfield 83, 1, 8, .retAddr 175), (.aload_n 0, 0, 0, .null), (.getfield 80, 1, 6, .retAddr 173), (.iadd, 0, 0, .null), (.putfield 83, 1, 8, .retAddr 175), (.aload_n 0, 0, 0, .null), (.iconst 0, 0, 0, .int 0), (.putfield 80, 1, 6, .retAddr 173), (.aload_n 0, 0, 0, .null), (.getfield 83, 1, 8, .retAddr 175)]
theorem k_rKeys_59_ok : fwChain m_rKeys.1.cls m_rKeys.2.1 59 k_rKeys_59 81 = true := by decide +kernel
theorem d_rKeys_81 : decode m_rKeys.2.1 81 = .ok (.ireturn, 1) := by decide +kernel
/-- MonitorBoardModel.states()J -/
abbrev m_rStates : fwM := (⟨"MonitorBoardModel", "states", "()J"⟩, prog_13_method_5_code, 1, (some FieldType.long))
theorem m_rStates_in : Cond.code m_rStates.1 m_rStates.2.1 m_rStates.2.2.1 m_rStates.2.2.2 ∈ fwT := fwT_mem (List.mem_of_getElem? (i := 2257) (by decide +kernel)) rfl
def k_rStates_0 : List fwO := [(.aload_n 0, 0, 0, .null), (.getfield 89, 1, 16, .retAddr 183)]
theorem k_rStates_0_ok : fwChain m_rStates.1.cls m_rStates.2.1 0 k_rStates_0 4 = true := by decide +kernel
theorem d_rStates_4 : decode m_rStates.2.1 4 = .ok (.lreturn, 1) := by decide +kernel
/-- MonitorBoardModel.register(I)I -/
abbrev m_rRegister : fwM := (⟨"MonitorBoardModel", "register", "(I)I"⟩, prog_13_method_6_code, 2, (some FieldType.int))
theorem m_rRegister_in : Cond.code m_rRegister.1 m_rRegister.2.1 m_rRegister.2.2.1 m_rRegister.2.2.2 ∈ fwT := fwT_mem (List.mem_of_getElem? (i := 2261) (by decide +kernel)) rfl
def k_rRegister_0 : List fwO := [(.iload_n 1, 0, 0, .null)]
theorem k_rRegister_0_ok : fwChain m_rRegister.1.cls m_rRegister.2.1 0 k_rRegister_0 1 = true := by decide +kernel
theorem d_rRegister_1 : decode m_rRegister.2.1 1 = .ok (.tableswitch 75 6 12 #[43, 75, 50, 55, 60, 65, 70], 43) := by decide +kernel
def k_rRegister_44 : List fwO := [(.aload_n 0, 0, 0, .null), (.getfield 93, 1, 13, .retAddr 180), (.iconst 2, 0, 0, .int 2), (.ior, 0, 0, .null)]
theorem k_rRegister_44_ok : fwChain m_rRegister.1.cls m_rRegister.2.1 44 k_rRegister_44 50 = true := by decide +kernel
theorem d_rRegister_50 : decode m_rRegister.2.1 50 = .ok (.ireturn, 1) := by decide +kernel
def k_rRegister_51 : List fwO := [(.aload_n 0, 0, 0, .null), (.getfield 96, 1, 14, .retAddr 181)]
theorem k_rRegister_51_ok : fwChain m_rRegister.1.cls m_rRegister.2.1 51 k_rRegister_51 55 = true := by decide +kernel
theorem d_rRegister_55 : decode m_rRegister.2.1 55 = .ok (.ireturn, 1) := by decide +kernel
def k_rRegister_56 : List fwO := [(.aload_n 0, 0, 0, .null), (.getfield 99, 1, 15, .retAddr 182)]
theorem k_rRegister_56_ok : fwChain m_rRegister.1.cls m_rRegister.2.1 56 k_rRegister_56 60 = true := by decide +kernel
theorem d_rRegister_60 : decode m_rRegister.2.1 60 = .ok (.ireturn, 1) := by decide +kernel
def k_rRegister_61 : List fwO := [(.aload_n 0, 0, 0, .null), (.getfield 102, 1, 21, .retAddr 188)]
theorem k_rRegister_61_ok : fwChain m_rRegister.1.cls m_rRegister.2.1 61 k_rRegister_61 65 = true := by decide +kernel
theorem d_rRegister_65 : decode m_rRegister.2.1 65 = .ok (.ireturn, 1) := by decide +kernel
def k_rRegister_66 : List fwO := [(.aload_n 0, 0, 0, .null), (.getfield 105, 1, 22, .retAddr 189)]
theorem k_rRegister_66_ok : fwChain m_rRegister.1.cls m_rRegister.2.1 66 k_rRegister_66 70 = true := by decide +kernel
theorem d_rRegister_70 : decode m_rRegister.2.1 70 = .ok (.ireturn, 1) := by decide +kernel
def k_rRegister_71 : List fwO := [(.aload_n 0, 0, 0, .null), (.getfield 108, 1, 23, .retAddr 190)]
theorem k_rRegister_71_ok : fwChain m_rRegister.1.cls m_rRegister.2.1 71 k_rRegister_71 75 = true := by decide +kernel
theorem d_rRegister_75 : decode m_rRegister.2.1 75 = .ok (.ireturn, 1) := by decide +kernel
def k_rRegister_76 : List fwO := [(.iload_n 1, 0, 0, .null)]
theorem k_rRegister_76_ok : fwChain m_rRegister.1.cls m_rRegister.2.1 76 k_rRegister_76 77 = true := by decide +kernel
theorem d_rRegister_77 : decode m_rRegister.2.1 77 = .ok (.ifCond .lt 18, 3) := by decide +kernel
def k_rRegister_80 : List fwO := [(.iload_n 1, 0, 0, .null), (.bipush 8, 0, 0, .int 8)]
theorem k_rRegister_80_ok : fwChain m_rRegister.1.cls m_rRegister.2.1 80 k_rRegister_80 83 = true := by decide +kernel
theorem d_rRegister_83 : decode m_rRegister.2.1 83 = .ok (.if_icmp .ge 12, 3) := by decide +kernel
def k_rRegister_86 : List fwO := [(.aload_n 0, 0, 0, .null), (.getfield 31, 1, 12, .retAddr 179), (.iload_n 1, 0, 0, .null), (.iaload, 0, 0, .null)]
theorem k_rRegister_86_ok : fwChain m_rRegister.1.cls m_rRegister.2.1 86 k_rRegister_86 92 = true := by decide +kernel
theorem d_rRegister_92 : decode m_rRegister.2.1 92 = .ok (.goto 4, 3) := by decide +kernel
def k_rRegister_95 : List fwO := [(.iconst (-1), 0, 0, .int (-1))]
theorem k_rRegister_95_ok : fwChain m_rRegister.1.cls m_rRegister.2.1 95 k_rRegister_95 96 = true := by decide +kernel
theorem d_rRegister_96 : decode m_rRegister.2.1 96 = .ok (.ireturn, 1) := by decide +kernel
/-- MonitorBoardModel.memory(I)I -/
abbrev m_rMemory : fwM := (⟨"MonitorBoardModel", "memory", "(I)I"⟩, prog_13_method_7_code, 2, (some FieldType.int))
theorem m_rMemory_in : Cond.code m_rMemory.1 m_rMemory.2.1 m_rMemory.2.2.1 m_rMemory.2.2.2 ∈ fwT := fwT_mem (List.mem_of_getElem? (i := 2265) (by decide +kernel)) rfl
def k_rMemory_0 : List fwO := [(.iload_n 1, 0, 0, .null)]
theorem k_rMemory_0_ok : fwChain m_rMemory.1.cls m_rMemory.2.1 0 k_rMemory_0 1 = true := by decide +kernel
theorem d_rMemory_1 : decode m_rMemory.2.1 1 = .ok (.ifCond .lt 22, 3) := by decide +kernel
def k_rMemory_4 : List fwO := [(.iload_n 1, 0, 0, .null), (.ldc 9, 33, 0, .int 65536)]
theorem k_rMemory_4_ok : fwChain m_rMemory.1.cls m_rMemory.2.1 4 k_rMemory_4 7 = true := by decide +kernel
theorem d_rMemory_7 : decode m_rMemory.2.1 7 = .ok (.if_icmp .ge 16, 3) := by decide +kernel
def k_rMemory_10 : List fwO := [(.aload_n 0, 0, 0, .null), (.getfield 10, 1, 0, .retAddr 167), (.iload_n 1, 0, 0, .null), (.baload, 0, 0, .null), (.sipush 255, 0, 0, .int 255), (.iand, 0, 0, .null)]
theorem k_rMemory_10_ok : fwChain m_rMemory.1.cls m_rMemory.2.1 10 k_rMemory_10 20 = true := by decide +kernel
theorem d_rMemory_20 : decode m_rMemory.2.1 20 = .ok (.goto 4, 3) := by decide +kernel
def k_rMemory_23 : List fwO := [(.iconst (-1), 0, 0, .int (-1))]
theorem k_rMemory_23_ok : fwChain m_rMemory.1.cls m_rMemory.2.1 23 k_rMemory_23 24 = true := by decide +kernel
theorem d_rMemory_24 : decode m_rMemory.2.1 24 = .ok (.ireturn, 1) := by decide +kernel
/-- MonitorBoardModel.load(I)V -/
abbrev m_rLoad : fwM := (⟨"MonitorBoardModel", "load", "(I)V"⟩, prog_13_method_8_code, 4, (none : Option FieldType))
theorem m_rLoad_in : Cond.code m_rLoad.1 m_rLoad.2.1 m_rLoad.2.2.1 m_rLoad.2.2.2 ∈ fwT := fwT_mem (List.mem_of_getElem? (i := 2269) (by decide +kernel)) rfl
def k_rLoad_0 : List fwO := [(.iload_n 1, 0, 0, .null), (.ldc 111, 38, 0, .int 65535), (.iand, 0, 0, .null), (.istore_n 2, 0, 0, .null), (.iconst 0, 0, 0, .int 0), (.istore_n 3, 0, 0, .null)]
theorem k_rLoad_0_ok : fwChain m_rLoad.1.cls m_rLoad.2.1 0 k_rLoad_0 7 = true := by decide +kernel
def k_rLoad_7 : List fwO := [(.iload_n 3, 0, 0, .null), (.aload_n 0, 0, 0, .null), (.getfield 80, 1, 6, .retAddr 173)]
theorem k_rLoad_7_ok : fwChain m_rLoad.1.cls m_rLoad.2.1 7 k_rLoad_7 12 = true := by decide +kernel
theorem d_rLoad_12 : decode m_rLoad.2.1 12 = .ok (.if_icmp .ge 22, 3) := by decide +kernel
def k_rLoad_15 : List fwO := [(.aload_n 0, 0, 0, .null), (.iload_n 2, 0, 0, .null), (.iload_n 3, 0, 0, .null), (.iadd, 0, 0, .null), (.aload_n 0, 0, 0, .null), (.getfield 18, 1, 2, .retAddr 169), (.iload_n 3, 0, 0, .null), (.baload, 0, 0, .null)]
theorem k_rLoad_15_ok : fwChain m_rLoad.1.cls m_rLoad.2.1 15 k_rLoad_15 25 = true := by decide +kernel
theorem d_rLoad_25 : decode m_rLoad.2.1 25 = .ok (.invokevirtual 112, 3) := by decide +kernel
def k_rLoad_28 : List fwO := [(.iinc 3 1, 0, 0, .int 1)]
theorem k_rLoad_28_ok : fwChain m_rLoad.1.cls m_rLoad.2.1 28 k_rLoad_28 31 = true := by decide +kernel
theorem d_rLoad_31 : decode m_rLoad.2.1 31 = .ok (.goto (-24), 3) := by decide +kernel
def k_rLoad_34 : List fwO := [(.aload_n 0, 0, 0, .null), (.iconst 0, 0, 0, .int 0), (.putfield 80, 1, 6, .retAddr 173)]
theorem k_rLoad_34_ok : fwChain m_rLoad.1.cls m_rLoad.2.1 34 k_rLoad_34 39 = true := by decide +kernel
theorem d_rLoad_39 : decode m_rLoad.2.1 39 = .ok (.return_, 1) := by decide +kernel
/-- MonitorBoardModel.jump(I)V -/
abbrev m_rJump : fwM := (⟨"MonitorBoardModel", "jump", "(I)V"⟩, prog_13_method_9_code, 2, (none : Option FieldType))
theorem m_rJump_in : Cond.code m_rJump.1 m_rJump.2.1 m_rJump.2.2.1 m_rJump.2.2.2 ∈ fwT := fwT_mem (List.mem_of_getElem? (i := 2273) (by decide +kernel)) rfl
def k_rJump_0 : List fwO := [(.aload_n 0, 0, 0, .null), (.iload_n 1, 0, 0, .null), (.ldc 111, 38, 0, .int 65535), (.iand, 0, 0, .null), (.putfield 99, 1, 15, .retAddr 182), (.aload_n 0, 0, 0, .null), (.iconst 0, 0, 0, .int 0), (.putfield 116, 1, 18, .retAddr 185), (.aload_n 0, 0, 0, .null), (.iconst 0, 0, 0, .int 0), (.putfield 120, 1, 17, .retAddr 184), (.aload_n 0, 0, 0, .null)]
theorem k_rJump_0_ok : fwChain m_rJump.1.cls m_rJump.2.1 0 k_rJump_0 19 = true := by decide +kernel
theorem d_rJump_19 : decode m_rJump.2.1 19 = .ok (.invokevirtual 123, 3) := by decide +kernel
theorem d_rJump_22 : decode m_rJump.2.1 22 = .ok (.return_, 1) := by decide +kernel
/-- MonitorBoardModel.console()I -/
abbrev m_rConsole : fwM := (⟨"MonitorBoardModel", "console", "()I"⟩, prog_13_method_10_code, 2, (some FieldType.int))
theorem m_rConsole_in : Cond.code m_rConsole.1 m_rConsole.2.1 m_rConsole.2.2.1 m_rConsole.2.2.2 ∈ fwT := fwT_mem (List.mem_of_getElem? (i := 2277) (by decide +kernel)) rfl
def k_rConsole_0 : List fwO := [(.aload_n 0, 0, 0, .null), (.aload_n 0, 0, 0, .null), (.getfield 126, 1, 10, .retAddr 177), (.putfield 129, 1, 11, .retAddr 178), (.iconst 0, 0, 0, .int 0), (.istore_n 1, 0, 0, .null)]
theorem k_rConsole_0_ok : fwChain m_rConsole.1.cls m_rConsole.2.1 0 k_rConsole_0 10 = true := by decide +kernel
def k_rConsole_10 : List fwO := [(.iload_n 1, 0, 0, .null), (.aload_n 0, 0, 0, .null), (.getfield 126, 1, 10, .retAddr 177)]
theorem k_rConsole_10_ok : fwChain m_rConsole.1.cls m_rConsole.2.1 10 k_rConsole_10 15 = true := by decide +kernel
theorem d_rConsole_15 : decode m_rConsole.2.1 15 = .ok (.if_icmp .ge 30, 3) := by decide +kernel
def k_rConsole_18 : List fwO := [(.aload_n 0, 0, 0, .null), (.getfield 28, 1, 5, .retAddr 172), (.iload_n 1, 0, 0, .null), (.aload_n 0, 0, 0, .null), (.getfield 24, 1, 4, .retAddr 171), (.aload_n 0, 0, 0, .null), (.getfield 132, 1, 9, .retAddr 176), (.iload_n 1, 0, 0, .null), (.iadd, 0, 0, .null), (.sipush 8000, 0, 0, .int 8000), (.irem, 0, 0, .null), (.baload, 0, 0, .null), (.bastore, 0, 0, .null), (.iinc 1 1, 0, 0, .int 1)]
theorem k_rConsole_18_ok : fwChain m_rConsole.1.cls m_rConsole.2.1 18 k_rConsole_18 42 = true := by decide +kernel
theorem d_rConsole_42 : decode m_rConsole.2.1 42 = .ok (.goto (-32), 3) := by decide +kernel
def k_rConsole_45 : List fwO := [(.aload_n 0, 0, 0, .null), (.iconst 0, 0, 0, .int 0), (.putfield 126, 1, 10, .retAddr 177), (.aload_n 0, 0, 0, .null), (.getfield 129, 1, 11, .retAddr 178)]
theorem k_rConsole_45_ok : fwChain m_rConsole.1.cls m_rConsole.2.1 45 k_rConsole_45 54 = true := by decide +kernel
theorem d_rConsole_54 : decode m_rConsole.2.1 54 = .ok (.ireturn, 1) := by decide +kernel
/-- MonitorBoardModel.out(I)I -/
abbrev m_rOut : fwM := (⟨"MonitorBoardModel", "out", "(I)I"⟩, prog_13_method_11_code, 2, (some FieldType.int))
theorem m_rOut_in : Cond.code m_rOut.1 m_rOut.2.1 m_rOut.2.2.1 m_rOut.2.2.2 ∈ fwT := fwT_mem (List.mem_of_getElem? (i := 2281) (by decide +kernel)) rfl
def k_rOut_0 : List fwO := [(.iload_n 1, 0, 0, .null)]
theorem k_rOut_0_ok : fwChain m_rOut.1.cls m_rOut.2.1 0 k_rOut_0 1 = true := by decide +kernel
theorem d_rOut_1 : decode m_rOut.2.1 1 = .ok (.ifCond .lt 24, 3) := by decide +kernel
def k_rOut_4 : List fwO := [(.iload_n 1, 0, 0, .null), (.aload_n 0, 0, 0, .null), (.getfield 129, 1, 11, .retAddr 178)]
theorem k_rOut_4_ok : fwChain m_rOut.1.cls m_rOut.2.1 4 k_rOut_4 9 = true := by decide +kernel
theorem d_rOut_9 : decode m_rOut.2.1 9 = .ok (.if_icmp .ge 16, 3) := by decide +kernel
def k_rOut_12 : List fwO := [(.aload_n 0, 0, 0, .null), (.getfield 28, 1, 5, .retAddr 172), (.iload_n 1, 0, 0, .null), (.baload, 0, 0, .null), (.sipush 255, 0, 0, .int 255), (.iand, 0, 0, .null)]
theorem k_rOut_12_ok : fwChain m_rOut.1.cls m_rOut.2.1 12 k_rOut_12 22 = true := by decide +kernel
theorem d_rOut_22 : decode m_rOut.2.1 22 = .ok (.goto 4, 3) := by decide +kernel
def k_rOut_25 : List fwO := [(.iconst (-1), 0, 0, .int (-1))]
theorem k_rOut_25_ok : fwChain m_rOut.1.cls m_rOut.2.1 25 k_rOut_25 26 = true := by decide +kernel
theorem d_rOut_26 : decode m_rOut.2.1 26 = .ok (.ireturn, 1) := by decide +kernel
/-- MonitorBoardModel.back()I -/
abbrev m_rBack : fwM := (⟨"MonitorBoardModel", "back", "()I"⟩, prog_13_method_12_code, 2, (some FieldType.int))
theorem m_rBack_in : Cond.code m_rBack.1 m_rBack.2.1 m_rBack.2.2.1 m_rBack.2.2.2 ∈ fwT := fwT_mem (List.mem_of_getElem? (i := 2285) (by decide +kernel)) rfl
def k_rBack_0 : List fwO := [(.aload_n 0, 0, 0, .null), (.aload_n 0, 0, 0, .null), (.getfield 129, 1, 11, .retAddr 178), (.sipush 4000, 0, 0, .int 4000)]
theorem k_rBack_0_ok : fwChain m_rBack.1.cls m_rBack.2.1 0 k_rBack_0 8 = true := by decide +kernel
theorem d_rBack_8 : decode m_rBack.2.1 8 = .ok (.if_icmp .ge 10, 3) := by decide +kernel
def k_rBack_11 : List fwO := [(.aload_n 0, 0, 0, .null), (.getfield 129, 1, 11, .retAddr 178)]
theorem k_rBack_11_ok : fwChain m_rBack.1.cls m_rBack.2.1 11 k_rBack_11 15 = true := by decide +kernel
theorem d_rBack_15 : decode m_rBack.2.1 15 = .ok (.goto 6, 3) := by decide +kernel
def k_rBack_18 : List fwO := [(.sipush 4000, 0, 0, .int 4000)]
theorem k_rBack_18_ok : fwChain m_rBack.1.cls m_rBack.2.1 18 k_rBack_18 21 = true := by decide +kernel
def k_rBack_21 : List fwO := [(.putfield 80, 1, 6, .retAddr 173), (.iconst 0, 0, 0, .int 0), (.istore_n 1, 0, 0, .null)]
theorem k_rBack_21_ok : fwChain m_rBack.1.cls m_rBack.2.1 21 k_rBack_21 26 = true := by decide +kernel
def k_rBack_26 : List fwO := [(.iload_n 1, 0, 0, .null), (.aload_n 0, 0, 0, .null), (.getfield 80, 1, 6, .retAddr 173)]
theorem k_rBack_26_ok : fwChain m_rBack.1.cls m_rBack.2.1 26 k_rBack_26 31 = true := by decide +kernel
theorem d_rBack_31 : decode m_rBack.2.1 31 = .ok (.if_icmp .ge 21, 3) := by decide +kernel
def k_rBack_34 : List fwO := [(.aload_n 0, 0, 0, .null), (.getfield 18, 1, 2, .retAddr 169), (.iload_n 1, 0, 0, .null), (.aload_n 0, 0, 0, .null), (.getfield 28, 1, 5, .retAddr 172), (.iload_n 1, 0, 0, .null), (.baload, 0, 0, .null), (.bastore, 0, 0, .null), (.iinc 1 1, 0, 0, .int 1)]
theorem k_rBack_34_ok : fwChain m_rBack.1.cls m_rBack.2.1 34 k_rBack_34 49 = true := by decide +kernel
theorem d_rBack_49 : decode m_rBack.2.1 49 = .ok (.goto (-23), 3) := by decide +kernel
def k_rBack_52 : List fwO := [(.aload_n 0, 0, 0, .null), (.getfield 80, 1, 6, .retAddr 173)]
theorem k_rBack_52_ok : fwChain m_rBack.1.cls m_rBack.2.1 52 k_rBack_52 56 = true := by decide +kernel
theorem d_rBack_56 : decode m_rBack.2.1 56 = .ok (.ireturn, 1) := by decide +kernel
/-- MonitorBoardModel.disk(IIIII)I -/
abbrev m_rDisk : fwM := (⟨"MonitorBoardModel", "disk", "(IIIII)I"⟩, prog_13_method_48_code, 7, (some FieldType.int))
theorem m_rDisk_in : Cond.code m_rDisk.1 m_rDisk.2.1 m_rDisk.2.2.1 m_rDisk.2.2.2 ∈ fwT := fwT_mem (List.mem_of_getElem? (i := 2669) (by decide +kernel)) rfl
def k_rDisk_0 : List fwO := [(.iload_n 1, 0, 0, .null)]
theorem k_rDisk_0_ok : fwChain m_rDisk.1.cls m_rDisk.2.1 0 k_rDisk_0 1 = true := by decide +kernel
theorem d_rDisk_1 : decode m_rDisk.2.1 1 = .ok (.ifCond .lt 41, 3) := by decide +kernel
def k_rDisk_4 : List fwO := [(.iload_n 1, 0, 0, .null), (.iconst 1, 0, 0, .int 1)]
theorem k_rDisk_4_ok : fwChain m_rDisk.1.cls m_rDisk.2.1 4 k_rDisk_4 6 = true := by decide +kernel
theorem d_rDisk_6 : decode m_rDisk.2.1 6 = .ok (.if_icmp .gt 36, 3) := by decide +kernel
def k_rDisk_9 : List fwO := [(.iload_n 2, 0, 0, .null)]
theorem k_rDisk_9_ok : fwChain m_rDisk.1.cls m_rDisk.2.1 9 k_rDisk_9 10 = true := by decide +kernel
theorem d_rDisk_10 : decode m_rDisk.2.1 10 = .ok (.ifCond .lt 32, 3) := by decide +kernel
def k_rDisk_13 : List fwO := [(.iload_n 2, 0, 0, .null), (.bipush 76, 0, 0, .int 76)]
theorem k_rDisk_13_ok : fwChain m_rDisk.1.cls m_rDisk.2.1 13 k_rDisk_13 16 = true := by decide +kernel
theorem d_rDisk_16 : decode m_rDisk.2.1 16 = .ok (.if_icmp .gt 26, 3) := by decide +kernel
def k_rDisk_19 : List fwO := [(.iload_n 3, 0, 0, .null), (.iconst 1, 0, 0, .int 1)]
theorem k_rDisk_19_ok : fwChain m_rDisk.1.cls m_rDisk.2.1 19 k_rDisk_19 21 = true := by decide +kernel
theorem d_rDisk_21 : decode m_rDisk.2.1 21 = .ok (.if_icmp .lt 21, 3) := by decide +kernel
def k_rDisk_24 : List fwO := [(.iload_n 3, 0, 0, .null), (.bipush 26, 0, 0, .int 26)]
theorem k_rDisk_24_ok : fwChain m_rDisk.1.cls m_rDisk.2.1 24 k_rDisk_24 27 = true := by decide +kernel
theorem d_rDisk_27 : decode m_rDisk.2.1 27 = .ok (.if_icmp .gt 15, 3) := by decide +kernel
def k_rDisk_30 : List fwO := [(.iload 4, 0, 0, .null)]
theorem k_rDisk_30_ok : fwChain m_rDisk.1.cls m_rDisk.2.1 30 k_rDisk_30 32 = true := by decide +kernel
theorem d_rDisk_32 : decode m_rDisk.2.1 32 = .ok (.ifCond .lt 10, 3) := by decide +kernel
def k_rDisk_35 : List fwO := [(.iload 4, 0, 0, .null), (.bipush 127, 0, 0, .int 127)]
theorem k_rDisk_35_ok : fwChain m_rDisk.1.cls m_rDisk.2.1 35 k_rDisk_35 39 = true := by decide +kernel
theorem d_rDisk_39 : decode m_rDisk.2.1 39 = .ok (.if_icmp .le 5, 3) := by decide +kernel
def k_rDisk_42 : List fwO := [(.iconst (-1), 0, 0, .int (-1))]
theorem k_rDisk_42_ok : fwChain m_rDisk.1.cls m_rDisk.2.1 42 k_rDisk_42 43 = true := by decide +kernel
theorem d_rDisk_43 : decode m_rDisk.2.1 43 = .ok (.ireturn, 1) := by decide +kernel
def k_rDisk_44 : List fwO := [(.aload_n 0, 0, 0, .null), (.iload_n 1, 0, 0, .null), (.iload_n 2, 0, 0, .null), (.iload_n 3, 0, 0, .null)]
theorem k_rDisk_44_ok : fwChain m_rDisk.1.cls m_rDisk.2.1 44 k_rDisk_44 48 = true := by decide +kernel
theorem d_rDisk_48 : decode m_rDisk.2.1 48 = .ok (.invokevirtual 284, 3) := by decide +kernel
def k_rDisk_51 : List fwO := [(.iload 4, 0, 0, .null), (.iadd, 0, 0, .null), (.istore 6, 0, 0, .null), (.aload_n 0, 0, 0, .null), (.getfield 15, 1, 1, .retAddr 168), (.iload 6, 0, 0, .null), (.dup2, 0, 0, .null), (.baload, 0, 0, .null), (.iload 5, 0, 0, .null), (.i2b, 0, 0, .null), (.ixor, 0, 0, .null), (.i2b, 0, 0, .null), (.bastore, 0, 0, .null), (.aload_n 0, 0, 0, .null), (.getfield 15, 1, 1, .retAddr 168), (.iload 6, 0, 0, .null), (.baload, 0, 0, .null), (.sipush 255, 0, 0, .int 255), (.iand, 0, 0, .null)]
theorem k_rDisk_51_ok : fwChain m_rDisk.1.cls m_rDisk.2.1 51 k_rDisk_51 81 = true := by decide +kernel
theorem d_rDisk_81 : decode m_rDisk.2.1 81 = .ok (.ireturn, 1) := by decide +kernel
/-- MonitorBoardModel.boot()V -/
abbrev m_rBoot : fwM := (⟨"MonitorBoardModel", "boot", "()V"⟩, prog_13_method_43_code, 1, (none : Option FieldType))
theorem m_rBoot_in : Cond.code m_rBoot.1 m_rBoot.2.1 m_rBoot.2.2.1 m_rBoot.2.2.2 ∈ fwT := fwT_mem (List.mem_of_getElem? (i := 2665) (by decide +kernel)) rfl
def k_rBoot_0 : List fwO := [(.aload_n 0, 0, 0, .null)]
theorem k_rBoot_0_ok : fwChain m_rBoot.1.cls m_rBoot.2.1 0 k_rBoot_0 1 = true := by decide +kernel
theorem d_rBoot_1 : decode m_rBoot.2.1 1 = .ok (.invokevirtual 77, 3) := by decide +kernel
theorem d_rBoot_4 : decode m_rBoot.2.1 4 = .ok (.return_, 1) := by decide +kernel
/-- MonitorBoardModel.run(I)I -/
abbrev m_rRun : fwM := (⟨"MonitorBoardModel", "run", "(I)I"⟩, prog_13_method_42_code, 7, (some FieldType.int))
theorem m_rRun_in : Cond.code m_rRun.1 m_rRun.2.1 m_rRun.2.2.1 m_rRun.2.2.2 ∈ fwT := fwT_mem (List.mem_of_getElem? (i := 2289) (by decide +kernel)) rfl
def k_rRun_0 : List fwO := [(.iload_n 1, 0, 0, .null)]
theorem k_rRun_0_ok : fwChain m_rRun.1.cls m_rRun.2.1 0 k_rRun_0 1 = true := by decide +kernel
theorem d_rRun_1 : decode m_rRun.2.1 1 = .ok (.ifCond .lt 9, 3) := by decide +kernel
def k_rRun_4 : List fwO := [(.iload_n 1, 0, 0, .null), (.ldc 225, 41, 0, .int 200000)]
theorem k_rRun_4_ok : fwChain m_rRun.1.cls m_rRun.2.1 4 k_rRun_4 7 = true := by decide +kernel
theorem d_rRun_7 : decode m_rRun.2.1 7 = .ok (.if_icmp .le 7, 3) := by decide +kernel
def k_rRun_10 : List fwO := [(.iconst 0, 0, 0, .int 0)]
theorem k_rRun_10_ok : fwChain m_rRun.1.cls m_rRun.2.1 10 k_rRun_10 11 = true := by decide +kernel
theorem d_rRun_11 : decode m_rRun.2.1 11 = .ok (.goto 4, 3) := by decide +kernel
def k_rRun_14 : List fwO := [(.iload_n 1, 0, 0, .null)]
theorem k_rRun_14_ok : fwChain m_rRun.1.cls m_rRun.2.1 14 k_rRun_14 15 = true := by decide +kernel
def k_rRun_15 : List fwO := [(.istore_n 2, 0, 0, .null), (.aload_n 0, 0, 0, .null), (.getfield 89, 1, 16, .retAddr 183), (.iload_n 2, 0, 0, .null), (.i2l, 0, 0, .null), (.ladd, 0, 0, .null), (.lstore_n 3, 0, 0, .null), (.iload_n 2, 0, 0, .null)]
theorem k_rRun_15_ok : fwChain m_rRun.1.cls m_rRun.2.1 15 k_rRun_15 25 = true := by decide +kernel
theorem d_rRun_25 : decode m_rRun.2.1 25 = .ok (.ifCond .ne 16, 3) := by decide +kernel
def k_rRun_28 : List fwO := [(.aload_n 0, 0, 0, .null), (.getfield 120, 1, 17, .retAddr 184)]
theorem k_rRun_28_ok : fwChain m_rRun.1.cls m_rRun.2.1 28 k_rRun_28 32 = true := by decide +kernel
theorem d_rRun_32 : decode m_rRun.2.1 32 = .ok (.ifCond .eq 7, 3) := by decide +kernel
def k_rRun_35 : List fwO := [(.iconst 2, 0, 0, .int 2)]
theorem k_rRun_35_ok : fwChain m_rRun.1.cls m_rRun.2.1 35 k_rRun_35 36 = true := by decide +kernel
theorem d_rRun_36 : decode m_rRun.2.1 36 = .ok (.goto 4, 3) := by decide +kernel
def k_rRun_39 : List fwO := [(.iconst 0, 0, 0, .int 0)]
theorem k_rRun_39_ok : fwChain m_rRun.1.cls m_rRun.2.1 39 k_rRun_39 40 = true := by decide +kernel
theorem d_rRun_40 : decode m_rRun.2.1 40 = .ok (.ireturn, 1) := by decide +kernel
def k_rRun_41 : List fwO := [(.aload_n 0, 0, 0, .null), (.getfield 89, 1, 16, .retAddr 183), (.lload_n 3, 0, 0, .null), (.lcmp, 0, 0, .null)]
theorem k_rRun_41_ok : fwChain m_rRun.1.cls m_rRun.2.1 41 k_rRun_41 47 = true := by decide +kernel
theorem d_rRun_47 : decode m_rRun.2.1 47 = .ok (.ifCond .ge 165, 3) := by decide +kernel
def k_rRun_50 : List fwO := [(.aload_n 0, 0, 0, .null), (.getfield 120, 1, 17, .retAddr 184)]
theorem k_rRun_50_ok : fwChain m_rRun.1.cls m_rRun.2.1 50 k_rRun_50 54 = true := by decide +kernel
theorem d_rRun_54 : decode m_rRun.2.1 54 = .ok (.ifCond .eq 5, 3) := by decide +kernel
def k_rRun_57 : List fwO := [(.iconst 2, 0, 0, .int 2)]
theorem k_rRun_57_ok : fwChain m_rRun.1.cls m_rRun.2.1 57 k_rRun_57 58 = true := by decide +kernel
theorem d_rRun_58 : decode m_rRun.2.1 58 = .ok (.ireturn, 1) := by decide +kernel
def k_rRun_59 : List fwO := [(.aload_n 0, 0, 0, .null), (.getfield 116, 1, 18, .retAddr 185)]
theorem k_rRun_59_ok : fwChain m_rRun.1.cls m_rRun.2.1 59 k_rRun_59 63 = true := by decide +kernel
theorem d_rRun_63 : decode m_rRun.2.1 63 = .ok (.ifCond .eq 12, 3) := by decide +kernel
def k_rRun_66 : List fwO := [(.aload_n 0, 0, 0, .null)]
theorem k_rRun_66_ok : fwChain m_rRun.1.cls m_rRun.2.1 66 k_rRun_66 67 = true := by decide +kernel
theorem d_rRun_67 : decode m_rRun.2.1 67 = .ok (.invokevirtual 226, 3) := by decide +kernel
theorem d_rRun_70 : decode m_rRun.2.1 70 = .ok (.ifCond .ne (-29), 3) := by decide +kernel
def k_rRun_73 : List fwO := [(.iconst 1, 0, 0, .int 1)]
theorem k_rRun_73_ok : fwChain m_rRun.1.cls m_rRun.2.1 73 k_rRun_73 74 = true := by decide +kernel
theorem d_rRun_74 : decode m_rRun.2.1 74 = .ok (.ireturn, 1) := by decide +kernel
def k_rRun_75 : List fwO := [(.aload_n 0, 0, 0, .null), (.getfield 99, 1, 15, .retAddr 182), (.ldc 230, 48, 0, .int 60416)]
theorem k_rRun_75_ok : fwChain m_rRun.1.cls m_rRun.2.1 75 k_rRun_75 81 = true := by decide +kernel
theorem d_rRun_81 : decode m_rRun.2.1 81 = .ok (.if_icmp .lt 28, 3) := by decide +kernel
def k_rRun_84 : List fwO := [(.aload_n 0, 0, 0, .null), (.getfield 99, 1, 15, .retAddr 182), (.ldc 231, 49, 0, .int 60464)]
theorem k_rRun_84_ok : fwChain m_rRun.1.cls m_rRun.2.1 84 k_rRun_84 90 = true := by decide +kernel
theorem d_rRun_90 : decode m_rRun.2.1 90 = .ok (.if_icmp .gt 19, 3) := by decide +kernel
def k_rRun_93 : List fwO := [(.aload_n 0, 0, 0, .null), (.getfield 99, 1, 15, .retAddr 182), (.ldc 230, 48, 0, .int 60416), (.isub, 0, 0, .null), (.iconst 3, 0, 0, .int 3), (.irem, 0, 0, .null)]
theorem k_rRun_93_ok : fwChain m_rRun.1.cls m_rRun.2.1 93 k_rRun_93 102 = true := by decide +kernel
theorem d_rRun_102 : decode m_rRun.2.1 102 = .ok (.ifCond .ne 7, 3) := by decide +kernel
def k_rRun_105 : List fwO := [(.iconst 1, 0, 0, .int 1)]
theorem k_rRun_105_ok : fwChain m_rRun.1.cls m_rRun.2.1 105 k_rRun_105 106 = true := by decide +kernel
theorem d_rRun_106 : decode m_rRun.2.1 106 = .ok (.goto 4, 3) := by decide +kernel
def k_rRun_109 : List fwO := [(.iconst 0, 0, 0, .int 0)]
theorem k_rRun_109_ok : fwChain m_rRun.1.cls m_rRun.2.1 109 k_rRun_109 110 = true := by decide +kernel
def k_rRun_110 : List fwO := [(.istore 5, 0, 0, .null), (.iload 5, 0, 0, .null)]
theorem k_rRun_110_ok : fwChain m_rRun.1.cls m_rRun.2.1 110 k_rRun_110 114 = true := by decide +kernel
theorem d_rRun_114 : decode m_rRun.2.1 114 = .ok (.ifCond .ne 12, 3) := by decide +kernel
def k_rRun_117 : List fwO := [(.aload_n 0, 0, 0, .null), (.getfield 99, 1, 15, .retAddr 182), (.ldc 232, 40, 0, .int 60934)]
theorem k_rRun_117_ok : fwChain m_rRun.1.cls m_rRun.2.1 117 k_rRun_117 123 = true := by decide +kernel
theorem d_rRun_123 : decode m_rRun.2.1 123 = .ok (.if_icmp .ne 72, 3) := by decide +kernel
def k_rRun_126 : List fwO := [(.aload_n 0, 0, 0, .null), (.iconst 0, 0, 0, .int 0), (.putfield 233, 1, 20, .retAddr 187), (.iload 5, 0, 0, .null)]
theorem k_rRun_126_ok : fwChain m_rRun.1.cls m_rRun.2.1 126 k_rRun_126 133 = true := by decide +kernel
theorem d_rRun_133 : decode m_rRun.2.1 133 = .ok (.ifCond .eq 19, 3) := by decide +kernel
def k_rRun_136 : List fwO := [(.aload_n 0, 0, 0, .null), (.aload_n 0, 0, 0, .null), (.getfield 99, 1, 15, .retAddr 182), (.ldc 230, 48, 0, .int 60416), (.isub, 0, 0, .null), (.iconst 3, 0, 0, .int 3), (.idiv, 0, 0, .null)]
theorem k_rRun_136_ok : fwChain m_rRun.1.cls m_rRun.2.1 136 k_rRun_136 146 = true := by decide +kernel
theorem d_rRun_146 : decode m_rRun.2.1 146 = .ok (.invokevirtual 236, 3) := by decide +kernel
theorem d_rRun_149 : decode m_rRun.2.1 149 = .ok (.goto 7, 3) := by decide +kernel
def k_rRun_152 : List fwO := [(.aload_n 0, 0, 0, .null)]
theorem k_rRun_152_ok : fwChain m_rRun.1.cls m_rRun.2.1 152 k_rRun_152 153 = true := by decide +kernel
theorem d_rRun_153 : decode m_rRun.2.1 153 = .ok (.invokevirtual 239, 3) := by decide +kernel
def k_rRun_156 : List fwO := [(.istore 6, 0, 0, .null), (.iload 6, 0, 0, .null)]
theorem k_rRun_156_ok : fwChain m_rRun.1.cls m_rRun.2.1 156 k_rRun_156 160 = true := by decide +kernel
theorem d_rRun_160 : decode m_rRun.2.1 160 = .ok (.ifCond .ne 5, 3) := by decide +kernel
def k_rRun_163 : List fwO := [(.iconst 1, 0, 0, .int 1)]
theorem k_rRun_163_ok : fwChain m_rRun.1.cls m_rRun.2.1 163 k_rRun_163 164 = true := by decide +kernel
theorem d_rRun_164 : decode m_rRun.2.1 164 = .ok (.ireturn, 1) := by decide +kernel
def k_rRun_165 : List fwO := [(.aload_n 0, 0, 0, .null), (.dup, 0, 0, .null), (.getfield 89, 1, 16, .retAddr 183), (.ldc2_w 242, 15, 0, .long 50), (.ladd, 0, 0, .null), (.putfield 89, 1, 16, .retAddr 183), (.aload_n 0, 0, 0, .null), (.getfield 233, 1, 20, .retAddr 187)]
theorem k_rRun_165_ok : fwChain m_rRun.1.cls m_rRun.2.1 165 k_rRun_165 181 = true := by decide +kernel
theorem d_rRun_181 : decode m_rRun.2.1 181 = .ok (.ifCond .ne 11, 3) := by decide +kernel
def k_rRun_184 : List fwO := [(.aload_n 0, 0, 0, .null), (.aload_n 0, 0, 0, .null)]
theorem k_rRun_184_ok : fwChain m_rRun.1.cls m_rRun.2.1 184 k_rRun_184 186 = true := by decide +kernel
theorem d_rRun_186 : decode m_rRun.2.1 186 = .ok (.invokevirtual 213, 3) := by decide +kernel
def k_rRun_189 : List fwO := [(.putfield 99, 1, 15, .retAddr 182)]
theorem k_rRun_189_ok : fwChain m_rRun.1.cls m_rRun.2.1 189 k_rRun_189 192 = true := by decide +kernel
theorem d_rRun_192 : decode m_rRun.2.1 192 = .ok (.goto 17, 3) := by decide +kernel
def k_rRun_195 : List fwO := [(.aload_n 0, 0, 0, .null), (.dup, 0, 0, .null), (.getfield 89, 1, 16, .retAddr 183), (.aload_n 0, 0, 0, .null)]
theorem k_rRun_195_ok : fwChain m_rRun.1.cls m_rRun.2.1 195 k_rRun_195 201 = true := by decide +kernel
theorem d_rRun_201 : decode m_rRun.2.1 201 = .ok (.invokevirtual 244, 3) := by decide +kernel
def k_rRun_204 : List fwO := [(.i2l, 0, 0, .null), (.ladd, 0, 0, .null), (.putfield 89, 1, 16, .retAddr 183)]
theorem k_rRun_204_ok : fwChain m_rRun.1.cls m_rRun.2.1 204 k_rRun_204 209 = true := by decide +kernel
theorem d_rRun_209 : decode m_rRun.2.1 209 = .ok (.goto (-168), 3) := by decide +kernel
def k_rRun_212 : List fwO := [(.aload_n 0, 0, 0, .null), (.getfield 120, 1, 17, .retAddr 184)]
theorem k_rRun_212_ok : fwChain m_rRun.1.cls m_rRun.2.1 212 k_rRun_212 216 = true := by decide +kernel
theorem d_rRun_216 : decode m_rRun.2.1 216 = .ok (.ifCond .eq 7, 3) := by decide +kernel
def k_rRun_219 : List fwO := [(.iconst 2, 0, 0, .int 2)]
theorem k_rRun_219_ok : fwChain m_rRun.1.cls m_rRun.2.1 219 k_rRun_219 220 = true := by decide +kernel
theorem d_rRun_220 : decode m_rRun.2.1 220 = .ok (.goto 4, 3) := by decide +kernel
def k_rRun_223 : List fwO := [(.iconst 0, 0, 0, .int 0)]
theorem k_rRun_223_ok : fwChain m_rRun.1.cls m_rRun.2.1 223 k_rRun_223 224 = true := by decide +kernel
theorem d_rRun_224 : decode m_rRun.2.1 224 = .ok (.ireturn, 1) := by decide +kernel
theorem c_rNewLine_3 : ∀ w ∈ ([(Cond.methodLink "MonitorBoardModel" (149 : Nat) ({ cls := "MonitorBoardModel", name := "tell", desc := "(I)V" } : MethodName)), (Cond.instanceMethod ({ cls := "MonitorBoardModel", name := "tell", desc := "(I)V" } : MethodName)), (Cond.selects "MonitorBoardModel" ({ cls := "MonitorBoardModel", name := "tell", desc := "(I)V" } : MethodName) ({ cls := "MonitorBoardModel", name := "tell", desc := "(I)V" } : MethodName)), (Cond.initialized "MonitorBoardModel")] : List Cond), w ∈ fwT := fwT_all [1945, 1947, 145, 295] (by decide +kernel) (by decide +kernel)
theorem c_rNewLine_9 : ∀ w ∈ ([(Cond.methodLink "MonitorBoardModel" (149 : Nat) ({ cls := "MonitorBoardModel", name := "tell", desc := "(I)V" } : MethodName)), (Cond.instanceMethod ({ cls := "MonitorBoardModel", name := "tell", desc := "(I)V" } : MethodName)), (Cond.selects "MonitorBoardModel" ({ cls := "MonitorBoardModel", name := "tell", desc := "(I)V" } : MethodName) ({ cls := "MonitorBoardModel", name := "tell", desc := "(I)V" } : MethodName)), (Cond.initialized "MonitorBoardModel")] : List Cond), w ∈ fwT := c_rNewLine_3
theorem c_rTellText_4 : ∀ w ∈ ([(Cond.methodLink "MonitorBoardModel" (140 : Nat) ({ cls := "java/lang/String", name := "length", desc := "()I" } : MethodName)), (Cond.instanceMethod ({ cls := "java/lang/String", name := "length", desc := "()I" } : MethodName)), (Cond.selects "java/lang/String" ({ cls := "java/lang/String", name := "length", desc := "()I" } : MethodName) ({ cls := "java/lang/String", name := "length", desc := "()I" } : MethodName)), (Cond.initialized "java/lang/String")] : List Cond), w ∈ fwT := fwT_all [1954, 576, 577, 287] (by decide +kernel) (by decide +kernel)
theorem c_rTellText_13 : ∀ w ∈ ([(Cond.methodLink "MonitorBoardModel" (145 : Nat) ({ cls := "java/lang/String", name := "charAt", desc := "(I)C" } : MethodName)), (Cond.instanceMethod ({ cls := "java/lang/String", name := "charAt", desc := "(I)C" } : MethodName)), (Cond.selects "java/lang/String" ({ cls := "java/lang/String", name := "charAt", desc := "(I)C" } : MethodName) ({ cls := "java/lang/String", name := "charAt", desc := "(I)C" } : MethodName)), (Cond.initialized "java/lang/String")] : List Cond), w ∈ fwT := fwT_all [1955, 586, 587, 287] (by decide +kernel) (by decide +kernel)
theorem c_rTellText_16 : ∀ w ∈ ([(Cond.methodLink "MonitorBoardModel" (149 : Nat) ({ cls := "MonitorBoardModel", name := "tell", desc := "(I)V" } : MethodName)), (Cond.instanceMethod ({ cls := "MonitorBoardModel", name := "tell", desc := "(I)V" } : MethodName)), (Cond.selects "MonitorBoardModel" ({ cls := "MonitorBoardModel", name := "tell", desc := "(I)V" } : MethodName) ({ cls := "MonitorBoardModel", name := "tell", desc := "(I)V" } : MethodName)), (Cond.initialized "MonitorBoardModel")] : List Cond), w ∈ fwT := c_rNewLine_3
theorem c_rSetWord_3 : ∀ w ∈ ([(Cond.methodLink "MonitorBoardModel" (112 : Nat) ({ cls := "MonitorBoardModel", name := "set", desc := "(II)V" } : MethodName)), (Cond.instanceMethod ({ cls := "MonitorBoardModel", name := "set", desc := "(II)V" } : MethodName)), (Cond.selects "MonitorBoardModel" ({ cls := "MonitorBoardModel", name := "set", desc := "(II)V" } : MethodName) ({ cls := "MonitorBoardModel", name := "set", desc := "(II)V" } : MethodName)), (Cond.initialized "MonitorBoardModel")] : List Cond), w ∈ fwT := fwT_all [1960, 1962, 148, 295] (by decide +kernel) (by decide +kernel)
theorem c_rSetWord_14 : ∀ w ∈ ([(Cond.methodLink "MonitorBoardModel" (112 : Nat) ({ cls := "MonitorBoardModel", name := "set", desc := "(II)V" } : MethodName)), (Cond.instanceMethod ({ cls := "MonitorBoardModel", name := "set", desc := "(II)V" } : MethodName)), (Cond.selects "MonitorBoardModel" ({ cls := "MonitorBoardModel", name := "set", desc := "(II)V" } : MethodName) ({ cls := "MonitorBoardModel", name := "set", desc := "(II)V" } : MethodName)), (Cond.initialized "MonitorBoardModel")] : List Cond), w ∈ fwT := c_rSetWord_3
theorem c_rRecordAt_40 : ∀ w ∈ ([(Cond.methodLink "MonitorBoardModel" (284 : Nat) ({ cls := "MonitorBoardModel", name := "sectorAt", desc := "(III)I" } : MethodName)), (Cond.instanceMethod ({ cls := "MonitorBoardModel", name := "sectorAt", desc := "(III)I" } : MethodName)), (Cond.selects "MonitorBoardModel" ({ cls := "MonitorBoardModel", name := "sectorAt", desc := "(III)I" } : MethodName) ({ cls := "MonitorBoardModel", name := "sectorAt", desc := "(III)I" } : MethodName)), (Cond.initialized "MonitorBoardModel")] : List Cond), w ∈ fwT := fwT_all [1988, 1990, 154, 295] (by decide +kernel) (by decide +kernel)
theorem c_rEntryAt_12 : ∀ w ∈ ([(Cond.methodLink "MonitorBoardModel" (287 : Nat) ({ cls := "MonitorBoardModel", name := "recordAt", desc := "(III)I" } : MethodName)), (Cond.instanceMethod ({ cls := "MonitorBoardModel", name := "recordAt", desc := "(III)I" } : MethodName)), (Cond.selects "MonitorBoardModel" ({ cls := "MonitorBoardModel", name := "recordAt", desc := "(III)I" } : MethodName) ({ cls := "MonitorBoardModel", name := "recordAt", desc := "(III)I" } : MethodName)), (Cond.initialized "MonitorBoardModel")] : List Cond), w ∈ fwT := fwT_all [1984, 1986, 153, 295] (by decide +kernel) (by decide +kernel)
theorem c_rEntry_8 : ∀ w ∈ ([(Cond.methodLink "MonitorBoardModel" (290 : Nat) ({ cls := "MonitorBoardModel", name := "entryAt", desc := "(III)I" } : MethodName)), (Cond.instanceMethod ({ cls := "MonitorBoardModel", name := "entryAt", desc := "(III)I" } : MethodName)), (Cond.selects "MonitorBoardModel" ({ cls := "MonitorBoardModel", name := "entryAt", desc := "(III)I" } : MethodName) ({ cls := "MonitorBoardModel", name := "entryAt", desc := "(III)I" } : MethodName)), (Cond.initialized "MonitorBoardModel")] : List Cond), w ∈ fwT := fwT_all [1980, 1982, 152, 295] (by decide +kernel) (by decide +kernel)
theorem c_rLogin_74 : ∀ w ∈ ([(Cond.methodLink "MonitorBoardModel" (293 : Nat) ({ cls := "MonitorBoardModel", name := "entry", desc := "(III)I" } : MethodName)), (Cond.instanceMethod ({ cls := "MonitorBoardModel", name := "entry", desc := "(III)I" } : MethodName)), (Cond.selects "MonitorBoardModel" ({ cls := "MonitorBoardModel", name := "entry", desc := "(III)I" } : MethodName) ({ cls := "MonitorBoardModel", name := "entry", desc := "(III)I" } : MethodName)), (Cond.initialized "MonitorBoardModel")] : List Cond), w ∈ fwT := fwT_all [1976, 1978, 151, 295] (by decide +kernel) (by decide +kernel)
theorem c_rLogin_99 : ∀ w ∈ ([(Cond.methodLink "MonitorBoardModel" (293 : Nat) ({ cls := "MonitorBoardModel", name := "entry", desc := "(III)I" } : MethodName)), (Cond.instanceMethod ({ cls := "MonitorBoardModel", name := "entry", desc := "(III)I" } : MethodName)), (Cond.selects "MonitorBoardModel" ({ cls := "MonitorBoardModel", name := "entry", desc := "(III)I" } : MethodName) ({ cls := "MonitorBoardModel", name := "entry", desc := "(III)I" } : MethodName)), (Cond.initialized "MonitorBoardModel")] : List Cond), w ∈ fwT := c_rLogin_74
theorem c_rLogin_121 : ∀ w ∈ ([(Cond.methodLink "MonitorBoardModel" (293 : Nat) ({ cls := "MonitorBoardModel", name := "entry", desc := "(III)I" } : MethodName)), (Cond.instanceMethod ({ cls := "MonitorBoardModel", name := "entry", desc := "(III)I" } : MethodName)), (Cond.selects "MonitorBoardModel" ({ cls := "MonitorBoardModel", name := "entry", desc := "(III)I" } : MethodName) ({ cls := "MonitorBoardModel", name := "entry", desc := "(III)I" } : MethodName)), (Cond.initialized "MonitorBoardModel")] : List Cond), w ∈ fwT := c_rLogin_74
theorem c_rPrompt_1 : ∀ w ∈ ([(Cond.methodLink "MonitorBoardModel" (259 : Nat) ({ cls := "MonitorBoardModel", name := "newLine", desc := "()V" } : MethodName)), (Cond.instanceMethod ({ cls := "MonitorBoardModel", name := "newLine", desc := "()V" } : MethodName)), (Cond.selects "MonitorBoardModel" ({ cls := "MonitorBoardModel", name := "newLine", desc := "()V" } : MethodName) ({ cls := "MonitorBoardModel", name := "newLine", desc := "()V" } : MethodName)), (Cond.initialized "MonitorBoardModel")] : List Cond), w ∈ fwT := fwT_all [1941, 1943, 144, 295] (by decide +kernel) (by decide +kernel)
theorem c_rPrompt_12 : ∀ w ∈ ([(Cond.methodLink "MonitorBoardModel" (149 : Nat) ({ cls := "MonitorBoardModel", name := "tell", desc := "(I)V" } : MethodName)), (Cond.instanceMethod ({ cls := "MonitorBoardModel", name := "tell", desc := "(I)V" } : MethodName)), (Cond.selects "MonitorBoardModel" ({ cls := "MonitorBoardModel", name := "tell", desc := "(I)V" } : MethodName) ({ cls := "MonitorBoardModel", name := "tell", desc := "(I)V" } : MethodName)), (Cond.initialized "MonitorBoardModel")] : List Cond), w ∈ fwT := c_rNewLine_3
theorem c_rPrompt_27 : ∀ w ∈ ([(Cond.methodLink "MonitorBoardModel" (419 : Nat) ({ cls := "MonitorBoardModel", name := "tellNumber", desc := "(I)V" } : MethodName)), (Cond.instanceMethod ({ cls := "MonitorBoardModel", name := "tellNumber", desc := "(I)V" } : MethodName)), (Cond.selects "MonitorBoardModel" ({ cls := "MonitorBoardModel", name := "tellNumber", desc := "(I)V" } : MethodName) ({ cls := "MonitorBoardModel", name := "tellNumber", desc := "(I)V" } : MethodName)), (Cond.initialized "MonitorBoardModel")] : List Cond), w ∈ fwT := fwT_all [2000, 2002, 157, 295] (by decide +kernel) (by decide +kernel)
theorem c_rPrompt_33 : ∀ w ∈ ([(Cond.methodLink "MonitorBoardModel" (149 : Nat) ({ cls := "MonitorBoardModel", name := "tell", desc := "(I)V" } : MethodName)), (Cond.instanceMethod ({ cls := "MonitorBoardModel", name := "tell", desc := "(I)V" } : MethodName)), (Cond.selects "MonitorBoardModel" ({ cls := "MonitorBoardModel", name := "tell", desc := "(I)V" } : MethodName) ({ cls := "MonitorBoardModel", name := "tell", desc := "(I)V" } : MethodName)), (Cond.initialized "MonitorBoardModel")] : List Cond), w ∈ fwT := c_rNewLine_3
theorem c_rWarm_15 : ∀ w ∈ ([(Cond.methodLink "MonitorBoardModel" (112 : Nat) ({ cls := "MonitorBoardModel", name := "set", desc := "(II)V" } : MethodName)), (Cond.instanceMethod ({ cls := "MonitorBoardModel", name := "set", desc := "(II)V" } : MethodName)), (Cond.selects "MonitorBoardModel" ({ cls := "MonitorBoardModel", name := "set", desc := "(II)V" } : MethodName) ({ cls := "MonitorBoardModel", name := "set", desc := "(II)V" } : MethodName)), (Cond.initialized "MonitorBoardModel")] : List Cond), w ∈ fwT := c_rSetWord_3
theorem c_rWarm_23 : ∀ w ∈ ([(Cond.methodLink "MonitorBoardModel" (163 : Nat) ({ cls := "MonitorBoardModel", name := "setWord", desc := "(II)V" } : MethodName)), (Cond.instanceMethod ({ cls := "MonitorBoardModel", name := "setWord", desc := "(II)V" } : MethodName)), (Cond.selects "MonitorBoardModel" ({ cls := "MonitorBoardModel", name := "setWord", desc := "(II)V" } : MethodName) ({ cls := "MonitorBoardModel", name := "setWord", desc := "(II)V" } : MethodName)), (Cond.initialized "MonitorBoardModel")] : List Cond), w ∈ fwT := fwT_all [1967, 1969, 149, 295] (by decide +kernel) (by decide +kernel)
theorem c_rWarm_31 : ∀ w ∈ ([(Cond.methodLink "MonitorBoardModel" (112 : Nat) ({ cls := "MonitorBoardModel", name := "set", desc := "(II)V" } : MethodName)), (Cond.instanceMethod ({ cls := "MonitorBoardModel", name := "set", desc := "(II)V" } : MethodName)), (Cond.selects "MonitorBoardModel" ({ cls := "MonitorBoardModel", name := "set", desc := "(II)V" } : MethodName) ({ cls := "MonitorBoardModel", name := "set", desc := "(II)V" } : MethodName)), (Cond.initialized "MonitorBoardModel")] : List Cond), w ∈ fwT := c_rSetWord_3
theorem c_rWarm_39 : ∀ w ∈ ([(Cond.methodLink "MonitorBoardModel" (163 : Nat) ({ cls := "MonitorBoardModel", name := "setWord", desc := "(II)V" } : MethodName)), (Cond.instanceMethod ({ cls := "MonitorBoardModel", name := "setWord", desc := "(II)V" } : MethodName)), (Cond.selects "MonitorBoardModel" ({ cls := "MonitorBoardModel", name := "setWord", desc := "(II)V" } : MethodName) ({ cls := "MonitorBoardModel", name := "setWord", desc := "(II)V" } : MethodName)), (Cond.initialized "MonitorBoardModel")] : List Cond), w ∈ fwT := c_rWarm_23
theorem c_rWarm_59 : ∀ w ∈ ([(Cond.methodLink "MonitorBoardModel" (275 : Nat) ({ cls := "MonitorBoardModel", name := "login", desc := "(I)V" } : MethodName)), (Cond.instanceMethod ({ cls := "MonitorBoardModel", name := "login", desc := "(I)V" } : MethodName)), (Cond.selects "MonitorBoardModel" ({ cls := "MonitorBoardModel", name := "login", desc := "(I)V" } : MethodName) ({ cls := "MonitorBoardModel", name := "login", desc := "(I)V" } : MethodName)), (Cond.initialized "MonitorBoardModel")] : List Cond), w ∈ fwT := fwT_all [1972, 1974, 150, 295] (by decide +kernel) (by decide +kernel)
theorem c_rWarm_63 : ∀ w ∈ ([(Cond.methodLink "MonitorBoardModel" (123 : Nat) ({ cls := "MonitorBoardModel", name := "forget", desc := "()V" } : MethodName)), (Cond.instanceMethod ({ cls := "MonitorBoardModel", name := "forget", desc := "()V" } : MethodName)), (Cond.selects "MonitorBoardModel" ({ cls := "MonitorBoardModel", name := "forget", desc := "()V" } : MethodName) ({ cls := "MonitorBoardModel", name := "forget", desc := "()V" } : MethodName)), (Cond.initialized "MonitorBoardModel")] : List Cond), w ∈ fwT := fwT_all [1992, 1994, 155, 295] (by decide +kernel) (by decide +kernel)
theorem c_rWarm_84 : ∀ w ∈ ([(Cond.methodLink "MonitorBoardModel" (281 : Nat) ({ cls := "MonitorBoardModel", name := "prompt", desc := "()V" } : MethodName)), (Cond.instanceMethod ({ cls := "MonitorBoardModel", name := "prompt", desc := "()V" } : MethodName)), (Cond.selects "MonitorBoardModel" ({ cls := "MonitorBoardModel", name := "prompt", desc := "()V" } : MethodName) ({ cls := "MonitorBoardModel", name := "prompt", desc := "()V" } : MethodName)), (Cond.initialized "MonitorBoardModel")] : List Cond), w ∈ fwT := fwT_all [1996, 1998, 156, 295] (by decide +kernel) (by decide +kernel)
theorem c_rCold_98 : ∀ w ∈ ([(Cond.methodLink "MonitorBoardModel" (259 : Nat) ({ cls := "MonitorBoardModel", name := "newLine", desc := "()V" } : MethodName)), (Cond.instanceMethod ({ cls := "MonitorBoardModel", name := "newLine", desc := "()V" } : MethodName)), (Cond.selects "MonitorBoardModel" ({ cls := "MonitorBoardModel", name := "newLine", desc := "()V" } : MethodName) ({ cls := "MonitorBoardModel", name := "newLine", desc := "()V" } : MethodName)), (Cond.initialized "MonitorBoardModel")] : List Cond), w ∈ fwT := c_rPrompt_1
theorem c_rCold_105 : ∀ w ∈ ([(Cond.methodLink "MonitorBoardModel" (264 : Nat) ({ cls := "MonitorBoardModel", name := "tellText", desc := "(Ljava/lang/String;)V" } : MethodName)), (Cond.instanceMethod ({ cls := "MonitorBoardModel", name := "tellText", desc := "(Ljava/lang/String;)V" } : MethodName)), (Cond.selects "MonitorBoardModel" ({ cls := "MonitorBoardModel", name := "tellText", desc := "(Ljava/lang/String;)V" } : MethodName) ({ cls := "MonitorBoardModel", name := "tellText", desc := "(Ljava/lang/String;)V" } : MethodName)), (Cond.initialized "MonitorBoardModel")] : List Cond), w ∈ fwT := fwT_all [1950, 1952, 146, 295] (by decide +kernel) (by decide +kernel)
theorem c_rCold_109 : ∀ w ∈ ([(Cond.methodLink "MonitorBoardModel" (268 : Nat) ({ cls := "MonitorBoardModel", name := "warm", desc := "()V" } : MethodName)), (Cond.instanceMethod ({ cls := "MonitorBoardModel", name := "warm", desc := "()V" } : MethodName)), (Cond.selects "MonitorBoardModel" ({ cls := "MonitorBoardModel", name := "warm", desc := "()V" } : MethodName) ({ cls := "MonitorBoardModel", name := "warm", desc := "()V" } : MethodName)), (Cond.initialized "MonitorBoardModel")] : List Cond), w ∈ fwT := fwT_all [1956, 1958, 147, 295] (by decide +kernel) (by decide +kernel)
theorem c_rInit_1 : ∀ w ∈ ([(Cond.methodLink "MonitorBoardModel" (3 : Nat) ({ cls := "java/lang/Object", name := "<init>", desc := "()V" } : MethodName)), (Cond.instanceMethod ({ cls := "java/lang/Object", name := "<init>", desc := "()V" } : MethodName)), (Cond.code ({ cls := "java/lang/Object", name := "<init>", desc := "()V" } : MethodName) object_method_1_code (1 : Nat) (Option.none : Option FieldType))] : List Cond), w ∈ fwT := fwT_all [1932, 306, 307] (by decide +kernel) (by decide +kernel)
theorem c_rInit_268 : ∀ w ∈ ([(Cond.methodLink "MonitorBoardModel" (77 : Nat) ({ cls := "MonitorBoardModel", name := "cold", desc := "()V" } : MethodName)), (Cond.instanceMethod ({ cls := "MonitorBoardModel", name := "cold", desc := "()V" } : MethodName)), (Cond.selects "MonitorBoardModel" ({ cls := "MonitorBoardModel", name := "cold", desc := "()V" } : MethodName) ({ cls := "MonitorBoardModel", name := "cold", desc := "()V" } : MethodName)), (Cond.initialized "MonitorBoardModel")] : List Cond), w ∈ fwT := fwT_all [1937, 1939, 143, 295] (by decide +kernel) (by decide +kernel)
theorem c_rLoad_25 : ∀ w ∈ ([(Cond.methodLink "MonitorBoardModel" (112 : Nat) ({ cls := "MonitorBoardModel", name := "set", desc := "(II)V" } : MethodName)), (Cond.instanceMethod ({ cls := "MonitorBoardModel", name := "set", desc := "(II)V" } : MethodName)), (Cond.selects "MonitorBoardModel" ({ cls := "MonitorBoardModel", name := "set", desc := "(II)V" } : MethodName) ({ cls := "MonitorBoardModel", name := "set", desc := "(II)V" } : MethodName)), (Cond.initialized "MonitorBoardModel")] : List Cond), w ∈ fwT := c_rSetWord_3
theorem c_rJump_19 : ∀ w ∈ ([(Cond.methodLink "MonitorBoardModel" (123 : Nat) ({ cls := "MonitorBoardModel", name := "forget", desc := "()V" } : MethodName)), (Cond.instanceMethod ({ cls := "MonitorBoardModel", name := "forget", desc := "()V" } : MethodName)), (Cond.selects "MonitorBoardModel" ({ cls := "MonitorBoardModel", name := "forget", desc := "()V" } : MethodName) ({ cls := "MonitorBoardModel", name := "forget", desc := "()V" } : MethodName)), (Cond.initialized "MonitorBoardModel")] : List Cond), w ∈ fwT := c_rWarm_63
theorem c_rDisk_48 : ∀ w ∈ ([(Cond.methodLink "MonitorBoardModel" (284 : Nat) ({ cls := "MonitorBoardModel", name := "sectorAt", desc := "(III)I" } : MethodName)), (Cond.instanceMethod ({ cls := "MonitorBoardModel", name := "sectorAt", desc := "(III)I" } : MethodName)), (Cond.selects "MonitorBoardModel" ({ cls := "MonitorBoardModel", name := "sectorAt", desc := "(III)I" } : MethodName) ({ cls := "MonitorBoardModel", name := "sectorAt", desc := "(III)I" } : MethodName)), (Cond.initialized "MonitorBoardModel")] : List Cond), w ∈ fwT := c_rRecordAt_40
theorem c_rBoot_1 : ∀ w ∈ ([(Cond.methodLink "MonitorBoardModel" (77 : Nat) ({ cls := "MonitorBoardModel", name := "cold", desc := "()V" } : MethodName)), (Cond.instanceMethod ({ cls := "MonitorBoardModel", name := "cold", desc := "()V" } : MethodName)), (Cond.selects "MonitorBoardModel" ({ cls := "MonitorBoardModel", name := "cold", desc := "()V" } : MethodName) ({ cls := "MonitorBoardModel", name := "cold", desc := "()V" } : MethodName)), (Cond.initialized "MonitorBoardModel")] : List Cond), w ∈ fwT := c_rInit_268
theorem c_rRun_67 : ∀ w ∈ ([(Cond.methodLink "MonitorBoardModel" (226 : Nat) ({ cls := "MonitorBoardModel", name := "line", desc := "()Z" } : MethodName)), (Cond.instanceMethod ({ cls := "MonitorBoardModel", name := "line", desc := "()Z" } : MethodName)), (Cond.selects "MonitorBoardModel" ({ cls := "MonitorBoardModel", name := "line", desc := "()Z" } : MethodName) ({ cls := "MonitorBoardModel", name := "line", desc := "()Z" } : MethodName)), (Cond.initialized "MonitorBoardModel")] : List Cond), w ∈ fwT := fwT_all [2291, 2293, 158, 295] (by decide +kernel) (by decide +kernel)
theorem c_rRun_146 : ∀ w ∈ ([(Cond.methodLink "MonitorBoardModel" (236 : Nat) ({ cls := "MonitorBoardModel", name := "bios", desc := "(I)Z" } : MethodName)), (Cond.instanceMethod ({ cls := "MonitorBoardModel", name := "bios", desc := "(I)Z" } : MethodName)), (Cond.selects "MonitorBoardModel" ({ cls := "MonitorBoardModel", name := "bios", desc := "(I)Z" } : MethodName) ({ cls := "MonitorBoardModel", name := "bios", desc := "(I)Z" } : MethodName)), (Cond.initialized "MonitorBoardModel")] : List Cond), w ∈ fwT := fwT_all [2517, 2519, 206, 295] (by decide +kernel) (by decide +kernel)
theorem c_rRun_153 : ∀ w ∈ ([(Cond.methodLink "MonitorBoardModel" (239 : Nat) ({ cls := "MonitorBoardModel", name := "call", desc := "()Z" } : MethodName)), (Cond.instanceMethod ({ cls := "MonitorBoardModel", name := "call", desc := "()Z" } : MethodName)), (Cond.selects "MonitorBoardModel" ({ cls := "MonitorBoardModel", name := "call", desc := "()Z" } : MethodName) ({ cls := "MonitorBoardModel", name := "call", desc := "()Z" } : MethodName)), (Cond.initialized "MonitorBoardModel")] : List Cond), w ∈ fwT := fwT_all [2534, 2536, 210, 295] (by decide +kernel) (by decide +kernel)
theorem c_rRun_186 : ∀ w ∈ ([(Cond.methodLink "MonitorBoardModel" (213 : Nat) ({ cls := "MonitorBoardModel", name := "pop", desc := "()I" } : MethodName)), (Cond.instanceMethod ({ cls := "MonitorBoardModel", name := "pop", desc := "()I" } : MethodName)), (Cond.selects "MonitorBoardModel" ({ cls := "MonitorBoardModel", name := "pop", desc := "()I" } : MethodName) ({ cls := "MonitorBoardModel", name := "pop", desc := "()I" } : MethodName)), (Cond.initialized "MonitorBoardModel")] : List Cond), w ∈ fwT := fwT_all [2582, 2584, 221, 295] (by decide +kernel) (by decide +kernel)
theorem c_rRun_201 : ∀ w ∈ ([(Cond.methodLink "MonitorBoardModel" (244 : Nat) ({ cls := "MonitorBoardModel", name := "code", desc := "()I" } : MethodName)), (Cond.instanceMethod ({ cls := "MonitorBoardModel", name := "code", desc := "()I" } : MethodName)), (Cond.selects "MonitorBoardModel" ({ cls := "MonitorBoardModel", name := "code", desc := "()I" } : MethodName) ({ cls := "MonitorBoardModel", name := "code", desc := "()I" } : MethodName)), (Cond.initialized "MonitorBoardModel")] : List Cond), w ∈ fwT := fwT_all [2590, 2592, 223, 295] (by decide +kernel) (by decide +kernel)
end
section
/-! the reference: telling, and what a boot needs (laid by wip/whole/t10.py) -/
def sMod : fwE := .inr (1, [.ref 40, .ref 41, .ref 42, .ref 43, .ref 44, .ref 45, .int 0, .int 0, .int 0, .int 0, .int 0, .int 0, .ref 46, .int 0, .int 0, .int 0, .long 0, .int 0, .int 0, .ref 47, .int 0, .int 0, .int 0, .int 0, .int 0, .int 0, .int 0, .int 0, .int 0, .ref 48, .ref 49, .int 0, .ref 50, .int 0, .int 0, .int 0, .ref 51, .int 0, .int 0, .int 0, .ref 52, .int 0, .int 0, .ref 53, .int 0, .int 0, .int 0, .int 0, .int 0, .int 0, .int 0, .int 0, .int 0, .int 0, .ref 54, .int 0, .int 0, .int 0, .int 0, .ref 55, .ref 56, .ref 57, .int 0, .int 0, .int 0, .int 0, .int 0, .int 0, .int 0, .int 0, .ref 58, .int 0, .int 0, .int 0, .int 0, .int 0, .int 0, .int 0, .int 0])
abbrev shMd (re : List fwE) : List fwE := shMB (sMod :: .inl (.byte, 65536) :: .inl (.byte, 512512) :: .inl (.byte, 4000) :: .inl (.byte, 2000) :: .inl (.byte, 8000) :: .inl (.byte, 70000) :: .inl (.int, 8) :: .inl (.byte, 220) :: .inl (.boolean, 486) :: .inl (.int, 15) :: .inl (.int, 13) :: .inl (.byte, 256) :: .inl (.boolean, 64) :: .inl (.int, 11) :: .inl (.byte, 58368) :: .inl (.byte, 800) :: .inl (.int, 100) :: .inl (.int, 100) :: .inl (.byte, 10) :: re)
/-- t signs have been told by the reference, none are gone -/
def MT (σ σ' : fwS) (t : Nat) : Prop := fwSame [39, 44] σ σ' ∧ σ'.1 39 9 = 0 ∧ σ'.1 39 10 = nI t ∧ (∀ b, b ≠ 9 → b ≠ 10 → σ'.1 39 b = σ.1 39 b) ∧ σ'.2 39 = σ.2 39
theorem MT.tr {σ σ1 σ2 : fwS} {t t2 : Nat} (h1 : MT σ σ1 t) (h2 : MT σ1 σ2 t2) : MT σ σ2 t2 :=
  ⟨h1.1.tr h2.1, h2.2.1, h2.2.2.1, fun b hb hc => (h2.2.2.2.1 b hb hc).trans (h1.2.2.2.1 b hb hc), h2.2.2.2.2.trans h1.2.2.2.2⟩
section REF
variable {l : Launch} {Z : fwZ} {re : List fwE} {σ : fwS}
theorem ct_rTell {x : Int32} {t : Nat} (h3 : σ.1 39 9 = 0) (h4 : σ.1 39 10 = nI t) (ht : t < 8000) : fwC l Z m_rTell 1 0 0 [.ref 39, .int x] (shMd re) σ (fun v sh' σ' => v = none ∧ sh' = shMd re ∧ MT σ σ' (t + 1)) := by
  refine fwC_of (ls := [some (.ref 39), some (.int x)]) (by decide +kernel) rfl (by rw [fw_sl1]; exact Nat.le_refl 2) ?_
  have e1 : σ.1 39 9 + σ.1 39 10 - (σ.1 39 9 + σ.1 39 10) / 8000 * 8000 = nI t := by
    rw [h3, h4]
    have : (0 : Int32) + nI t = nI t := by rw [← nI_0, nI_add, Nat.zero_add]
    rw [this]
    show nI t - nI t / nI 8000 * nI 8000 = nI t
    rw [pk_rem (by omega) (by decide) (by decide), Nat.mod_eq_of_lt ht]
  refine fwRun_ok k_rTell_0_ok rfl ⟨by decide, by show vp_in (σ.1 39 9 + σ.1 39 10 - (σ.1 39 9 + σ.1 39 10) / 8000 * 8000) 8000; rw [e1]; exact vp_in_nI ht (by decide)⟩ ?_
  refine fwg_cmp 47 d_rTell_27 (by decide) (fun h => ?_) (fun h => absurd (show ¬ σ.1 39 10 = 8000 from fun q => ?_) h)
  · refine fwRun_ok k_rTell_47_ok rfl trivial ?_
    refine fwg_vret rfl (Nat.le_refl _) (Nat.le_refl _) ⟨rfl, rfl, ?_⟩ d_rTell_57
    refine ⟨(fwSame_I (by decide)).tr (fwSame_I (by decide)), h3, ?_, fun b hb hc => ?_, rfl⟩
    · show (fwI _ 39 10 _).1 39 10 = _
      rw [fwI_eq]
      show σ.1 39 10 + 1 = _
      rw [h4, nI_1]
    · show (fwI _ 39 10 _).1 39 b = _
      rw [fwI_ne2 hc, fwI_ne (by decide)]
  · rw [h4] at q
    exact absurd (show nI 8000 ≤ nI t by rw [q]; decide) (nI_ge ht (by decide))
theorem ct_rNewLine {t : Nat} (h3 : σ.1 39 9 = 0) (h4 : σ.1 39 10 = nI t) (ht : t + 2 ≤ 8000) : fwC l Z m_rNewLine 2 0 0 [.ref 39] (shMd re) σ (fun v sh' σ' => v = none ∧ sh' = shMd re ∧ MT σ σ' (t + 2)) := by
  refine fwC_of (ls := [some (.ref 39)]) (by decide +kernel) rfl (by rw [fw_sl1]; exact Nat.le_refl 1) ?_
  refine fwRun_ok k_rNewLine_0_ok rfl trivial ?_
  refine fwg_callV (n := 1) (i := 39) (as := [.int 13]) (r := []) (ct_rTell h3 h4 (by omega)) ⟨by decide, by decide, by decide +kernel⟩ m_rTell_in c_rNewLine_3 rfl rfl rfl rfl (Nat.le_of_ble_eq_true rfl) d_rNewLine_3 ⟨Nat.le_of_ble_eq_true rfl, Nat.le_of_ble_eq_true rfl⟩ ⟨Nat.le_refl _, Nat.le_refl _⟩ (fun v sh' σ1 hq => ?_)
  obtain ⟨rfl, rfl, h1⟩ := hq
  refine fwRun_ok k_rNewLine_6_ok rfl trivial ?_
  refine fwg_callV (n := 1) (i := 39) (as := [.int 10]) (r := []) (ct_rTell h1.2.1 h1.2.2.1 (by omega)) ⟨by decide, by decide, by decide +kernel⟩ m_rTell_in c_rNewLine_9 rfl rfl rfl rfl (Nat.le_of_ble_eq_true rfl) d_rNewLine_9 ⟨Nat.le_of_ble_eq_true rfl, Nat.le_of_ble_eq_true rfl⟩ ⟨Nat.le_refl _, Nat.le_refl _⟩ (fun v sh' σ2 hq => ?_)
  obtain ⟨rfl, rfl, h2⟩ := hq
  exact fwg_vret rfl (Nat.le_refl _) (Nat.le_refl _) ⟨rfl, rfl, h1.tr h2⟩ d_rNewLine_12
theorem rTellText_loop {c : Nat} (hc : c < fwNs) (hL : fwSl.getD c 0 < 2 ^ 31) {Post : fwPost} : ∀ (q j : Nat) (t : Nat) (σ : fwS), j + q = fwSl.getD c 0 → σ.1 39 9 = 0 → σ.1 39 10 = nI t → t + q ≤ 8000 → (∀ σ', MT σ σ' (t + q) → Post none (shMd re) σ') → fwG l Z m_rTellText 5 0 0 Post 0 0 2 [some (.ref 39), some (.retAddr c), some (.int (nI j))] [] (shMd re) σ := by
  intro q
  induction q with
  | zero =>
    intro j t σ hj h3 h4 ht hp
    refine fwRun_ok k_rTellText_2_ok rfl trivial ?_
    refine fwg_callK (n := 0) (as := []) (r := [.int (nI j)]) (ct_slen hc) ⟨by decide, by decide, by decide +kernel⟩ rfl m_slen_in c_rTellText_4 hc rfl rfl (Nat.le_of_ble_eq_true rfl) d_rTellText_4 ⟨Nat.le_of_ble_eq_true rfl, Nat.le_of_ble_eq_true rfl⟩ ⟨Nat.le_refl _, Nat.le_refl _⟩ (fun v sh' σ' hq => ?_)
    obtain ⟨rfl, rfl, rfl⟩ := hq
    refine fwg_cmp 25 d_rTellText_7 (by decide) (fun h => ?_) (fun h => absurd (nI_le (by omega) (by omega)) h)
    exact fwg_vret rfl (Nat.le_refl _) (Nat.le_refl _) (hp σ' ⟨fwSame.rf, h3, h4, fun _ _ _ => rfl, rfl⟩) d_rTellText_25
  | succ q ih =>
    intro j t σ hj h3 h4 ht hp
    refine fwRun_ok k_rTellText_2_ok rfl trivial ?_
    refine fwg_callK (n := 0) (as := []) (r := [.int (nI j)]) (ct_slen hc) ⟨by decide, by decide, by decide +kernel⟩ rfl m_slen_in c_rTellText_4 hc rfl rfl (Nat.le_of_ble_eq_true rfl) d_rTellText_4 ⟨Nat.le_of_ble_eq_true rfl, Nat.le_of_ble_eq_true rfl⟩ ⟨Nat.le_refl _, Nat.le_refl _⟩ (fun v sh' σ' hq => ?_)
    obtain ⟨rfl, rfl, rfl⟩ := hq
    refine fwg_cmp 25 d_rTellText_7 (by decide) (fun h => absurd (show nI (fwSl.getD c 0) ≤ nI j from h) (nI_ge (by omega) hL)) (fun h => ?_)
    refine fwRun_ok k_rTellText_10_ok rfl trivial ?_
    refine fwg_callK (n := 1) (as := [.int (nI j)]) (r := [.ref 39]) (ct_schar (j := j) hc (by omega)) ⟨by decide, by decide, by decide +kernel⟩ rfl m_schar_in c_rTellText_13 hc rfl rfl (Nat.le_of_ble_eq_true rfl) d_rTellText_13 ⟨Nat.le_of_ble_eq_true rfl, Nat.le_of_ble_eq_true rfl⟩ ⟨Nat.le_refl _, Nat.le_refl _⟩ (fun v sh' σ'' hq => ?_)
    obtain ⟨rfl, rfl, rfl⟩ := hq
    refine fwg_callV (n := 1) (i := 39) (as := [.int (fwCh c j)]) (r := []) (ct_rTell h3 h4 (by omega)) ⟨by decide, by decide, by decide +kernel⟩ m_rTell_in c_rTellText_16 rfl rfl rfl rfl (Nat.le_of_ble_eq_true rfl) d_rTellText_16 ⟨Nat.le_of_ble_eq_true rfl, Nat.le_of_ble_eq_true rfl⟩ ⟨Nat.le_refl _, Nat.le_refl _⟩ (fun v sh' σ3 hq => ?_)
    obtain ⟨rfl, rfl, hT⟩ := hq
    refine fwRun_ok k_rTellText_19_ok rfl trivial ?_
    refine fwg_goto 2 d_rTellText_22 (by decide) ?_
    have := ih (j + 1) (t + 1) σ3 (by omega) hT.2.1 hT.2.2.1 (by omega) (fun σ4 h4' => hp σ4 (by have := hT.tr h4'; rwa [show t + 1 + q = t + (q + 1) by omega] at this))
    rw [← nI_1] at this
    exact this
theorem ct_rTellText {c t : Nat} (hc : c < fwNs) (h3 : σ.1 39 9 = 0) (h4 : σ.1 39 10 = nI t) (ht : t + fwSl.getD c 0 ≤ 8000) : fwC l Z m_rTellText 5 0 0 [.ref 39, .retAddr c] (shMd re) σ (fun v sh' σ' => v = none ∧ sh' = shMd re ∧ MT σ σ' (t + fwSl.getD c 0)) := by
  obtain ⟨-, hL, -⟩ := fw_sc c hc
  refine fwC_of (ls := [some (.ref 39), some (.retAddr c), none]) (by decide +kernel) rfl (by rw [fw_sl1]; exact Nat.le_of_ble_eq_true rfl) ?_
  refine fwRun_ok k_rTellText_0_ok rfl trivial ?_
  exact rTellText_loop hc hL (fwSl.getD c 0) 0 t σ (by omega) h3 h4 (by omega) (fun σ' h => ⟨rfl, rfl, h⟩)
theorem ct_rSet {a v : Int32} (ha : a < 1048576) : fwC l Z m_rSet 1 0 0 [.ref 39, .int a, .int v] (shMd re) σ (fun w sh' σ' => w = none ∧ sh' = shMd re ∧ σ' = fwI σ 40 (a &&& 65535).toNatClampNeg v.toInt8.toInt32) := by
  refine fwC_of (ls := [some (.ref 39), some (.int a), some (.int v)]) (by decide +kernel) rfl (by rw [fw_sl1]; exact Nat.le_refl 3) ?_
  refine fwRun_ok k_rSet_0_ok rfl trivial ?_
  refine fwg_cmp 20 d_rSet_3 (by decide) (fun _ => ?_) (fun q => absurd ha q)
  refine fwRun_ok k_rSet_20_ok rfl (pk_andIn a 16 (by decide) (by decide)) ?_
  refine fwg_vret rfl (Nat.le_refl _) (Nat.le_refl _) ⟨rfl, rfl, ?_⟩ d_rSet_31
  show fwI σ 40 _ v.toInt8.toInt32.toInt8.toInt32 = _
  congr 1
  exact fw_b2 v
theorem ct_rSetWord {a v : Int32} (ha : a < 1048576) (hb : a + 1 < 1048576) : fwC l Z m_rSetWord 2 0 0 [.ref 39, .int a, .int v] (shMd re) σ (fun w sh' σ' => w = none ∧ sh' = shMd re ∧ σ' = fwI (fwI σ 40 (a &&& 65535).toNatClampNeg v.toInt8.toInt32) 40 ((a + 1) &&& 65535).toNatClampNeg (v >>> (8 &&& 31)).toInt8.toInt32) := by
  refine fwC_of (ls := [some (.ref 39), some (.int a), some (.int v)]) (by decide +kernel) rfl (by rw [fw_sl1]; exact Nat.le_refl 3) ?_
  refine fwRun_ok k_rSetWord_0_ok rfl trivial ?_
  refine fwg_callV (n := 2) (i := 39) (as := [.int a, .int v]) (r := []) (ct_rSet ha) ⟨by decide, by decide, by decide +kernel⟩ m_rSet_in c_rSetWord_3 rfl rfl rfl rfl (Nat.le_of_ble_eq_true rfl) d_rSetWord_3 ⟨Nat.le_of_ble_eq_true rfl, Nat.le_of_ble_eq_true rfl⟩ ⟨Nat.le_refl _, Nat.le_refl _⟩ (fun v sh' σ1 hq => ?_)
  obtain ⟨rfl, rfl, rfl⟩ := hq
  refine fwRun_ok k_rSetWord_6_ok rfl trivial ?_
  refine fwg_callV (n := 2) (i := 39) (as := [.int (a + 1), .int (v >>> (8 &&& 31))]) (r := []) (ct_rSet hb) ⟨by decide, by decide, by decide +kernel⟩ m_rSet_in c_rSetWord_14 rfl rfl rfl rfl (Nat.le_of_ble_eq_true rfl) d_rSetWord_14 ⟨Nat.le_of_ble_eq_true rfl, Nat.le_of_ble_eq_true rfl⟩ ⟨Nat.le_refl _, Nat.le_refl _⟩ (fun v sh' σ2 hq => ?_)
  obtain ⟨rfl, rfl, rfl⟩ := hq
  exact fwg_vret rfl (Nat.le_refl _) (Nat.le_refl _) ⟨rfl, rfl, rfl⟩ d_rSetWord_17
theorem ct_rForget : fwC l Z m_rForget 1 0 0 [.ref 39] (shMd re) σ (fun w sh' σ' => w = none ∧ sh' = shMd re ∧ σ' = fwI σ 39 35 (-1)) := by
  refine fwC_of (ls := [some (.ref 39)]) (by decide +kernel) rfl (by rw [fw_sl1]; exact Nat.le_refl 1) ?_
  refine fwRun_ok k_rForget_0_ok rfl trivial ?_
  exact fwg_vret rfl (Nat.le_refl _) (Nat.le_refl _) ⟨rfl, rfl, rfl⟩ d_rForget_5
theorem ct_rPrompt {t : Nat} (h3 : σ.1 39 9 = 0) (h4 : σ.1 39 10 = nI t) (ht : t + 4 ≤ 8000) (hu : σ.1 39 22 = 0) : fwC l Z m_rPrompt 3 0 0 [.ref 39] (shMd re) σ (fun v sh' σ' => v = none ∧ sh' = shMd re ∧ MT σ σ' (t + 4)) := by
  refine fwC_of (ls := [some (.ref 39)]) (by decide +kernel) rfl (by rw [fw_sl1]; exact Nat.le_refl 1) ?_
  refine fwRun_ok k_rPrompt_0_ok rfl trivial ?_
  refine fwg_callV (n := 0) (i := 39) (as := []) (r := []) (ct_rNewLine h3 h4 (by omega)) ⟨by decide, by decide, by decide +kernel⟩ m_rNewLine_in c_rPrompt_1 rfl rfl rfl rfl (Nat.le_of_ble_eq_true rfl) d_rPrompt_1 ⟨Nat.le_of_ble_eq_true rfl, Nat.le_of_ble_eq_true rfl⟩ ⟨Nat.le_refl _, Nat.le_refl _⟩ (fun v sh' σ1 hq => ?_)
  obtain ⟨rfl, rfl, h1⟩ := hq
  refine fwRun_ok k_rPrompt_4_ok rfl trivial ?_
  refine fwg_callV (n := 1) (i := 39) (as := [.int (65 + σ1.1 39 21)]) (r := []) (ct_rTell h1.2.1 h1.2.2.1 (by omega)) ⟨by decide, by decide, by decide +kernel⟩ m_rTell_in c_rPrompt_12 rfl rfl rfl rfl (Nat.le_of_ble_eq_true rfl) d_rPrompt_12 ⟨Nat.le_of_ble_eq_true rfl, Nat.le_of_ble_eq_true rfl⟩ ⟨Nat.le_refl _, Nat.le_refl _⟩ (fun v sh' σ2 hq => ?_)
  obtain ⟨rfl, rfl, h2⟩ := hq
  refine fwRun_ok k_rPrompt_15_ok rfl trivial ?_
  refine fwg_if 30 d_rPrompt_19 (by decide) (fun _ => ?_) (fun q => absurd (show σ2.1 39 22 ≤ 0 by rw [(h1.tr h2).2.2.2.1 22 (by decide) (by decide), hu]; decide) q)
  refine fwRun_ok k_rPrompt_30_ok rfl trivial ?_
  refine fwg_callV (n := 1) (i := 39) (as := [.int 62]) (r := []) (ct_rTell h2.2.1 h2.2.2.1 (by omega)) ⟨by decide, by decide, by decide +kernel⟩ m_rTell_in c_rPrompt_33 rfl rfl rfl rfl (Nat.le_of_ble_eq_true rfl) d_rPrompt_33 ⟨Nat.le_of_ble_eq_true rfl, Nat.le_of_ble_eq_true rfl⟩ ⟨Nat.le_refl _, Nat.le_refl _⟩ (fun v sh' σ3 hq => ?_)
  obtain ⟨rfl, rfl, h5⟩ := hq
  exact fwg_vret rfl (Nat.le_refl _) (Nat.le_refl _) ⟨rfl, rfl, (h1.tr h2).tr h5⟩ d_rPrompt_36
end REF
end
section
/-! the reference: a drive is logged in (laid by wip/whole/t11.py) -/
section REF
variable {l : Launch} {Z : fwZ} {re : List fwE} {σ : fwS}
theorem ct_rSectorAt {dr t s : Nat} (hs : 1 ≤ s) : fwC l Z m_rSectorAt 1 0 0 [.ref 39, .int (nI dr), .int (nI t), .int (nI s)] (shMd re) σ (fwPure (.int (nI (128 * ((77 * dr + t) * 26 + s - 1)))) (shMd re) σ) := by
  refine fwC_of (ls := [some (.ref 39), some (.int (nI dr)), some (.int (nI t)), some (.int (nI s))]) (by decide +kernel) rfl (by rw [fw_sl1]; exact Nat.le_refl 4) ?_
  refine fwRun_ok k_rSectorAt_0_ok rfl trivial ?_
  refine fwg_iret rfl (Nat.le_refl _) (Nat.le_refl _) ⟨?_, rfl, rfl⟩ d_rSectorAt_17
  show some (Value.int (nI 128 * ((nI 77 * nI dr + nI t) * nI 26 + nI s - nI 1))) = _
  rw [pk_mul, nI_add, pk_mul, nI_add, pk_sub (by omega), pk_mul]
theorem ct_rRecordAt {b r : Nat} (h : 8 * b + r < 1944) : fwC l Z m_rRecordAt 2 0 0 [.ref 39, .int (nI 0), .int (nI b), .int (nI r)] (shMd re) σ (fun w sh' σ' => (∃ q, w = some (.int (nI q)) ∧ q + 128 ≤ 256256) ∧ sh' = shMd re ∧ σ' = σ) := by
  refine fwC_of (ls := [some (.ref 39), some (.int (nI 0)), some (.int (nI b)), some (.int (nI r)), none, none]) (by decide +kernel) rfl (by rw [fw_sl1]; exact Nat.le_of_ble_eq_true rfl) ?_
  refine fwRun_ok k_rRecordAt_0_ok rfl ⟨show ¬ (26 : Int32) = 0 by decide, show ¬ (26 : Int32) = 0 by decide, show ¬ (13 : Int32) = 0 by decide, show ¬ (26 : Int32) = 0 by decide⟩ ?_
  have hn : nI 8 * nI b + nI r = nI (8 * b + r) := by rw [pk_mul, nI_add]
  have hi : nI (8 * b + r) - nI (8 * b + r) / nI 26 * nI 26 = nI ((8 * b + r) % 26) := pk_rem (by omega) (by decide) (by decide)
  have hq : nI 6 * nI ((8 * b + r) % 26) + nI ((8 * b + r) % 26) / nI 13 = nI (6 * ((8 * b + r) % 26) + (8 * b + r) % 26 / 13) := by rw [pk_mul, pk_div (by omega) (by decide) (by decide), nI_add]
  have hs : nI 1 + (nI (6 * ((8 * b + r) % 26) + (8 * b + r) % 26 / 13) - nI (6 * ((8 * b + r) % 26) + (8 * b + r) % 26 / 13) / nI 26 * nI 26) = nI (1 + (6 * ((8 * b + r) % 26) + (8 * b + r) % 26 / 13) % 26) := by rw [pk_rem (by omega) (by decide) (by decide), nI_add]
  have ht : nI 2 + nI (8 * b + r) / nI 26 = nI (2 + (8 * b + r) / 26) := by rw [pk_div (by omega) (by decide) (by decide), nI_add]
  show fwG l Z m_rRecordAt _ _ _ _ _ _ 40 _ [.int (nI 1 + ((nI 6 * (nI 8 * nI b + nI r - (nI 8 * nI b + nI r) / nI 26 * nI 26) + (nI 8 * nI b + nI r - (nI 8 * nI b + nI r) / nI 26 * nI 26) / nI 13) - (nI 6 * (nI 8 * nI b + nI r - (nI 8 * nI b + nI r) / nI 26 * nI 26) + (nI 8 * nI b + nI r - (nI 8 * nI b + nI r) / nI 26 * nI 26) / nI 13) / nI 26 * nI 26)), .int (nI 2 + (nI 8 * nI b + nI r) / nI 26), .int (nI 0), .ref 39] _ _
  rw [hn, hi, hq, hs, ht]
  refine fwg_callV (n := 3) (i := 39) (as := [.int (nI 0), .int (nI (2 + (8 * b + r) / 26)), .int (nI (1 + (6 * ((8 * b + r) % 26) + (8 * b + r) % 26 / 13) % 26))]) (r := []) (ct_rSectorAt (by omega)) ⟨by decide, by decide, by decide +kernel⟩ m_rSectorAt_in c_rRecordAt_40 rfl rfl rfl rfl (Nat.le_of_ble_eq_true rfl) d_rRecordAt_40 ⟨Nat.le_of_ble_eq_true rfl, Nat.le_of_ble_eq_true rfl⟩ ⟨Nat.le_refl _, Nat.le_refl _⟩ (fun v sh' σ1 hq => ?_)
  obtain ⟨rfl, rfl, rfl⟩ := hq
  exact fwg_iret rfl (Nat.le_refl _) (Nat.le_refl _) ⟨⟨_, rfl, by omega⟩, rfl, rfl⟩ d_rRecordAt_43
theorem ct_rEntryAt {e k : Nat} (he : e < 64) (hk : k < 32) : fwC l Z m_rEntryAt 3 0 0 [.ref 39, .int (nI 0), .int (nI e), .int (nI k)] (shMd re) σ (fun w sh' σ' => (∃ q, w = some (.int (nI q)) ∧ q < 256256) ∧ sh' = shMd re ∧ σ' = σ) := by
  refine fwC_of (ls := [some (.ref 39), some (.int (nI 0)), some (.int (nI e)), some (.int (nI k))]) (by decide +kernel) rfl (by rw [fw_sl1]; exact Nat.le_refl 4) ?_
  refine fwRun_ok k_rEntryAt_0_ok rfl ⟨show ¬ (32 : Int32) = 0 by decide, show ¬ (4 : Int32) = 0 by decide, show ¬ (8 : Int32) = 0 by decide⟩ ?_
  have h1 : nI e / nI 32 = nI (e / 32) := pk_div (by omega) (by decide) (by decide)
  have h2 : nI e / nI 4 = nI (e / 4) := pk_div (by omega) (by decide) (by decide)
  have h3 : nI (e / 4) - nI (e / 4) / nI 8 * nI 8 = nI (e / 4 % 8) := pk_rem (by omega) (by decide) (by decide)
  have h4 : nI e - nI e / nI 4 * nI 4 = nI (e % 4) := pk_rem (by omega) (by decide) (by decide)
  show fwG l Z m_rEntryAt _ _ _ _ _ _ 12 _ [.int (nI e / nI 4 - nI e / nI 4 / nI 8 * nI 8), .int (nI e / nI 32), .int (nI 0), .ref 39] _ _
  rw [h2, h3, h1]
  refine fwg_callV (n := 3) (i := 39) (as := [.int (nI 0), .int (nI (e / 32)), .int (nI (e / 4 % 8))]) (r := []) (ct_rRecordAt (by omega)) ⟨by decide, by decide, by decide +kernel⟩ m_rRecordAt_in c_rEntryAt_12 rfl rfl rfl rfl (Nat.le_of_ble_eq_true rfl) d_rEntryAt_12 ⟨Nat.le_of_ble_eq_true rfl, Nat.le_of_ble_eq_true rfl⟩ ⟨Nat.le_refl _, Nat.le_refl _⟩ (fun v sh' σ1 hq => ?_)
  obtain ⟨⟨q, rfl, hq⟩, rfl, rfl⟩ := hq
  refine fwRun_ok k_rEntryAt_15_ok rfl (show ¬ (4 : Int32) = 0 by decide) ?_
  refine fwg_iret rfl (Nat.le_refl _) (Nat.le_refl _) ⟨⟨q + 32 * (e % 4) + k, ?_, by omega⟩, rfl, rfl⟩ d_rEntryAt_24
  show some (Value.int (nI q + nI 32 * (nI e - nI e / nI 4 * nI 4) + nI k)) = _
  rw [h4, pk_mul, nI_add, nI_add]
theorem ct_rEntry {e k : Nat} (he : e < 64) (hk : k < 32) (hD : ∀ j, j < 512512 → σ.1 41 j = -27) : fwC l Z m_rEntry 4 0 0 [.ref 39, .int (nI 0), .int (nI e), .int (nI k)] (shMd re) σ (fwPure (.int 229) (shMd re) σ) := by
  refine fwC_of (ls := [some (.ref 39), some (.int (nI 0)), some (.int (nI e)), some (.int (nI k))]) (by decide +kernel) rfl (by rw [fw_sl1]; exact Nat.le_refl 4) ?_
  refine fwRun_ok k_rEntry_0_ok rfl trivial ?_
  refine fwg_callV (n := 3) (i := 39) (as := [.int (nI 0), .int (nI e), .int (nI k)]) (r := [.ref 41]) (ct_rEntryAt he hk) ⟨by decide, by decide, by decide +kernel⟩ m_rEntryAt_in c_rEntry_8 rfl rfl rfl rfl (Nat.le_of_ble_eq_true rfl) d_rEntry_8 ⟨Nat.le_of_ble_eq_true rfl, Nat.le_of_ble_eq_true rfl⟩ ⟨Nat.le_refl _, Nat.le_refl _⟩ (fun v sh' σ1 hq => ?_)
  obtain ⟨⟨q, rfl, hq⟩, rfl, rfl⟩ := hq
  refine fwRun_ok k_rEntry_11_ok rfl (vp_in_nI (by omega) (by decide)) ?_
  refine fwg_iret rfl (Nat.le_refl _) (Nat.le_refl _) ⟨?_, rfl, rfl⟩ d_rEntry_16
  show some (Value.int (σ1.1 41 (nI q).toNatClampNeg &&& 255)) = _
  rw [nI_clamp (by omega), hD q (by omega)]
  rfl
theorem rLogin_2 {Post : fwPost} (hD : ∀ j, j < 512512 → σ.1 41 j = -27) (hp : Post none (shMd re) σ) : ∀ (q e : Nat), e + q = 64 → fwG l Z m_rLogin 5 0 0 Post 0 0 64 [some (.ref 39), some (.int 0), some (.int (nI e)), none] [] (shMd re) σ := by
  intro q
  induction q with
  | zero =>
    intro e he
    refine fwRun_ok k_rLogin_64_ok rfl trivial ?_
    refine fwg_cmp 139 d_rLogin_67 (by decide) (fun h => ?_) (fun h => absurd (nI_le (a := 64) (by omega) (by omega)) h)
    exact fwg_vret rfl (Nat.le_refl _) (Nat.le_refl _) hp d_rLogin_139
  | succ q ih =>
    intro e he
    refine fwRun_ok k_rLogin_64_ok rfl trivial ?_
    refine fwg_cmp 139 d_rLogin_67 (by decide) (fun h => absurd (show (64 : Int32) ≤ nI e from h) (nI_ge (b := 64) (by omega) (by decide))) (fun h => ?_)
    refine fwRun_ok k_rLogin_70_ok rfl trivial ?_
    refine fwg_callV (n := 3) (i := 39) (as := [.int (nI 0), .int (nI e), .int (nI 0)]) (r := []) (ct_rEntry (by omega) (by decide) hD) ⟨by decide, by decide, by decide +kernel⟩ m_rEntry_in c_rLogin_74 rfl rfl rfl rfl (Nat.le_of_ble_eq_true rfl) d_rLogin_74 ⟨Nat.le_of_ble_eq_true rfl, Nat.le_of_ble_eq_true rfl⟩ ⟨Nat.le_refl _, Nat.le_refl _⟩ (fun v sh' σ1 hq => ?_)
    obtain ⟨rfl, rfl, rfl⟩ := hq
    refine fwRun_ok k_rLogin_77_ok rfl trivial ?_
    refine fwg_cmp 86 d_rLogin_80 (by decide) (fun h => absurd (show (229 : Int32) = 229 from rfl) h) (fun _ => ?_)
    refine fwg_goto 133 d_rLogin_83 (by decide) ?_
    refine fwRun_ok k_rLogin_133_ok rfl trivial ?_
    refine fwg_goto 64 d_rLogin_136 (by decide) ?_
    have := ih (e + 1) (by omega)
    rw [← nI_1] at this
    exact this
theorem rLogin_1 {Post : fwPost} {σ0 : fwS} (hD : ∀ j, j < 512512 → σ0.1 41 j = -27) (hp : ∀ σ', fwSame [48] σ0 σ' → Post none (shMd re) σ') : ∀ (q b : Nat) (σ : fwS), b + q = 243 → fwSame [48] σ0 σ → fwG l Z m_rLogin 5 0 0 Post 0 0 27 [some (.ref 39), some (.int 0), some (.int (nI b)), none] [] (shMd re) σ := by
  intro q
  induction q with
  | zero =>
    intro b σ hb hs
    refine fwRun_ok k_rLogin_27_ok rfl trivial ?_
    refine fwg_cmp 62 d_rLogin_31 (by decide) (fun h => ?_) (fun h => absurd (nI_le (a := 243) (by omega) (by omega)) h)
    refine fwRun_ok k_rLogin_62_ok rfl trivial ?_
    exact rLogin_2 (fun j hj => by rw [hs.c (by decide)]; exact hD j hj) (hp σ hs) 64 0 rfl
  | succ q ih =>
    intro b σ hb hs
    refine fwRun_ok k_rLogin_27_ok rfl trivial ?_
    refine fwg_cmp 62 d_rLogin_31 (by decide) (fun h => absurd (show (243 : Int32) ≤ nI b from h) (nI_ge (b := 243) (by omega) (by decide))) (fun h => ?_)
    refine fwRun_ok k_rLogin_34_ok rfl trivial ?_
    have key : ∀ x : Int32, fwG l Z m_rLogin 5 0 0 Post 0 0 55 [some (.ref 39), some (.int 0), some (.int (nI b)), none] [.int x, .int ((243 : Int32) * 0 + nI b), .ref 48] (shMd re) σ := by
      intro x
      have hx : (243 : Int32) * 0 + nI b = nI b := by rw [show (243 : Int32) * 0 = nI 0 from by decide, nI_add, Nat.zero_add]
      rw [hx]
      refine fwRun_ok k_rLogin_55_ok rfl (vp_in_nI (by omega) (by decide)) ?_
      refine fwg_goto 27 d_rLogin_59 (by decide) ?_
      have := ih (b + 1) (fwI σ 48 (nI b).toNatClampNeg (x &&& 1)) (by omega) (hs.tr (fwSame_I (by decide)))
      rw [← nI_1] at this
      exact this
    refine fwg_cmp 54 d_rLogin_47 (by decide) (fun h => ?_) (fun h => ?_)
    · refine fwRun_ok k_rLogin_54_ok rfl trivial ?_
      exact key 0
    · refine fwRun_ok k_rLogin_50_ok rfl trivial ?_
      refine fwg_goto 55 d_rLogin_51 (by decide) ?_
      exact key 1
theorem ct_rLogin (hD : ∀ j, j < 512512 → σ.1 41 j = -27) (h0 : σ.1 39 27 = 0) : fwC l Z m_rLogin 5 0 0 [.ref 39, .int 0] (shMd re) σ (fun w sh' σ' => w = none ∧ sh' = shMd re ∧ fwSame [48] (fwI σ 39 27 1) σ') := by
  refine fwC_of (ls := [some (.ref 39), some (.int 0), none, none]) (by decide +kernel) rfl (by rw [fw_sl1]; exact Nat.le_of_ble_eq_true rfl) ?_
  refine fwRun_ok k_rLogin_0_ok rfl trivial ?_
  refine fwg_cmp 13 d_rLogin_9 (by decide) (fun _ => ?_) (fun q => absurd (show ¬ (σ.1 39 27 >>> ((0 : Int32) &&& 31) &&& 1) = 1 by rw [h0]; decide) q)
  refine fwRun_ok k_rLogin_13_ok rfl trivial ?_
  have e : σ.1 39 27 ||| ((1 : Int32) <<< ((0 : Int32) &&& 31)) = 1 := by rw [h0]; decide
  show fwG l Z m_rLogin _ _ _ _ _ _ 27 _ _ _ (fwI σ 39 27 (σ.1 39 27 ||| ((1 : Int32) <<< ((0 : Int32) &&& 31))))
  rw [e]
  exact rLogin_1 (σ0 := fwI σ 39 27 1) (fun j hj => by rw [fwI_ne (by decide)]; exact hD j hj) (fun σ' h => ⟨rfl, rfl, h⟩) 243 0 _ rfl fwSame.rf
end REF
end
section
/-! the reference boots (laid by wip/whole/t12.py) -/
theorem fwEx_I {S : List Nat} {σ : fwS} {i k : Nat} {v : Int32} (h : k ∈ S) : ∀ b, b ∉ S → (fwI σ i k v).1 i b = σ.1 i b := fun b hb => fwI_ne2 (fun q => hb (by rw [q]; exact h))
def MW (σ σ' : fwS) (t : Nat) : Prop := fwSame [39, 40, 44, 48] σ σ' ∧ (σ'.1 39 9 = 0 ∧ σ'.1 39 10 = nI t ∧ σ'.1 39 15 = 60419 ∧ σ'.1 39 17 = 0 ∧ σ'.1 39 18 = 1 ∧ σ'.1 39 23 = 128 ∧ σ'.1 39 35 = -1) ∧ (∀ b, b ∉ ([9, 10, 15, 17, 18, 20, 23, 27, 31, 35] : List Nat) → σ'.1 39 b = σ.1 39 b) ∧ σ'.1 40 = memW (σ.1 40) ∧ σ'.2 39 = σ.2 39
section REF
variable {l : Launch} {Z : fwZ} {re : List fwE} {σ : fwS}
theorem ct_rWarm {t : Nat} (h3 : σ.1 39 9 = 0) (h4 : σ.1 39 10 = nI t) (ht : t + 4 ≤ 8000) (hh : σ.1 39 21 = 0) (hu : σ.1 39 22 = 0) (hD : ∀ j, j < 512512 → σ.1 41 j = -27) : fwC l Z m_rWarm 6 0 0 [.ref 39] (shMd re) σ (fun w sh' σ' => w = none ∧ sh' = shMd re ∧ MW σ σ' (t + 4)) := by
  refine fwC_of (ls := [some (.ref 39)]) (by decide +kernel) rfl (by rw [fw_sl1]; exact Nat.le_refl 1) ?_
  refine fwRun_ok k_rWarm_0_ok rfl ⟨Or.inr rfl, Or.inl rfl⟩ ?_
  generalize ha : fwI (fwI σ 39 20 1) 39 17 0 = σa
  have Sa : fwSame [39] σ σa := by rw [← ha]; exact (fwSame_I (by decide)).tr (fwSame_I (by decide))
  have Ea : ∀ b, b ∉ ([9, 10, 15, 17, 18, 20, 23, 27, 31, 35] : List Nat) → σa.1 39 b = σ.1 39 b := fun b hb => by rw [← ha, fwEx_I (by decide) b hb, fwEx_I (by decide) b hb]
  have a17 : σa.1 39 17 = 0 := by rw [← ha, fwI_eq]
  have a9 : σa.1 39 9 = 0 := by rw [← ha, fwI_ne2 (by decide), fwI_ne2 (by decide)]; exact h3
  have a10 : σa.1 39 10 = nI t := by rw [← ha, fwI_ne2 (by decide), fwI_ne2 (by decide)]; exact h4
  have al : σa.2 39 = σ.2 39 := by rw [← ha]; rfl
  clear ha
  refine fwg_callV (n := 2) (i := 39) (as := [.int 0, .int 195]) (r := []) (ct_rSet (by decide)) ⟨by decide, by decide, by decide +kernel⟩ m_rSet_in c_rWarm_15 rfl rfl rfl rfl (Nat.le_of_ble_eq_true rfl) d_rWarm_15 ⟨Nat.le_of_ble_eq_true rfl, Nat.le_of_ble_eq_true rfl⟩ ⟨Nat.le_refl _, Nat.le_refl _⟩ (fun v sh' σ1 hq => ?_)
  obtain ⟨rfl, rfl, h1⟩ := hq
  refine fwRun_ok k_rWarm_18_ok rfl trivial ?_
  refine fwg_ldcw (v := 60419) (List.mem_of_getElem? (i := 39) rfl) d_rWarm_20 ?_
  refine fwg_callV (n := 2) (i := 39) (as := [.int 1, .int 60419]) (r := []) (ct_rSetWord (by decide) (by decide)) ⟨by decide, by decide, by decide +kernel⟩ m_rSetWord_in c_rWarm_23 rfl rfl rfl rfl (Nat.le_of_ble_eq_true rfl) d_rWarm_23 ⟨Nat.le_of_ble_eq_true rfl, Nat.le_of_ble_eq_true rfl⟩ ⟨Nat.le_refl _, Nat.le_refl _⟩ (fun v sh' σ2 hq => ?_)
  obtain ⟨rfl, rfl, h2⟩ := hq
  refine fwRun_ok k_rWarm_26_ok rfl trivial ?_
  refine fwg_callV (n := 2) (i := 39) (as := [.int 5, .int 195]) (r := []) (ct_rSet (by decide)) ⟨by decide, by decide, by decide +kernel⟩ m_rSet_in c_rWarm_31 rfl rfl rfl rfl (Nat.le_of_ble_eq_true rfl) d_rWarm_31 ⟨Nat.le_of_ble_eq_true rfl, Nat.le_of_ble_eq_true rfl⟩ ⟨Nat.le_refl _, Nat.le_refl _⟩ (fun v sh' σ3 hq => ?_)
  obtain ⟨rfl, rfl, h3⟩ := hq
  refine fwRun_ok k_rWarm_34_ok rfl trivial ?_
  refine fwg_callV (n := 2) (i := 39) (as := [.int 6, .int 60934]) (r := []) (ct_rSetWord (by decide) (by decide)) ⟨by decide, by decide, by decide +kernel⟩ m_rSetWord_in c_rWarm_39 rfl rfl rfl rfl (Nat.le_of_ble_eq_true rfl) d_rWarm_39 ⟨Nat.le_of_ble_eq_true rfl, Nat.le_of_ble_eq_true rfl⟩ ⟨Nat.le_refl _, Nat.le_refl _⟩ (fun v sh' σ4 hq => ?_)
  obtain ⟨rfl, rfl, h4⟩ := hq
  have hm : σ4.1 40 = memW (σ.1 40) := by
    rw [h4, fwI_row, fwI_row, h3, fwI_row, h2, fwI_row, fwI_row, h1, fwI_row, (Sa 40 (by decide)).1]
    rfl
  have S4 : fwSame [40] σa σ4 := by
    rw [h4, h3, h2, h1]
    exact (((((fwSame_I (by decide)).tr (fwSame_I (by decide))).tr (fwSame_I (by decide))).tr (fwSame_I (by decide))).tr (fwSame_I (by decide))).tr (fwSame_I (by decide))
  clear h1 h2 h3 h4
  refine fwRun_ok k_rWarm_42_ok rfl trivial ?_
  generalize hb : fwI (fwI σ4 39 23 128) 39 27 0 = σ5
  have S5 : fwSame [39] σ4 σ5 := by rw [← hb]; exact (fwSame_I (by decide)).tr (fwSame_I (by decide))
  have E5 : ∀ b, b ≠ 23 → b ≠ 27 → σ5.1 39 b = σa.1 39 b := fun b q1 q2 => by rw [← hb, fwI_ne2 q2, fwI_ne2 q1, S4.c (by decide)]
  have b23 : σ5.1 39 23 = 128 := by rw [← hb, fwI_ne2 (by decide), fwI_eq]
  have b27 : σ5.1 39 27 = 0 := by rw [← hb, fwI_eq]
  have bl : σ5.2 39 = σa.2 39 := by rw [← hb]; exact (S4 39 (by decide)).2
  clear hb
  show fwG l Z m_rWarm _ _ _ _ _ _ 59 _ [.int (σ5.1 39 21), .ref 39] _ σ5
  rw [E5 21 (by decide) (by decide), Ea 21 (by decide), hh]
  have D5 : ∀ j, j < 512512 → σ5.1 41 j = -27 := fun j hj => by rw [S5.c (by decide), S4.c (by decide), Sa.c (by decide)]; exact hD j hj
  refine fwg_callV (n := 1) (i := 39) (as := [.int 0]) (r := []) (ct_rLogin D5 b27) ⟨by decide, by decide, by decide +kernel⟩ m_rLogin_in c_rWarm_59 rfl rfl rfl rfl (Nat.le_of_ble_eq_true rfl) d_rWarm_59 ⟨Nat.le_of_ble_eq_true rfl, Nat.le_of_ble_eq_true rfl⟩ ⟨Nat.le_refl _, Nat.le_refl _⟩ (fun v sh' σ6 hq => ?_)
  obtain ⟨rfl, rfl, h6⟩ := hq
  refine fwRun_ok k_rWarm_62_ok rfl trivial ?_
  refine fwg_callV (n := 0) (i := 39) (as := []) (r := []) (ct_rForget) ⟨by decide, by decide, by decide +kernel⟩ m_rForget_in c_rWarm_63 rfl rfl rfl rfl (Nat.le_of_ble_eq_true rfl) d_rWarm_63 ⟨Nat.le_of_ble_eq_true rfl, Nat.le_of_ble_eq_true rfl⟩ ⟨Nat.le_refl _, Nat.le_refl _⟩ (fun v sh' σ7 hq => ?_)
  obtain ⟨rfl, rfl, h7⟩ := hq
  refine fwRun_ok k_rWarm_66_ok rfl ⟨Or.inl rfl, Or.inr rfl⟩ ?_
  refine fwg_ldcw (v := 60419) (List.mem_of_getElem? (i := 39) rfl) d_rWarm_77 ?_
  refine fwRun_ok k_rWarm_80_ok rfl trivial ?_
  generalize hc : fwI (fwI (fwI σ7 39 31 0) 39 18 1) 39 15 60419 = σ8
  have S8 : fwSame [39] σ6 σ8 := by rw [← hc, h7]; exact (((fwSame_I (by decide)).tr (fwSame_I (by decide))).tr (fwSame_I (by decide))).tr (fwSame_I (by decide))
  have E8 : ∀ b, b ≠ 35 → b ≠ 31 → b ≠ 18 → b ≠ 15 → b ≠ 27 → σ8.1 39 b = σ5.1 39 b := fun b q1 q2 q3 q4 q5 => by rw [← hc, fwI_ne2 q4, fwI_ne2 q3, fwI_ne2 q2, h7, fwI_ne2 q1, h6.c (by decide), fwI_ne2 q5]
  have c35 : σ8.1 39 35 = -1 := by rw [← hc, fwI_ne2 (by decide), fwI_ne2 (by decide), fwI_ne2 (by decide), h7, fwI_eq]
  have c18 : σ8.1 39 18 = 1 := by rw [← hc, fwI_ne2 (by decide), fwI_eq]
  have c15 : σ8.1 39 15 = 60419 := by rw [← hc, fwI_eq]
  have cl : σ8.2 39 = σ5.2 39 := by rw [← hc, h7]; exact (h6 39 (by decide)).2
  clear hc h7
  have e9 : σ8.1 39 9 = 0 := by rw [E8 9 (by decide) (by decide) (by decide) (by decide) (by decide), E5 9 (by decide) (by decide)]; exact a9
  have e10 : σ8.1 39 10 = nI t := by rw [E8 10 (by decide) (by decide) (by decide) (by decide) (by decide), E5 10 (by decide) (by decide)]; exact a10
  have e22 : σ8.1 39 22 = 0 := by rw [E8 22 (by decide) (by decide) (by decide) (by decide) (by decide), E5 22 (by decide) (by decide), Ea 22 (by decide)]; exact hu
  refine fwg_callV (n := 0) (i := 39) (as := []) (r := []) (ct_rPrompt e9 e10 ht e22) ⟨by decide, by decide, by decide +kernel⟩ m_rPrompt_in c_rWarm_84 rfl rfl rfl rfl (Nat.le_of_ble_eq_true rfl) d_rWarm_84 ⟨Nat.le_of_ble_eq_true rfl, Nat.le_of_ble_eq_true rfl⟩ ⟨Nat.le_refl _, Nat.le_refl _⟩ (fun v sh' σ9 hq => ?_)
  obtain ⟨rfl, rfl, h9⟩ := hq
  obtain ⟨p1, p9, p10, pO, pl⟩ := h9
  refine fwg_vret rfl (Nat.le_refl _) (Nat.le_refl _) ⟨rfl, rfl, ?_, ⟨p9, p10, ?_, ?_, ?_, ?_, ?_⟩, fun b hb => ?_, ?_, ?_⟩ d_rWarm_87
  · exact (((((Sa.up (by decide)).tr (S4.up (by decide))).tr (S5.up (by decide))).tr ((fwSame_I (i := 39) (by decide)).tr (h6.up (by decide)))).tr (S8.up (by decide))).tr (p1.up (by decide))
  · rw [pO 15 (by decide) (by decide)]; exact c15
  · rw [pO 17 (by decide) (by decide), E8 17 (by decide) (by decide) (by decide) (by decide) (by decide), E5 17 (by decide) (by decide)]; exact a17
  · rw [pO 18 (by decide) (by decide)]; exact c18
  · rw [pO 23 (by decide) (by decide), E8 23 (by decide) (by decide) (by decide) (by decide) (by decide)]; exact b23
  · rw [pO 35 (by decide) (by decide)]; exact c35
  · have nb : ∀ k, k ∈ ([9, 10, 15, 17, 18, 20, 23, 27, 31, 35] : List Nat) → b ≠ k := fun k hk q => hb (by rw [q]; exact hk)
    rw [pO b (nb 9 (by decide)) (nb 10 (by decide)), E8 b (nb 35 (by decide)) (nb 31 (by decide)) (nb 18 (by decide)) (nb 15 (by decide)) (nb 27 (by decide)), E5 b (nb 23 (by decide)) (nb 27 (by decide)), Ea b hb]
  · rw [(p1 40 (by decide)).1, (S8 40 (by decide)).1, (h6 40 (by decide)).1, ((fwSame_I (S := [39]) (by decide)) 40 (by decide)).1, (S5 40 (by decide)).1]; exact hm
  · rw [pl, cl, bl, al]
end REF
end
section
/-! the reference's cold boot and its constructor (laid by wip/whole/t13.py) -/
theorem memW_c {f g : Nat → Int32} {j : Nat} (h : f j = g j) : memW f j = memW g j := by
  show (if j = 7 then _ else if j = 6 then _ else if j = 5 then _ else if j = 2 then _ else if j = 1 then _ else if j = 0 then _ else f j) = _
  rw [h]
  rfl
def MC (σ σ' : fwS) (t : Nat) : Prop := fwSame [39, 40, 44, 46, 48] σ σ' ∧ (σ'.1 39 8 = 0 ∧ σ'.1 39 9 = 0 ∧ σ'.1 39 10 = nI t ∧ σ'.1 39 13 = 0 ∧ σ'.1 39 14 = 0 ∧ σ'.1 39 15 = 60419 ∧ σ'.1 39 17 = 0 ∧ σ'.1 39 18 = 1 ∧ σ'.1 39 21 = 0 ∧ σ'.1 39 22 = 0 ∧ σ'.1 39 23 = 128 ∧ σ'.1 39 35 = -1) ∧ (∀ b, b ∉ ([8, 9, 10, 13, 14, 15, 17, 18, 20, 21, 22, 23, 24, 25, 26, 27, 28, 31, 35] : List Nat) → σ'.1 39 b = σ.1 39 b) ∧ (∀ j, j < 65536 → σ'.1 40 j = memW (fun _ => 0) j) ∧ (∀ j, j < 8 → σ'.1 46 j = 0) ∧ σ'.2 39 = σ.2 39
theorem fw_cut {l : Launch} {Z : fwZ} {M : fwM} {d mc ms : Nat} {Post : fwPost} {nc ns pc : Nat} {ls : List (Option Value)} {st : List Value} {sh : List fwE} {σ : fwS} (P : fwS → Prop) (h : P σ) (k : ∀ s, P s → fwG l Z M d mc ms Post nc ns pc ls st sh s) : fwG l Z M d mc ms Post nc ns pc ls st sh σ := k σ h
section REF
variable {l : Launch} {Z : fwZ} {re : List fwE} {σ : fwS}
theorem rCold_1 {Post : fwPost} {σ0 : fwS} (k : ∀ σ', fwSame [40] σ0 σ' → (∀ j, j < 65536 → σ'.1 40 j = 0) → fwG l Z m_rCold 7 0 0 Post 0 0 21 [some (.ref 39), some (.int (nI 65536))] [] (shMd re) σ') : ∀ (q i : Nat) (σ : fwS), i + q = 65536 → fwSame [40] σ0 σ → (∀ j, j < i → σ.1 40 j = 0) → fwG l Z m_rCold 7 0 0 Post 0 0 2 [some (.ref 39), some (.int (nI i))] [] (shMd re) σ := by
  intro q
  induction q with
  | zero =>
    intro i σ hi hs hk
    obtain rfl : i = 65536 := by omega
    refine fwRun_ok k_rCold_2_ok rfl trivial ?_
    exact fwg_cmp 21 d_rCold_5 (by decide) (fun _ => k σ hs hk) (fun h => absurd (show (65536 : Int32) ≤ nI 65536 by decide) h)
  | succ q ih =>
    intro i σ hi hs hk
    refine fwRun_ok k_rCold_2_ok rfl trivial ?_
    refine fwg_cmp 21 d_rCold_5 (by decide) (fun h => absurd (show nI 65536 ≤ nI i from h) (nI_ge (by omega) (by decide))) (fun h => ?_)
    refine fwRun_ok k_rCold_8_ok rfl (vp_in_nI (by omega) (by decide)) ?_
    refine fwg_goto 2 d_rCold_18 (by decide) ?_
    have := ih (i + 1) (fwI σ 40 (nI i).toNatClampNeg (0 : Int32).toInt8.toInt32) (by omega) (hs.tr (fwSame_I (by decide))) (fun j hj => ?_)
    · rw [← nI_1] at this
      exact this
    · rw [nI_clamp (by omega)]
      by_cases hji : j = i
      · subst hji
        rw [fwI_eq]
        rfl
      · rw [fwI_ne2 hji]
        exact hk j (by omega)
theorem rCold_2 {Post : fwPost} {σ0 : fwS} (k : ∀ σ', fwSame [46] σ0 σ' → (∀ j, j < 8 → σ'.1 46 j = 0) → fwG l Z m_rCold 7 0 0 Post 0 0 42 [some (.ref 39), some (.int (nI 8))] [] (shMd re) σ') : ∀ (q i : Nat) (σ : fwS), i + q = 8 → fwSame [46] σ0 σ → (∀ j, j < i → σ.1 46 j = 0) → fwG l Z m_rCold 7 0 0 Post 0 0 23 [some (.ref 39), some (.int (nI i))] [] (shMd re) σ := by
  intro q
  induction q with
  | zero =>
    intro i σ hi hs hk
    obtain rfl : i = 8 := by omega
    refine fwRun_ok k_rCold_23_ok rfl trivial ?_
    exact fwg_cmp 42 d_rCold_26 (by decide) (fun _ => k σ hs hk) (fun h => absurd (show (8 : Int32) ≤ nI 8 by decide) h)
  | succ q ih =>
    intro i σ hi hs hk
    refine fwRun_ok k_rCold_23_ok rfl trivial ?_
    refine fwg_cmp 42 d_rCold_26 (by decide) (fun h => absurd (show nI 8 ≤ nI i from h) (nI_ge (by omega) (by decide))) (fun h => ?_)
    refine fwRun_ok k_rCold_29_ok rfl (vp_in_nI (by omega) (by decide)) ?_
    refine fwg_goto 23 d_rCold_39 (by decide) ?_
    have := ih (i + 1) (fwI σ 46 (nI i).toNatClampNeg 0) (by omega) (hs.tr (fwSame_I (by decide))) (fun j hj => ?_)
    · rw [← nI_1] at this
      exact this
    · rw [nI_clamp (by omega)]
      by_cases hji : j = i
      · subst hji
        exact fwI_eq
      · rw [fwI_ne2 hji]
        exact hk j (by omega)
theorem ct_rCold {t : Nat} (h3 : σ.1 39 9 = 0) (h4 : σ.1 39 10 = nI t) (ht : t + 9 ≤ 8000) (hD : ∀ j, j < 512512 → σ.1 41 j = -27) : fwC l Z m_rCold 7 0 0 [.ref 39] (shMd re) σ (fun w sh' σ' => w = none ∧ sh' = shMd re ∧ MC σ σ' (t + 9)) := by
  refine fwC_of (ls := [some (.ref 39), none]) (by decide +kernel) rfl (by rw [fw_sl1]; exact Nat.le_of_ble_eq_true rfl) ?_
  refine fwRun_ok k_rCold_0_ok rfl trivial ?_
  refine rCold_1 (σ0 := σ) (fun σ1 s1 z1 => ?_) 65536 0 σ rfl fwSame.rf (fun j hj => absurd hj (Nat.not_lt_zero j))
  refine fwRun_ok k_rCold_21_ok rfl trivial ?_
  refine rCold_2 (σ0 := σ1) (fun σ2 s2 z2 => ?_) 8 0 σ1 rfl fwSame.rf (fun j hj => absurd hj (Nat.not_lt_zero j))
  refine fwRun_ok k_rCold_42_ok rfl (Or.inl rfl) ?_
  generalize hs : (fwI (fwI (fwI (fwI (fwI (fwI (fwI (fwI (fwI (fwI (fwI σ2 39 13 0) 39 14 0) 39 15 0) 39 17 0) 39 28 0) 39 22 0) 39 21 0) 39 8 0) 39 24 0) 39 25 0) 39 26 1) = σ3
  have S3 : fwSame [39] σ2 σ3 := by
    rw [← hs]
    exact ((((((((((fwSame_I (by decide)).tr (fwSame_I (by decide))).tr (fwSame_I (by decide))).tr (fwSame_I (by decide))).tr (fwSame_I (by decide))).tr (fwSame_I (by decide))).tr (fwSame_I (by decide))).tr (fwSame_I (by decide))).tr (fwSame_I (by decide))).tr (fwSame_I (by decide))).tr (fwSame_I (by decide))
  have e8 : σ3.1 39 8 = 0 := by rw [← hs, fwI_ne2 (by decide), fwI_ne2 (by decide), fwI_ne2 (by decide), fwI_eq]
  have e13 : σ3.1 39 13 = 0 := by rw [← hs, fwI_ne2 (by decide), fwI_ne2 (by decide), fwI_ne2 (by decide), fwI_ne2 (by decide), fwI_ne2 (by decide), fwI_ne2 (by decide), fwI_ne2 (by decide), fwI_ne2 (by decide), fwI_ne2 (by decide), fwI_ne2 (by decide), fwI_eq]
  have e14 : σ3.1 39 14 = 0 := by rw [← hs, fwI_ne2 (by decide), fwI_ne2 (by decide), fwI_ne2 (by decide), fwI_ne2 (by decide), fwI_ne2 (by decide), fwI_ne2 (by decide), fwI_ne2 (by decide), fwI_ne2 (by decide), fwI_ne2 (by decide), fwI_eq]
  have e21 : σ3.1 39 21 = 0 := by rw [← hs, fwI_ne2 (by decide), fwI_ne2 (by decide), fwI_ne2 (by decide), fwI_ne2 (by decide), fwI_eq]
  have e22 : σ3.1 39 22 = 0 := by rw [← hs, fwI_ne2 (by decide), fwI_ne2 (by decide), fwI_ne2 (by decide), fwI_ne2 (by decide), fwI_ne2 (by decide), fwI_eq]
  have E3 : ∀ b, b ∉ ([8, 13, 14, 15, 17, 21, 22, 24, 25, 26, 28] : List Nat) → σ3.1 39 b = σ.1 39 b := fun b hb => by
    rw [← hs, fwEx_I (by decide) b hb, fwEx_I (by decide) b hb, fwEx_I (by decide) b hb, fwEx_I (by decide) b hb, fwEx_I (by decide) b hb, fwEx_I (by decide) b hb, fwEx_I (by decide) b hb, fwEx_I (by decide) b hb, fwEx_I (by decide) b hb, fwEx_I (by decide) b hb, fwEx_I (by decide) b hb, s2.c (by decide), s1.c (by decide)]
  have l3 : σ3.2 39 = σ.2 39 := by rw [← hs]; exact ((s2 39 (by decide)).2).trans (s1 39 (by decide)).2
  clear hs
  refine fwg_callV (n := 0) (i := 39) (as := []) (r := []) (ct_rNewLine (t := t) (by rw [E3 9 (by decide)]; exact h3) (by rw [E3 10 (by decide)]; exact h4) (by omega)) ⟨by decide, by decide, by decide +kernel⟩ m_rNewLine_in c_rCold_98 rfl rfl rfl rfl (Nat.le_of_ble_eq_true rfl) d_rCold_98 ⟨Nat.le_of_ble_eq_true rfl, Nat.le_of_ble_eq_true rfl⟩ ⟨Nat.le_refl _, Nat.le_refl _⟩ (fun v sh' σ4 hq => ?_)
  obtain ⟨rfl, rfl, h4⟩ := hq
  refine fwRun_ok k_rCold_101_ok rfl trivial ?_
  refine fwg_ldcwS (q := ("MonitorBoardModel", 262, "62K", 2)) rfl (List.mem_of_getElem? (i := 34) rfl) d_rCold_102 ?_
  refine fwg_callV (n := 1) (i := 39) (as := [.retAddr 2]) (r := []) (ct_rTellText (c := 2) (t := t + 2) (by decide) h4.2.1 h4.2.2.1 (by show t + 2 + 3 ≤ 8000; omega)) ⟨by decide, by decide, by decide +kernel⟩ m_rTellText_in c_rCold_105 rfl rfl rfl rfl (Nat.le_of_ble_eq_true rfl) d_rCold_105 ⟨Nat.le_of_ble_eq_true rfl, Nat.le_of_ble_eq_true rfl⟩ ⟨Nat.le_refl _, Nat.le_refl _⟩ (fun v sh' σ5 hq => ?_)
  obtain ⟨rfl, rfl, h5⟩ := hq
  have h5 : MT σ4 σ5 (t + 5) := h5
  have hT := h4.tr h5
  refine fwRun_ok k_rCold_108_ok rfl trivial ?_
  have D5 : ∀ j, j < 512512 → σ5.1 41 j = -27 := fun j hj => by rw [hT.1.c (by decide), S3.c (by decide), s2.c (by decide), s1.c (by decide)]; exact hD j hj
  refine fwg_callV (n := 0) (i := 39) (as := []) (r := []) (ct_rWarm (t := t + 5) hT.2.1 hT.2.2.1 (by omega) (by rw [hT.2.2.2.1 21 (by decide) (by decide)]; exact e21) (by rw [hT.2.2.2.1 22 (by decide) (by decide)]; exact e22) D5) ⟨by decide, by decide, by decide +kernel⟩ m_rWarm_in c_rCold_109 rfl rfl rfl rfl (Nat.le_of_ble_eq_true rfl) d_rCold_109 ⟨Nat.le_of_ble_eq_true rfl, Nat.le_of_ble_eq_true rfl⟩ ⟨Nat.le_refl _, Nat.le_refl _⟩ (fun v sh' σ6 hq => ?_)
  obtain ⟨rfl, rfl, h6⟩ := hq
  obtain ⟨w1, ⟨w9, w10, w15, w17, w18, w23, w35⟩, wO, wm, wl⟩ := h6
  refine fwg_vret rfl (Nat.le_refl _) (Nat.le_refl _) ⟨rfl, rfl, ?_, ⟨?_, w9, w10, ?_, ?_, w15, w17, w18, ?_, ?_, w23, w35⟩, fun b hb => ?_, fun j hj => ?_, fun j hj => ?_, ?_⟩ d_rCold_112
  · exact ((((s1.up (by decide)).tr (s2.up (by decide))).tr (S3.up (by decide))).tr (hT.1.up (by decide))).tr (w1.up (by decide))
  · rw [wO 8 (by decide), hT.2.2.2.1 8 (by decide) (by decide)]; exact e8
  · rw [wO 13 (by decide), hT.2.2.2.1 13 (by decide) (by decide)]; exact e13
  · rw [wO 14 (by decide), hT.2.2.2.1 14 (by decide) (by decide)]; exact e14
  · rw [wO 21 (by decide), hT.2.2.2.1 21 (by decide) (by decide)]; exact e21
  · rw [wO 22 (by decide), hT.2.2.2.1 22 (by decide) (by decide)]; exact e22
  · have nb : ∀ L : List Nat, (∀ k ∈ L, k ∈ ([8, 9, 10, 13, 14, 15, 17, 18, 20, 21, 22, 23, 24, 25, 26, 27, 28, 31, 35] : List Nat)) → b ∉ L := fun L hL q => hb (hL b q)
    rw [wO b (nb _ (by decide)), hT.2.2.2.1 b (fun q => nb [9] (by decide) (by rw [q]; decide)) (fun q => nb [10] (by decide) (by rw [q]; decide)), E3 b (nb _ (by decide))]
  · rw [wm]
    refine memW_c ?_
    rw [hT.1.c (by decide), S3.c (by decide), s2.c (by decide)]
    exact z1 j hj
  · rw [w1.c (by decide), hT.1.c (by decide), S3.c (by decide)]
    exact z2 j hj
  · rw [wl, hT.2.2.2.2, l3]
end REF
end
section
/-! new MonitorBoardModel() (laid by wip/whole/t14.py) -/
def FreM (σ : fwS) : Prop := (σ.1 39 6 = 0 ∧ σ.1 39 7 = 0 ∧ σ.1 39 8 = 0 ∧ σ.1 39 9 = 0 ∧ σ.1 39 10 = nI 9 ∧ σ.1 39 11 = 0 ∧ σ.1 39 13 = 0 ∧ σ.1 39 14 = 0 ∧ σ.1 39 15 = 60419 ∧ σ.1 39 17 = 0 ∧ σ.1 39 18 = 1 ∧ σ.1 39 21 = 0 ∧ σ.1 39 22 = 0 ∧ σ.1 39 23 = 128 ∧ σ.1 39 35 = -1 ∧ σ.2 39 16 = 0) ∧ (∀ j, j < 65536 → σ.1 40 j = memW (fun _ => 0) j) ∧ (∀ j, j < 8 → σ.1 46 j = 0) ∧ ∀ j, j < 512512 → σ.1 41 j = -27
section REF
variable {l : Launch} {Z : fwZ} {re : List fwE} {σ : fwS}
theorem rInit_1 {Post : fwPost} {σ0 : fwS} (k : ∀ σ', fwSame [41] σ0 σ' → (∀ j, j < 512512 → σ'.1 41 j = -27) → fwG l Z m_rInit 8 19 722499 Post 19 722499 267 [some (.ref 39), some (.int (nI 512512))] [] (shMd []) σ') : ∀ (q i : Nat) (σ : fwS), i + q = 512512 → fwSame [41] σ0 σ → (∀ j, j < i → σ.1 41 j = -27) → fwG l Z m_rInit 8 19 722499 Post 19 722499 247 [some (.ref 39), some (.int (nI i))] [] (shMd []) σ := by
  intro q
  induction q with
  | zero =>
    intro i σ hi hs hk
    obtain rfl : i = 512512 := by omega
    refine fwRun_ok k_rInit_247_ok rfl trivial ?_
    exact fwg_cmp 267 d_rInit_250 (by decide) (fun _ => k σ hs hk) (fun h => absurd (show (512512 : Int32) ≤ nI 512512 by decide) h)
  | succ q ih =>
    intro i σ hi hs hk
    refine fwRun_ok k_rInit_247_ok rfl trivial ?_
    refine fwg_cmp 267 d_rInit_250 (by decide) (fun h => absurd (show nI 512512 ≤ nI i from h) (nI_ge (by omega) (by decide))) (fun h => ?_)
    refine fwRun_ok k_rInit_253_ok rfl (vp_in_nI (by omega) (by decide)) ?_
    refine fwg_goto 247 d_rInit_264 (by decide) ?_
    have := ih (i + 1) (fwI σ 41 (nI i).toNatClampNeg (-27 : Int32).toInt8.toInt32) (by omega) (hs.tr (fwSame_I (by decide))) (fun j hj => ?_)
    · rw [← nI_1] at this
      exact this
    · rw [nI_clamp (by omega)]
      by_cases hji : j = i
      · subst hji
        rw [fwI_eq]
        decide
      · rw [fwI_ne2 hji]
        exact hk j (by omega)
theorem ct_rInit (h0 : ∀ b, σ.1 39 b = 0) (hl : σ.2 39 16 = 0) : fwC l Z m_rInit 8 19 722499 [.ref 39] (shMB [.inr (1, fwTmpl 1)]) σ (fun w sh' σ' => w = none ∧ sh' = shMd [] ∧ FreM σ' ∧ fwSame [39, 40, 41, 42, 43, 44, 45, 46, 47, 48, 49, 50, 51, 52, 53, 54, 55, 56, 57, 58] σ σ') := by
  refine fwC_of (ls := [some (.ref 39), none]) (by decide +kernel) rfl (by rw [fw_sl1]; exact Nat.le_of_ble_eq_true rfl) ?_
  refine fwRun_ok k_rInit_0_ok rfl trivial ?_
  refine fwg_objInit c_rInit_1 (by decide) (Nat.le_of_ble_eq_true rfl) d_rInit_1 ?_
  refine fwRun_ok k_rInit_4_ok rfl trivial ?_
  refine fwg_newa' 65536 40 (shMB (.inr (1, fwTmpl 1) :: .inl (.byte, 65536) :: [])) (by decide) fwAc_byte d_rInit_7 (by decide) (by decide) (by decide) (Nat.le_of_ble_eq_true rfl) (Nat.le_of_ble_eq_true rfl) rfl rfl ?_
  refine fwg_putR' (ci := 1) (kk := 0) (shMB (.inr (1, [.ref 40, .null, .null, .null, .null, .null, .int 0, .int 0, .int 0, .int 0, .int 0, .int 0, .null, .int 0, .int 0, .int 0, .long 0, .int 0, .int 0, .null, .int 0, .int 0, .int 0, .int 0, .int 0, .int 0, .int 0, .int 0, .int 0, .null, .null, .int 0, .null, .int 0, .int 0, .int 0, .null, .int 0, .int 0, .int 0, .null, .int 0, .int 0, .null, .int 0, .int 0, .int 0, .int 0, .int 0, .int 0, .int 0, .int 0, .int 0, .int 0, .null, .int 0, .int 0, .int 0, .int 0, .null, .null, .null, .int 0, .int 0, .int 0, .int 0, .int 0, .int 0, .int 0, .int 0, .null, .int 0, .int 0, .int 0, .int 0, .int 0, .int 0, .int 0, .int 0]) :: .inl (.byte, 65536) :: [])) rfl (by decide) (Or.inl ⟨_, rfl⟩) (List.mem_of_getElem? (i := 167) rfl) rfl rfl (fun _ => ⟨rfl, rfl⟩) rfl d_rInit_9 rfl ?_
  refine fwRun_ok k_rInit_12_ok rfl trivial ?_
  refine fwg_newa' 512512 41 (shMB (.inr (1, [.ref 40, .null, .null, .null, .null, .null, .int 0, .int 0, .int 0, .int 0, .int 0, .int 0, .null, .int 0, .int 0, .int 0, .long 0, .int 0, .int 0, .null, .int 0, .int 0, .int 0, .int 0, .int 0, .int 0, .int 0, .int 0, .int 0, .null, .null, .int 0, .null, .int 0, .int 0, .int 0, .null, .int 0, .int 0, .int 0, .null, .int 0, .int 0, .null, .int 0, .int 0, .int 0, .int 0, .int 0, .int 0, .int 0, .int 0, .int 0, .int 0, .null, .int 0, .int 0, .int 0, .int 0, .null, .null, .null, .int 0, .int 0, .int 0, .int 0, .int 0, .int 0, .int 0, .int 0, .null, .int 0, .int 0, .int 0, .int 0, .int 0, .int 0, .int 0, .int 0]) :: .inl (.byte, 65536) :: .inl (.byte, 512512) :: [])) (by decide) fwAc_byte d_rInit_15 (by decide) (by decide) (by decide) (Nat.le_of_ble_eq_true rfl) (Nat.le_of_ble_eq_true rfl) rfl rfl ?_
  refine fwg_putR' (ci := 1) (kk := 1) (shMB (.inr (1, [.ref 40, .ref 41, .null, .null, .null, .null, .int 0, .int 0, .int 0, .int 0, .int 0, .int 0, .null, .int 0, .int 0, .int 0, .long 0, .int 0, .int 0, .null, .int 0, .int 0, .int 0, .int 0, .int 0, .int 0, .int 0, .int 0, .int 0, .null, .null, .int 0, .null, .int 0, .int 0, .int 0, .null, .int 0, .int 0, .int 0, .null, .int 0, .int 0, .null, .int 0, .int 0, .int 0, .int 0, .int 0, .int 0, .int 0, .int 0, .int 0, .int 0, .null, .int 0, .int 0, .int 0, .int 0, .null, .null, .null, .int 0, .int 0, .int 0, .int 0, .int 0, .int 0, .int 0, .int 0, .null, .int 0, .int 0, .int 0, .int 0, .int 0, .int 0, .int 0, .int 0]) :: .inl (.byte, 65536) :: .inl (.byte, 512512) :: [])) rfl (by decide) (Or.inl ⟨_, rfl⟩) (List.mem_of_getElem? (i := 168) rfl) rfl rfl (fun _ => ⟨rfl, rfl⟩) rfl d_rInit_17 rfl ?_
  refine fwRun_ok k_rInit_20_ok rfl trivial ?_
  refine fwg_newa' 4000 42 (shMB (.inr (1, [.ref 40, .ref 41, .null, .null, .null, .null, .int 0, .int 0, .int 0, .int 0, .int 0, .int 0, .null, .int 0, .int 0, .int 0, .long 0, .int 0, .int 0, .null, .int 0, .int 0, .int 0, .int 0, .int 0, .int 0, .int 0, .int 0, .int 0, .null, .null, .int 0, .null, .int 0, .int 0, .int 0, .null, .int 0, .int 0, .int 0, .null, .int 0, .int 0, .null, .int 0, .int 0, .int 0, .int 0, .int 0, .int 0, .int 0, .int 0, .int 0, .int 0, .null, .int 0, .int 0, .int 0, .int 0, .null, .null, .null, .int 0, .int 0, .int 0, .int 0, .int 0, .int 0, .int 0, .int 0, .null, .int 0, .int 0, .int 0, .int 0, .int 0, .int 0, .int 0, .int 0]) :: .inl (.byte, 65536) :: .inl (.byte, 512512) :: .inl (.byte, 4000) :: [])) (by decide) fwAc_byte d_rInit_24 (by decide) (by decide) (by decide) (Nat.le_of_ble_eq_true rfl) (Nat.le_of_ble_eq_true rfl) rfl rfl ?_
  refine fwg_putR' (ci := 1) (kk := 2) (shMB (.inr (1, [.ref 40, .ref 41, .ref 42, .null, .null, .null, .int 0, .int 0, .int 0, .int 0, .int 0, .int 0, .null, .int 0, .int 0, .int 0, .long 0, .int 0, .int 0, .null, .int 0, .int 0, .int 0, .int 0, .int 0, .int 0, .int 0, .int 0, .int 0, .null, .null, .int 0, .null, .int 0, .int 0, .int 0, .null, .int 0, .int 0, .int 0, .null, .int 0, .int 0, .null, .int 0, .int 0, .int 0, .int 0, .int 0, .int 0, .int 0, .int 0, .int 0, .int 0, .null, .int 0, .int 0, .int 0, .int 0, .null, .null, .null, .int 0, .int 0, .int 0, .int 0, .int 0, .int 0, .int 0, .int 0, .null, .int 0, .int 0, .int 0, .int 0, .int 0, .int 0, .int 0, .int 0]) :: .inl (.byte, 65536) :: .inl (.byte, 512512) :: .inl (.byte, 4000) :: [])) rfl (by decide) (Or.inl ⟨_, rfl⟩) (List.mem_of_getElem? (i := 169) rfl) rfl rfl (fun _ => ⟨rfl, rfl⟩) rfl d_rInit_26 rfl ?_
  refine fwRun_ok k_rInit_29_ok rfl trivial ?_
  refine fwg_newa' 2000 43 (shMB (.inr (1, [.ref 40, .ref 41, .ref 42, .null, .null, .null, .int 0, .int 0, .int 0, .int 0, .int 0, .int 0, .null, .int 0, .int 0, .int 0, .long 0, .int 0, .int 0, .null, .int 0, .int 0, .int 0, .int 0, .int 0, .int 0, .int 0, .int 0, .int 0, .null, .null, .int 0, .null, .int 0, .int 0, .int 0, .null, .int 0, .int 0, .int 0, .null, .int 0, .int 0, .null, .int 0, .int 0, .int 0, .int 0, .int 0, .int 0, .int 0, .int 0, .int 0, .int 0, .null, .int 0, .int 0, .int 0, .int 0, .null, .null, .null, .int 0, .int 0, .int 0, .int 0, .int 0, .int 0, .int 0, .int 0, .null, .int 0, .int 0, .int 0, .int 0, .int 0, .int 0, .int 0, .int 0]) :: .inl (.byte, 65536) :: .inl (.byte, 512512) :: .inl (.byte, 4000) :: .inl (.byte, 2000) :: [])) (by decide) fwAc_byte d_rInit_33 (by decide) (by decide) (by decide) (Nat.le_of_ble_eq_true rfl) (Nat.le_of_ble_eq_true rfl) rfl rfl ?_
  refine fwg_putR' (ci := 1) (kk := 3) (shMB (.inr (1, [.ref 40, .ref 41, .ref 42, .ref 43, .null, .null, .int 0, .int 0, .int 0, .int 0, .int 0, .int 0, .null, .int 0, .int 0, .int 0, .long 0, .int 0, .int 0, .null, .int 0, .int 0, .int 0, .int 0, .int 0, .int 0, .int 0, .int 0, .int 0, .null, .null, .int 0, .null, .int 0, .int 0, .int 0, .null, .int 0, .int 0, .int 0, .null, .int 0, .int 0, .null, .int 0, .int 0, .int 0, .int 0, .int 0, .int 0, .int 0, .int 0, .int 0, .int 0, .null, .int 0, .int 0, .int 0, .int 0, .null, .null, .null, .int 0, .int 0, .int 0, .int 0, .int 0, .int 0, .int 0, .int 0, .null, .int 0, .int 0, .int 0, .int 0, .int 0, .int 0, .int 0, .int 0]) :: .inl (.byte, 65536) :: .inl (.byte, 512512) :: .inl (.byte, 4000) :: .inl (.byte, 2000) :: [])) rfl (by decide) (Or.inl ⟨_, rfl⟩) (List.mem_of_getElem? (i := 170) rfl) rfl rfl (fun _ => ⟨rfl, rfl⟩) rfl d_rInit_35 rfl ?_
  refine fwRun_ok k_rInit_38_ok rfl trivial ?_
  refine fwg_newa' 8000 44 (shMB (.inr (1, [.ref 40, .ref 41, .ref 42, .ref 43, .null, .null, .int 0, .int 0, .int 0, .int 0, .int 0, .int 0, .null, .int 0, .int 0, .int 0, .long 0, .int 0, .int 0, .null, .int 0, .int 0, .int 0, .int 0, .int 0, .int 0, .int 0, .int 0, .int 0, .null, .null, .int 0, .null, .int 0, .int 0, .int 0, .null, .int 0, .int 0, .int 0, .null, .int 0, .int 0, .null, .int 0, .int 0, .int 0, .int 0, .int 0, .int 0, .int 0, .int 0, .int 0, .int 0, .null, .int 0, .int 0, .int 0, .int 0, .null, .null, .null, .int 0, .int 0, .int 0, .int 0, .int 0, .int 0, .int 0, .int 0, .null, .int 0, .int 0, .int 0, .int 0, .int 0, .int 0, .int 0, .int 0]) :: .inl (.byte, 65536) :: .inl (.byte, 512512) :: .inl (.byte, 4000) :: .inl (.byte, 2000) :: .inl (.byte, 8000) :: [])) (by decide) fwAc_byte d_rInit_42 (by decide) (by decide) (by decide) (Nat.le_of_ble_eq_true rfl) (Nat.le_of_ble_eq_true rfl) rfl rfl ?_
  refine fwg_putR' (ci := 1) (kk := 4) (shMB (.inr (1, [.ref 40, .ref 41, .ref 42, .ref 43, .ref 44, .null, .int 0, .int 0, .int 0, .int 0, .int 0, .int 0, .null, .int 0, .int 0, .int 0, .long 0, .int 0, .int 0, .null, .int 0, .int 0, .int 0, .int 0, .int 0, .int 0, .int 0, .int 0, .int 0, .null, .null, .int 0, .null, .int 0, .int 0, .int 0, .null, .int 0, .int 0, .int 0, .null, .int 0, .int 0, .null, .int 0, .int 0, .int 0, .int 0, .int 0, .int 0, .int 0, .int 0, .int 0, .int 0, .null, .int 0, .int 0, .int 0, .int 0, .null, .null, .null, .int 0, .int 0, .int 0, .int 0, .int 0, .int 0, .int 0, .int 0, .null, .int 0, .int 0, .int 0, .int 0, .int 0, .int 0, .int 0, .int 0]) :: .inl (.byte, 65536) :: .inl (.byte, 512512) :: .inl (.byte, 4000) :: .inl (.byte, 2000) :: .inl (.byte, 8000) :: [])) rfl (by decide) (Or.inl ⟨_, rfl⟩) (List.mem_of_getElem? (i := 171) rfl) rfl rfl (fun _ => ⟨rfl, rfl⟩) rfl d_rInit_44 rfl ?_
  refine fwRun_ok k_rInit_47_ok rfl trivial ?_
  refine fwg_newa' 70000 45 (shMB (.inr (1, [.ref 40, .ref 41, .ref 42, .ref 43, .ref 44, .null, .int 0, .int 0, .int 0, .int 0, .int 0, .int 0, .null, .int 0, .int 0, .int 0, .long 0, .int 0, .int 0, .null, .int 0, .int 0, .int 0, .int 0, .int 0, .int 0, .int 0, .int 0, .int 0, .null, .null, .int 0, .null, .int 0, .int 0, .int 0, .null, .int 0, .int 0, .int 0, .null, .int 0, .int 0, .null, .int 0, .int 0, .int 0, .int 0, .int 0, .int 0, .int 0, .int 0, .int 0, .int 0, .null, .int 0, .int 0, .int 0, .int 0, .null, .null, .null, .int 0, .int 0, .int 0, .int 0, .int 0, .int 0, .int 0, .int 0, .null, .int 0, .int 0, .int 0, .int 0, .int 0, .int 0, .int 0, .int 0]) :: .inl (.byte, 65536) :: .inl (.byte, 512512) :: .inl (.byte, 4000) :: .inl (.byte, 2000) :: .inl (.byte, 8000) :: .inl (.byte, 70000) :: [])) (by decide) fwAc_byte d_rInit_50 (by decide) (by decide) (by decide) (Nat.le_of_ble_eq_true rfl) (Nat.le_of_ble_eq_true rfl) rfl rfl ?_
  refine fwg_putR' (ci := 1) (kk := 5) (shMB (.inr (1, [.ref 40, .ref 41, .ref 42, .ref 43, .ref 44, .ref 45, .int 0, .int 0, .int 0, .int 0, .int 0, .int 0, .null, .int 0, .int 0, .int 0, .long 0, .int 0, .int 0, .null, .int 0, .int 0, .int 0, .int 0, .int 0, .int 0, .int 0, .int 0, .int 0, .null, .null, .int 0, .null, .int 0, .int 0, .int 0, .null, .int 0, .int 0, .int 0, .null, .int 0, .int 0, .null, .int 0, .int 0, .int 0, .int 0, .int 0, .int 0, .int 0, .int 0, .int 0, .int 0, .null, .int 0, .int 0, .int 0, .int 0, .null, .null, .null, .int 0, .int 0, .int 0, .int 0, .int 0, .int 0, .int 0, .int 0, .null, .int 0, .int 0, .int 0, .int 0, .int 0, .int 0, .int 0, .int 0]) :: .inl (.byte, 65536) :: .inl (.byte, 512512) :: .inl (.byte, 4000) :: .inl (.byte, 2000) :: .inl (.byte, 8000) :: .inl (.byte, 70000) :: [])) rfl (by decide) (Or.inl ⟨_, rfl⟩) (List.mem_of_getElem? (i := 172) rfl) rfl rfl (fun _ => ⟨rfl, rfl⟩) rfl d_rInit_52 rfl ?_
  refine fwRun_ok k_rInit_55_ok rfl trivial ?_
  refine fwg_newa' 8 46 (shMB (.inr (1, [.ref 40, .ref 41, .ref 42, .ref 43, .ref 44, .ref 45, .int 0, .int 0, .int 0, .int 0, .int 0, .int 0, .null, .int 0, .int 0, .int 0, .long 0, .int 0, .int 0, .null, .int 0, .int 0, .int 0, .int 0, .int 0, .int 0, .int 0, .int 0, .int 0, .null, .null, .int 0, .null, .int 0, .int 0, .int 0, .null, .int 0, .int 0, .int 0, .null, .int 0, .int 0, .null, .int 0, .int 0, .int 0, .int 0, .int 0, .int 0, .int 0, .int 0, .int 0, .int 0, .null, .int 0, .int 0, .int 0, .int 0, .null, .null, .null, .int 0, .int 0, .int 0, .int 0, .int 0, .int 0, .int 0, .int 0, .null, .int 0, .int 0, .int 0, .int 0, .int 0, .int 0, .int 0, .int 0]) :: .inl (.byte, 65536) :: .inl (.byte, 512512) :: .inl (.byte, 4000) :: .inl (.byte, 2000) :: .inl (.byte, 8000) :: .inl (.byte, 70000) :: .inl (.int, 8) :: [])) (by decide) fwAc_int d_rInit_58 (by decide) (by decide) (by decide) (Nat.le_of_ble_eq_true rfl) (Nat.le_of_ble_eq_true rfl) rfl rfl ?_
  refine fwg_putR' (ci := 1) (kk := 12) (shMB (.inr (1, [.ref 40, .ref 41, .ref 42, .ref 43, .ref 44, .ref 45, .int 0, .int 0, .int 0, .int 0, .int 0, .int 0, .ref 46, .int 0, .int 0, .int 0, .long 0, .int 0, .int 0, .null, .int 0, .int 0, .int 0, .int 0, .int 0, .int 0, .int 0, .int 0, .int 0, .null, .null, .int 0, .null, .int 0, .int 0, .int 0, .null, .int 0, .int 0, .int 0, .null, .int 0, .int 0, .null, .int 0, .int 0, .int 0, .int 0, .int 0, .int 0, .int 0, .int 0, .int 0, .int 0, .null, .int 0, .int 0, .int 0, .int 0, .null, .null, .null, .int 0, .int 0, .int 0, .int 0, .int 0, .int 0, .int 0, .int 0, .null, .int 0, .int 0, .int 0, .int 0, .int 0, .int 0, .int 0, .int 0]) :: .inl (.byte, 65536) :: .inl (.byte, 512512) :: .inl (.byte, 4000) :: .inl (.byte, 2000) :: .inl (.byte, 8000) :: .inl (.byte, 70000) :: .inl (.int, 8) :: [])) rfl (by decide) (Or.inl ⟨_, rfl⟩) (List.mem_of_getElem? (i := 179) rfl) rfl rfl (fun _ => ⟨rfl, rfl⟩) rfl d_rInit_60 rfl ?_
  refine fwRun_ok k_rInit_63_ok rfl trivial ?_
  refine fwg_newa' 220 47 (shMB (.inr (1, [.ref 40, .ref 41, .ref 42, .ref 43, .ref 44, .ref 45, .int 0, .int 0, .int 0, .int 0, .int 0, .int 0, .ref 46, .int 0, .int 0, .int 0, .long 0, .int 0, .int 0, .null, .int 0, .int 0, .int 0, .int 0, .int 0, .int 0, .int 0, .int 0, .int 0, .null, .null, .int 0, .null, .int 0, .int 0, .int 0, .null, .int 0, .int 0, .int 0, .null, .int 0, .int 0, .null, .int 0, .int 0, .int 0, .int 0, .int 0, .int 0, .int 0, .int 0, .int 0, .int 0, .null, .int 0, .int 0, .int 0, .int 0, .null, .null, .null, .int 0, .int 0, .int 0, .int 0, .int 0, .int 0, .int 0, .int 0, .null, .int 0, .int 0, .int 0, .int 0, .int 0, .int 0, .int 0, .int 0]) :: .inl (.byte, 65536) :: .inl (.byte, 512512) :: .inl (.byte, 4000) :: .inl (.byte, 2000) :: .inl (.byte, 8000) :: .inl (.byte, 70000) :: .inl (.int, 8) :: .inl (.byte, 220) :: [])) (by decide) fwAc_byte d_rInit_67 (by decide) (by decide) (by decide) (Nat.le_of_ble_eq_true rfl) (Nat.le_of_ble_eq_true rfl) rfl rfl ?_
  refine fwg_putR' (ci := 1) (kk := 19) (shMB (.inr (1, [.ref 40, .ref 41, .ref 42, .ref 43, .ref 44, .ref 45, .int 0, .int 0, .int 0, .int 0, .int 0, .int 0, .ref 46, .int 0, .int 0, .int 0, .long 0, .int 0, .int 0, .ref 47, .int 0, .int 0, .int 0, .int 0, .int 0, .int 0, .int 0, .int 0, .int 0, .null, .null, .int 0, .null, .int 0, .int 0, .int 0, .null, .int 0, .int 0, .int 0, .null, .int 0, .int 0, .null, .int 0, .int 0, .int 0, .int 0, .int 0, .int 0, .int 0, .int 0, .int 0, .int 0, .null, .int 0, .int 0, .int 0, .int 0, .null, .null, .null, .int 0, .int 0, .int 0, .int 0, .int 0, .int 0, .int 0, .int 0, .null, .int 0, .int 0, .int 0, .int 0, .int 0, .int 0, .int 0, .int 0]) :: .inl (.byte, 65536) :: .inl (.byte, 512512) :: .inl (.byte, 4000) :: .inl (.byte, 2000) :: .inl (.byte, 8000) :: .inl (.byte, 70000) :: .inl (.int, 8) :: .inl (.byte, 220) :: [])) rfl (by decide) (Or.inl ⟨_, rfl⟩) (List.mem_of_getElem? (i := 186) rfl) rfl rfl (fun _ => ⟨rfl, rfl⟩) rfl d_rInit_69 rfl ?_
  refine fwRun_ok k_rInit_72_ok rfl trivial ?_
  refine fwg_newa' 486 48 (shMB (.inr (1, [.ref 40, .ref 41, .ref 42, .ref 43, .ref 44, .ref 45, .int 0, .int 0, .int 0, .int 0, .int 0, .int 0, .ref 46, .int 0, .int 0, .int 0, .long 0, .int 0, .int 0, .ref 47, .int 0, .int 0, .int 0, .int 0, .int 0, .int 0, .int 0, .int 0, .int 0, .null, .null, .int 0, .null, .int 0, .int 0, .int 0, .null, .int 0, .int 0, .int 0, .null, .int 0, .int 0, .null, .int 0, .int 0, .int 0, .int 0, .int 0, .int 0, .int 0, .int 0, .int 0, .int 0, .null, .int 0, .int 0, .int 0, .int 0, .null, .null, .null, .int 0, .int 0, .int 0, .int 0, .int 0, .int 0, .int 0, .int 0, .null, .int 0, .int 0, .int 0, .int 0, .int 0, .int 0, .int 0, .int 0]) :: .inl (.byte, 65536) :: .inl (.byte, 512512) :: .inl (.byte, 4000) :: .inl (.byte, 2000) :: .inl (.byte, 8000) :: .inl (.byte, 70000) :: .inl (.int, 8) :: .inl (.byte, 220) :: .inl (.boolean, 486) :: [])) (by decide) fwAc_boolean d_rInit_76 (by decide) (by decide) (by decide) (Nat.le_of_ble_eq_true rfl) (Nat.le_of_ble_eq_true rfl) rfl rfl ?_
  refine fwg_putR' (ci := 1) (kk := 29) (shMB (.inr (1, [.ref 40, .ref 41, .ref 42, .ref 43, .ref 44, .ref 45, .int 0, .int 0, .int 0, .int 0, .int 0, .int 0, .ref 46, .int 0, .int 0, .int 0, .long 0, .int 0, .int 0, .ref 47, .int 0, .int 0, .int 0, .int 0, .int 0, .int 0, .int 0, .int 0, .int 0, .ref 48, .null, .int 0, .null, .int 0, .int 0, .int 0, .null, .int 0, .int 0, .int 0, .null, .int 0, .int 0, .null, .int 0, .int 0, .int 0, .int 0, .int 0, .int 0, .int 0, .int 0, .int 0, .int 0, .null, .int 0, .int 0, .int 0, .int 0, .null, .null, .null, .int 0, .int 0, .int 0, .int 0, .int 0, .int 0, .int 0, .int 0, .null, .int 0, .int 0, .int 0, .int 0, .int 0, .int 0, .int 0, .int 0]) :: .inl (.byte, 65536) :: .inl (.byte, 512512) :: .inl (.byte, 4000) :: .inl (.byte, 2000) :: .inl (.byte, 8000) :: .inl (.byte, 70000) :: .inl (.int, 8) :: .inl (.byte, 220) :: .inl (.boolean, 486) :: [])) rfl (by decide) (Or.inl ⟨_, rfl⟩) (List.mem_of_getElem? (i := 196) rfl) rfl rfl (fun _ => ⟨rfl, rfl⟩) rfl d_rInit_78 rfl ?_
  refine fwRun_ok k_rInit_81_ok rfl trivial ?_
  refine fwg_newa' 15 49 (shMB (.inr (1, [.ref 40, .ref 41, .ref 42, .ref 43, .ref 44, .ref 45, .int 0, .int 0, .int 0, .int 0, .int 0, .int 0, .ref 46, .int 0, .int 0, .int 0, .long 0, .int 0, .int 0, .ref 47, .int 0, .int 0, .int 0, .int 0, .int 0, .int 0, .int 0, .int 0, .int 0, .ref 48, .null, .int 0, .null, .int 0, .int 0, .int 0, .null, .int 0, .int 0, .int 0, .null, .int 0, .int 0, .null, .int 0, .int 0, .int 0, .int 0, .int 0, .int 0, .int 0, .int 0, .int 0, .int 0, .null, .int 0, .int 0, .int 0, .int 0, .null, .null, .null, .int 0, .int 0, .int 0, .int 0, .int 0, .int 0, .int 0, .int 0, .null, .int 0, .int 0, .int 0, .int 0, .int 0, .int 0, .int 0, .int 0]) :: .inl (.byte, 65536) :: .inl (.byte, 512512) :: .inl (.byte, 4000) :: .inl (.byte, 2000) :: .inl (.byte, 8000) :: .inl (.byte, 70000) :: .inl (.int, 8) :: .inl (.byte, 220) :: .inl (.boolean, 486) :: .inl (.int, 15) :: [])) (by decide) fwAc_int d_rInit_84 (by decide) (by decide) (by decide) (Nat.le_of_ble_eq_true rfl) (Nat.le_of_ble_eq_true rfl) rfl rfl ?_
  refine fwRun_ok k_rInit_86_ok rfl ⟨vp_in_nI (n := 0) (by decide) (by decide), vp_in_nI (n := 1) (by decide) (by decide), vp_in_nI (n := 2) (by decide) (by decide), vp_in_nI (n := 3) (by decide) (by decide), vp_in_nI (n := 4) (by decide) (by decide), vp_in_nI (n := 5) (by decide) (by decide), vp_in_nI (n := 6) (by decide) (by decide), vp_in_nI (n := 7) (by decide) (by decide), vp_in_nI (n := 8) (by decide) (by decide), vp_in_nI (n := 9) (by decide) (by decide), vp_in_nI (n := 10) (by decide) (by decide), vp_in_nI (n := 11) (by decide) (by decide), vp_in_nI (n := 12) (by decide) (by decide), vp_in_nI (n := 13) (by decide) (by decide), vp_in_nI (n := 14) (by decide) (by decide)⟩ ?_
  refine fwg_putR' (ci := 1) (kk := 30) (shMB (.inr (1, [.ref 40, .ref 41, .ref 42, .ref 43, .ref 44, .ref 45, .int 0, .int 0, .int 0, .int 0, .int 0, .int 0, .ref 46, .int 0, .int 0, .int 0, .long 0, .int 0, .int 0, .ref 47, .int 0, .int 0, .int 0, .int 0, .int 0, .int 0, .int 0, .int 0, .int 0, .ref 48, .ref 49, .int 0, .null, .int 0, .int 0, .int 0, .null, .int 0, .int 0, .int 0, .null, .int 0, .int 0, .null, .int 0, .int 0, .int 0, .int 0, .int 0, .int 0, .int 0, .int 0, .int 0, .int 0, .null, .int 0, .int 0, .int 0, .int 0, .null, .null, .null, .int 0, .int 0, .int 0, .int 0, .int 0, .int 0, .int 0, .int 0, .null, .int 0, .int 0, .int 0, .int 0, .int 0, .int 0, .int 0, .int 0]) :: .inl (.byte, 65536) :: .inl (.byte, 512512) :: .inl (.byte, 4000) :: .inl (.byte, 2000) :: .inl (.byte, 8000) :: .inl (.byte, 70000) :: .inl (.int, 8) :: .inl (.byte, 220) :: .inl (.boolean, 486) :: .inl (.int, 15) :: [])) rfl (by decide) (Or.inl ⟨_, rfl⟩) (List.mem_of_getElem? (i := 197) rfl) rfl rfl (fun _ => ⟨rfl, rfl⟩) rfl d_rInit_163 rfl ?_
  refine fwRun_ok k_rInit_166_ok rfl trivial ?_
  refine fwg_newa' 13 50 (shMB (.inr (1, [.ref 40, .ref 41, .ref 42, .ref 43, .ref 44, .ref 45, .int 0, .int 0, .int 0, .int 0, .int 0, .int 0, .ref 46, .int 0, .int 0, .int 0, .long 0, .int 0, .int 0, .ref 47, .int 0, .int 0, .int 0, .int 0, .int 0, .int 0, .int 0, .int 0, .int 0, .ref 48, .ref 49, .int 0, .null, .int 0, .int 0, .int 0, .null, .int 0, .int 0, .int 0, .null, .int 0, .int 0, .null, .int 0, .int 0, .int 0, .int 0, .int 0, .int 0, .int 0, .int 0, .int 0, .int 0, .null, .int 0, .int 0, .int 0, .int 0, .null, .null, .null, .int 0, .int 0, .int 0, .int 0, .int 0, .int 0, .int 0, .int 0, .null, .int 0, .int 0, .int 0, .int 0, .int 0, .int 0, .int 0, .int 0]) :: .inl (.byte, 65536) :: .inl (.byte, 512512) :: .inl (.byte, 4000) :: .inl (.byte, 2000) :: .inl (.byte, 8000) :: .inl (.byte, 70000) :: .inl (.int, 8) :: .inl (.byte, 220) :: .inl (.boolean, 486) :: .inl (.int, 15) :: .inl (.int, 13) :: [])) (by decide) fwAc_int d_rInit_169 (by decide) (by decide) (by decide) (Nat.le_of_ble_eq_true rfl) (Nat.le_of_ble_eq_true rfl) rfl rfl ?_
  refine fwg_putR' (ci := 1) (kk := 32) (shMB (.inr (1, [.ref 40, .ref 41, .ref 42, .ref 43, .ref 44, .ref 45, .int 0, .int 0, .int 0, .int 0, .int 0, .int 0, .ref 46, .int 0, .int 0, .int 0, .long 0, .int 0, .int 0, .ref 47, .int 0, .int 0, .int 0, .int 0, .int 0, .int 0, .int 0, .int 0, .int 0, .ref 48, .ref 49, .int 0, .ref 50, .int 0, .int 0, .int 0, .null, .int 0, .int 0, .int 0, .null, .int 0, .int 0, .null, .int 0, .int 0, .int 0, .int 0, .int 0, .int 0, .int 0, .int 0, .int 0, .int 0, .null, .int 0, .int 0, .int 0, .int 0, .null, .null, .null, .int 0, .int 0, .int 0, .int 0, .int 0, .int 0, .int 0, .int 0, .null, .int 0, .int 0, .int 0, .int 0, .int 0, .int 0, .int 0, .int 0]) :: .inl (.byte, 65536) :: .inl (.byte, 512512) :: .inl (.byte, 4000) :: .inl (.byte, 2000) :: .inl (.byte, 8000) :: .inl (.byte, 70000) :: .inl (.int, 8) :: .inl (.byte, 220) :: .inl (.boolean, 486) :: .inl (.int, 15) :: .inl (.int, 13) :: [])) rfl (by decide) (Or.inl ⟨_, rfl⟩) (List.mem_of_getElem? (i := 199) rfl) rfl rfl (fun _ => ⟨rfl, rfl⟩) rfl d_rInit_171 rfl ?_
  refine fw_cut (fun s => fwSame [40, 41, 42, 43, 44, 45, 46, 47, 48, 49, 50] σ s) ((((((((((((((((((((((((((fwSame_0 (by decide)).tr (fwSame_0 (by decide))).tr (fwSame_0 (by decide))).tr (fwSame_0 (by decide))).tr (fwSame_0 (by decide))).tr (fwSame_0 (by decide))).tr (fwSame_0 (by decide))).tr (fwSame_0 (by decide))).tr (fwSame_0 (by decide))).tr (fwSame_0 (by decide))).tr (fwSame_I (by decide))).tr (fwSame_I (by decide))).tr (fwSame_I (by decide))).tr (fwSame_I (by decide))).tr (fwSame_I (by decide))).tr (fwSame_I (by decide))).tr (fwSame_I (by decide))).tr (fwSame_I (by decide))).tr (fwSame_I (by decide))).tr (fwSame_I (by decide))).tr (fwSame_I (by decide))).tr (fwSame_I (by decide))).tr (fwSame_I (by decide))).tr (fwSame_I (by decide))).tr (fwSame_I (by decide))).tr (fwSame_0 (by decide))) (fun σ1 T1 => ?_)
  refine fwRun_ok k_rInit_174_ok rfl trivial ?_
  refine fwg_newa' 256 51 (shMB (.inr (1, [.ref 40, .ref 41, .ref 42, .ref 43, .ref 44, .ref 45, .int 0, .int 0, .int 0, .int 0, .int 0, .int 0, .ref 46, .int 0, .int 0, .int 0, .long 0, .int 0, .int 0, .ref 47, .int 0, .int 0, .int 0, .int 0, .int 0, .int 0, .int 0, .int 0, .int 0, .ref 48, .ref 49, .int 0, .ref 50, .int 0, .int 0, .int 0, .null, .int 0, .int 0, .int 0, .null, .int 0, .int 0, .null, .int 0, .int 0, .int 0, .int 0, .int 0, .int 0, .int 0, .int 0, .int 0, .int 0, .null, .int 0, .int 0, .int 0, .int 0, .null, .null, .null, .int 0, .int 0, .int 0, .int 0, .int 0, .int 0, .int 0, .int 0, .null, .int 0, .int 0, .int 0, .int 0, .int 0, .int 0, .int 0, .int 0]) :: .inl (.byte, 65536) :: .inl (.byte, 512512) :: .inl (.byte, 4000) :: .inl (.byte, 2000) :: .inl (.byte, 8000) :: .inl (.byte, 70000) :: .inl (.int, 8) :: .inl (.byte, 220) :: .inl (.boolean, 486) :: .inl (.int, 15) :: .inl (.int, 13) :: .inl (.byte, 256) :: [])) (by decide) fwAc_byte d_rInit_183 (by decide) (by decide) (by decide) (Nat.le_of_ble_eq_true rfl) (Nat.le_of_ble_eq_true rfl) rfl rfl ?_
  refine fwg_putR' (ci := 1) (kk := 36) (shMB (.inr (1, [.ref 40, .ref 41, .ref 42, .ref 43, .ref 44, .ref 45, .int 0, .int 0, .int 0, .int 0, .int 0, .int 0, .ref 46, .int 0, .int 0, .int 0, .long 0, .int 0, .int 0, .ref 47, .int 0, .int 0, .int 0, .int 0, .int 0, .int 0, .int 0, .int 0, .int 0, .ref 48, .ref 49, .int 0, .ref 50, .int 0, .int 0, .int 0, .ref 51, .int 0, .int 0, .int 0, .null, .int 0, .int 0, .null, .int 0, .int 0, .int 0, .int 0, .int 0, .int 0, .int 0, .int 0, .int 0, .int 0, .null, .int 0, .int 0, .int 0, .int 0, .null, .null, .null, .int 0, .int 0, .int 0, .int 0, .int 0, .int 0, .int 0, .int 0, .null, .int 0, .int 0, .int 0, .int 0, .int 0, .int 0, .int 0, .int 0]) :: .inl (.byte, 65536) :: .inl (.byte, 512512) :: .inl (.byte, 4000) :: .inl (.byte, 2000) :: .inl (.byte, 8000) :: .inl (.byte, 70000) :: .inl (.int, 8) :: .inl (.byte, 220) :: .inl (.boolean, 486) :: .inl (.int, 15) :: .inl (.int, 13) :: .inl (.byte, 256) :: [])) rfl (by decide) (Or.inl ⟨_, rfl⟩) (List.mem_of_getElem? (i := 203) rfl) rfl rfl (fun _ => ⟨rfl, rfl⟩) rfl d_rInit_185 rfl ?_
  refine fwRun_ok k_rInit_188_ok rfl trivial ?_
  refine fwg_newa' 64 52 (shMB (.inr (1, [.ref 40, .ref 41, .ref 42, .ref 43, .ref 44, .ref 45, .int 0, .int 0, .int 0, .int 0, .int 0, .int 0, .ref 46, .int 0, .int 0, .int 0, .long 0, .int 0, .int 0, .ref 47, .int 0, .int 0, .int 0, .int 0, .int 0, .int 0, .int 0, .int 0, .int 0, .ref 48, .ref 49, .int 0, .ref 50, .int 0, .int 0, .int 0, .ref 51, .int 0, .int 0, .int 0, .null, .int 0, .int 0, .null, .int 0, .int 0, .int 0, .int 0, .int 0, .int 0, .int 0, .int 0, .int 0, .int 0, .null, .int 0, .int 0, .int 0, .int 0, .null, .null, .null, .int 0, .int 0, .int 0, .int 0, .int 0, .int 0, .int 0, .int 0, .null, .int 0, .int 0, .int 0, .int 0, .int 0, .int 0, .int 0, .int 0]) :: .inl (.byte, 65536) :: .inl (.byte, 512512) :: .inl (.byte, 4000) :: .inl (.byte, 2000) :: .inl (.byte, 8000) :: .inl (.byte, 70000) :: .inl (.int, 8) :: .inl (.byte, 220) :: .inl (.boolean, 486) :: .inl (.int, 15) :: .inl (.int, 13) :: .inl (.byte, 256) :: .inl (.boolean, 64) :: [])) (by decide) fwAc_boolean d_rInit_191 (by decide) (by decide) (by decide) (Nat.le_of_ble_eq_true rfl) (Nat.le_of_ble_eq_true rfl) rfl rfl ?_
  refine fwg_putR' (ci := 1) (kk := 40) (shMB (.inr (1, [.ref 40, .ref 41, .ref 42, .ref 43, .ref 44, .ref 45, .int 0, .int 0, .int 0, .int 0, .int 0, .int 0, .ref 46, .int 0, .int 0, .int 0, .long 0, .int 0, .int 0, .ref 47, .int 0, .int 0, .int 0, .int 0, .int 0, .int 0, .int 0, .int 0, .int 0, .ref 48, .ref 49, .int 0, .ref 50, .int 0, .int 0, .int 0, .ref 51, .int 0, .int 0, .int 0, .ref 52, .int 0, .int 0, .null, .int 0, .int 0, .int 0, .int 0, .int 0, .int 0, .int 0, .int 0, .int 0, .int 0, .null, .int 0, .int 0, .int 0, .int 0, .null, .null, .null, .int 0, .int 0, .int 0, .int 0, .int 0, .int 0, .int 0, .int 0, .null, .int 0, .int 0, .int 0, .int 0, .int 0, .int 0, .int 0, .int 0]) :: .inl (.byte, 65536) :: .inl (.byte, 512512) :: .inl (.byte, 4000) :: .inl (.byte, 2000) :: .inl (.byte, 8000) :: .inl (.byte, 70000) :: .inl (.int, 8) :: .inl (.byte, 220) :: .inl (.boolean, 486) :: .inl (.int, 15) :: .inl (.int, 13) :: .inl (.byte, 256) :: .inl (.boolean, 64) :: [])) rfl (by decide) (Or.inl ⟨_, rfl⟩) (List.mem_of_getElem? (i := 207) rfl) rfl rfl (fun _ => ⟨rfl, rfl⟩) rfl d_rInit_193 rfl ?_
  refine fwRun_ok k_rInit_196_ok rfl trivial ?_
  refine fwg_newa' 11 53 (shMB (.inr (1, [.ref 40, .ref 41, .ref 42, .ref 43, .ref 44, .ref 45, .int 0, .int 0, .int 0, .int 0, .int 0, .int 0, .ref 46, .int 0, .int 0, .int 0, .long 0, .int 0, .int 0, .ref 47, .int 0, .int 0, .int 0, .int 0, .int 0, .int 0, .int 0, .int 0, .int 0, .ref 48, .ref 49, .int 0, .ref 50, .int 0, .int 0, .int 0, .ref 51, .int 0, .int 0, .int 0, .ref 52, .int 0, .int 0, .null, .int 0, .int 0, .int 0, .int 0, .int 0, .int 0, .int 0, .int 0, .int 0, .int 0, .null, .int 0, .int 0, .int 0, .int 0, .null, .null, .null, .int 0, .int 0, .int 0, .int 0, .int 0, .int 0, .int 0, .int 0, .null, .int 0, .int 0, .int 0, .int 0, .int 0, .int 0, .int 0, .int 0]) :: .inl (.byte, 65536) :: .inl (.byte, 512512) :: .inl (.byte, 4000) :: .inl (.byte, 2000) :: .inl (.byte, 8000) :: .inl (.byte, 70000) :: .inl (.int, 8) :: .inl (.byte, 220) :: .inl (.boolean, 486) :: .inl (.int, 15) :: .inl (.int, 13) :: .inl (.byte, 256) :: .inl (.boolean, 64) :: .inl (.int, 11) :: [])) (by decide) fwAc_int d_rInit_199 (by decide) (by decide) (by decide) (Nat.le_of_ble_eq_true rfl) (Nat.le_of_ble_eq_true rfl) rfl rfl ?_
  refine fwg_putR' (ci := 1) (kk := 43) (shMB (.inr (1, [.ref 40, .ref 41, .ref 42, .ref 43, .ref 44, .ref 45, .int 0, .int 0, .int 0, .int 0, .int 0, .int 0, .ref 46, .int 0, .int 0, .int 0, .long 0, .int 0, .int 0, .ref 47, .int 0, .int 0, .int 0, .int 0, .int 0, .int 0, .int 0, .int 0, .int 0, .ref 48, .ref 49, .int 0, .ref 50, .int 0, .int 0, .int 0, .ref 51, .int 0, .int 0, .int 0, .ref 52, .int 0, .int 0, .ref 53, .int 0, .int 0, .int 0, .int 0, .int 0, .int 0, .int 0, .int 0, .int 0, .int 0, .null, .int 0, .int 0, .int 0, .int 0, .null, .null, .null, .int 0, .int 0, .int 0, .int 0, .int 0, .int 0, .int 0, .int 0, .null, .int 0, .int 0, .int 0, .int 0, .int 0, .int 0, .int 0, .int 0]) :: .inl (.byte, 65536) :: .inl (.byte, 512512) :: .inl (.byte, 4000) :: .inl (.byte, 2000) :: .inl (.byte, 8000) :: .inl (.byte, 70000) :: .inl (.int, 8) :: .inl (.byte, 220) :: .inl (.boolean, 486) :: .inl (.int, 15) :: .inl (.int, 13) :: .inl (.byte, 256) :: .inl (.boolean, 64) :: .inl (.int, 11) :: [])) rfl (by decide) (Or.inl ⟨_, rfl⟩) (List.mem_of_getElem? (i := 210) rfl) rfl rfl (fun _ => ⟨rfl, rfl⟩) rfl d_rInit_201 rfl ?_
  refine fwRun_ok k_rInit_204_ok rfl trivial ?_
  refine fwg_newa' 58368 54 (shMB (.inr (1, [.ref 40, .ref 41, .ref 42, .ref 43, .ref 44, .ref 45, .int 0, .int 0, .int 0, .int 0, .int 0, .int 0, .ref 46, .int 0, .int 0, .int 0, .long 0, .int 0, .int 0, .ref 47, .int 0, .int 0, .int 0, .int 0, .int 0, .int 0, .int 0, .int 0, .int 0, .ref 48, .ref 49, .int 0, .ref 50, .int 0, .int 0, .int 0, .ref 51, .int 0, .int 0, .int 0, .ref 52, .int 0, .int 0, .ref 53, .int 0, .int 0, .int 0, .int 0, .int 0, .int 0, .int 0, .int 0, .int 0, .int 0, .null, .int 0, .int 0, .int 0, .int 0, .null, .null, .null, .int 0, .int 0, .int 0, .int 0, .int 0, .int 0, .int 0, .int 0, .null, .int 0, .int 0, .int 0, .int 0, .int 0, .int 0, .int 0, .int 0]) :: .inl (.byte, 65536) :: .inl (.byte, 512512) :: .inl (.byte, 4000) :: .inl (.byte, 2000) :: .inl (.byte, 8000) :: .inl (.byte, 70000) :: .inl (.int, 8) :: .inl (.byte, 220) :: .inl (.boolean, 486) :: .inl (.int, 15) :: .inl (.int, 13) :: .inl (.byte, 256) :: .inl (.boolean, 64) :: .inl (.int, 11) :: .inl (.byte, 58368) :: [])) (by decide) fwAc_byte d_rInit_207 (by decide) (by decide) (by decide) (Nat.le_of_ble_eq_true rfl) (Nat.le_of_ble_eq_true rfl) rfl rfl ?_
  refine fwg_putR' (ci := 1) (kk := 54) (shMB (.inr (1, [.ref 40, .ref 41, .ref 42, .ref 43, .ref 44, .ref 45, .int 0, .int 0, .int 0, .int 0, .int 0, .int 0, .ref 46, .int 0, .int 0, .int 0, .long 0, .int 0, .int 0, .ref 47, .int 0, .int 0, .int 0, .int 0, .int 0, .int 0, .int 0, .int 0, .int 0, .ref 48, .ref 49, .int 0, .ref 50, .int 0, .int 0, .int 0, .ref 51, .int 0, .int 0, .int 0, .ref 52, .int 0, .int 0, .ref 53, .int 0, .int 0, .int 0, .int 0, .int 0, .int 0, .int 0, .int 0, .int 0, .int 0, .ref 54, .int 0, .int 0, .int 0, .int 0, .null, .null, .null, .int 0, .int 0, .int 0, .int 0, .int 0, .int 0, .int 0, .int 0, .null, .int 0, .int 0, .int 0, .int 0, .int 0, .int 0, .int 0, .int 0]) :: .inl (.byte, 65536) :: .inl (.byte, 512512) :: .inl (.byte, 4000) :: .inl (.byte, 2000) :: .inl (.byte, 8000) :: .inl (.byte, 70000) :: .inl (.int, 8) :: .inl (.byte, 220) :: .inl (.boolean, 486) :: .inl (.int, 15) :: .inl (.int, 13) :: .inl (.byte, 256) :: .inl (.boolean, 64) :: .inl (.int, 11) :: .inl (.byte, 58368) :: [])) rfl (by decide) (Or.inl ⟨_, rfl⟩) (List.mem_of_getElem? (i := 221) rfl) rfl rfl (fun _ => ⟨rfl, rfl⟩) rfl d_rInit_209 rfl ?_
  refine fwRun_ok k_rInit_212_ok rfl trivial ?_
  refine fwg_newa' 800 55 (shMB (.inr (1, [.ref 40, .ref 41, .ref 42, .ref 43, .ref 44, .ref 45, .int 0, .int 0, .int 0, .int 0, .int 0, .int 0, .ref 46, .int 0, .int 0, .int 0, .long 0, .int 0, .int 0, .ref 47, .int 0, .int 0, .int 0, .int 0, .int 0, .int 0, .int 0, .int 0, .int 0, .ref 48, .ref 49, .int 0, .ref 50, .int 0, .int 0, .int 0, .ref 51, .int 0, .int 0, .int 0, .ref 52, .int 0, .int 0, .ref 53, .int 0, .int 0, .int 0, .int 0, .int 0, .int 0, .int 0, .int 0, .int 0, .int 0, .ref 54, .int 0, .int 0, .int 0, .int 0, .null, .null, .null, .int 0, .int 0, .int 0, .int 0, .int 0, .int 0, .int 0, .int 0, .null, .int 0, .int 0, .int 0, .int 0, .int 0, .int 0, .int 0, .int 0]) :: .inl (.byte, 65536) :: .inl (.byte, 512512) :: .inl (.byte, 4000) :: .inl (.byte, 2000) :: .inl (.byte, 8000) :: .inl (.byte, 70000) :: .inl (.int, 8) :: .inl (.byte, 220) :: .inl (.boolean, 486) :: .inl (.int, 15) :: .inl (.int, 13) :: .inl (.byte, 256) :: .inl (.boolean, 64) :: .inl (.int, 11) :: .inl (.byte, 58368) :: .inl (.byte, 800) :: [])) (by decide) fwAc_byte d_rInit_216 (by decide) (by decide) (by decide) (Nat.le_of_ble_eq_true rfl) (Nat.le_of_ble_eq_true rfl) rfl rfl ?_
  refine fwg_putR' (ci := 1) (kk := 59) (shMB (.inr (1, [.ref 40, .ref 41, .ref 42, .ref 43, .ref 44, .ref 45, .int 0, .int 0, .int 0, .int 0, .int 0, .int 0, .ref 46, .int 0, .int 0, .int 0, .long 0, .int 0, .int 0, .ref 47, .int 0, .int 0, .int 0, .int 0, .int 0, .int 0, .int 0, .int 0, .int 0, .ref 48, .ref 49, .int 0, .ref 50, .int 0, .int 0, .int 0, .ref 51, .int 0, .int 0, .int 0, .ref 52, .int 0, .int 0, .ref 53, .int 0, .int 0, .int 0, .int 0, .int 0, .int 0, .int 0, .int 0, .int 0, .int 0, .ref 54, .int 0, .int 0, .int 0, .int 0, .ref 55, .null, .null, .int 0, .int 0, .int 0, .int 0, .int 0, .int 0, .int 0, .int 0, .null, .int 0, .int 0, .int 0, .int 0, .int 0, .int 0, .int 0, .int 0]) :: .inl (.byte, 65536) :: .inl (.byte, 512512) :: .inl (.byte, 4000) :: .inl (.byte, 2000) :: .inl (.byte, 8000) :: .inl (.byte, 70000) :: .inl (.int, 8) :: .inl (.byte, 220) :: .inl (.boolean, 486) :: .inl (.int, 15) :: .inl (.int, 13) :: .inl (.byte, 256) :: .inl (.boolean, 64) :: .inl (.int, 11) :: .inl (.byte, 58368) :: .inl (.byte, 800) :: [])) rfl (by decide) (Or.inl ⟨_, rfl⟩) (List.mem_of_getElem? (i := 226) rfl) rfl rfl (fun _ => ⟨rfl, rfl⟩) rfl d_rInit_218 rfl ?_
  refine fwRun_ok k_rInit_221_ok rfl trivial ?_
  refine fwg_newa' 100 56 (shMB (.inr (1, [.ref 40, .ref 41, .ref 42, .ref 43, .ref 44, .ref 45, .int 0, .int 0, .int 0, .int 0, .int 0, .int 0, .ref 46, .int 0, .int 0, .int 0, .long 0, .int 0, .int 0, .ref 47, .int 0, .int 0, .int 0, .int 0, .int 0, .int 0, .int 0, .int 0, .int 0, .ref 48, .ref 49, .int 0, .ref 50, .int 0, .int 0, .int 0, .ref 51, .int 0, .int 0, .int 0, .ref 52, .int 0, .int 0, .ref 53, .int 0, .int 0, .int 0, .int 0, .int 0, .int 0, .int 0, .int 0, .int 0, .int 0, .ref 54, .int 0, .int 0, .int 0, .int 0, .ref 55, .null, .null, .int 0, .int 0, .int 0, .int 0, .int 0, .int 0, .int 0, .int 0, .null, .int 0, .int 0, .int 0, .int 0, .int 0, .int 0, .int 0, .int 0]) :: .inl (.byte, 65536) :: .inl (.byte, 512512) :: .inl (.byte, 4000) :: .inl (.byte, 2000) :: .inl (.byte, 8000) :: .inl (.byte, 70000) :: .inl (.int, 8) :: .inl (.byte, 220) :: .inl (.boolean, 486) :: .inl (.int, 15) :: .inl (.int, 13) :: .inl (.byte, 256) :: .inl (.boolean, 64) :: .inl (.int, 11) :: .inl (.byte, 58368) :: .inl (.byte, 800) :: .inl (.int, 100) :: [])) (by decide) fwAc_int d_rInit_224 (by decide) (by decide) (by decide) (Nat.le_of_ble_eq_true rfl) (Nat.le_of_ble_eq_true rfl) rfl rfl ?_
  refine fwg_putR' (ci := 1) (kk := 60) (shMB (.inr (1, [.ref 40, .ref 41, .ref 42, .ref 43, .ref 44, .ref 45, .int 0, .int 0, .int 0, .int 0, .int 0, .int 0, .ref 46, .int 0, .int 0, .int 0, .long 0, .int 0, .int 0, .ref 47, .int 0, .int 0, .int 0, .int 0, .int 0, .int 0, .int 0, .int 0, .int 0, .ref 48, .ref 49, .int 0, .ref 50, .int 0, .int 0, .int 0, .ref 51, .int 0, .int 0, .int 0, .ref 52, .int 0, .int 0, .ref 53, .int 0, .int 0, .int 0, .int 0, .int 0, .int 0, .int 0, .int 0, .int 0, .int 0, .ref 54, .int 0, .int 0, .int 0, .int 0, .ref 55, .ref 56, .null, .int 0, .int 0, .int 0, .int 0, .int 0, .int 0, .int 0, .int 0, .null, .int 0, .int 0, .int 0, .int 0, .int 0, .int 0, .int 0, .int 0]) :: .inl (.byte, 65536) :: .inl (.byte, 512512) :: .inl (.byte, 4000) :: .inl (.byte, 2000) :: .inl (.byte, 8000) :: .inl (.byte, 70000) :: .inl (.int, 8) :: .inl (.byte, 220) :: .inl (.boolean, 486) :: .inl (.int, 15) :: .inl (.int, 13) :: .inl (.byte, 256) :: .inl (.boolean, 64) :: .inl (.int, 11) :: .inl (.byte, 58368) :: .inl (.byte, 800) :: .inl (.int, 100) :: [])) rfl (by decide) (Or.inl ⟨_, rfl⟩) (List.mem_of_getElem? (i := 227) rfl) rfl rfl (fun _ => ⟨rfl, rfl⟩) rfl d_rInit_226 rfl ?_
  refine fwRun_ok k_rInit_229_ok rfl trivial ?_
  refine fwg_newa' 100 57 (shMB (.inr (1, [.ref 40, .ref 41, .ref 42, .ref 43, .ref 44, .ref 45, .int 0, .int 0, .int 0, .int 0, .int 0, .int 0, .ref 46, .int 0, .int 0, .int 0, .long 0, .int 0, .int 0, .ref 47, .int 0, .int 0, .int 0, .int 0, .int 0, .int 0, .int 0, .int 0, .int 0, .ref 48, .ref 49, .int 0, .ref 50, .int 0, .int 0, .int 0, .ref 51, .int 0, .int 0, .int 0, .ref 52, .int 0, .int 0, .ref 53, .int 0, .int 0, .int 0, .int 0, .int 0, .int 0, .int 0, .int 0, .int 0, .int 0, .ref 54, .int 0, .int 0, .int 0, .int 0, .ref 55, .ref 56, .null, .int 0, .int 0, .int 0, .int 0, .int 0, .int 0, .int 0, .int 0, .null, .int 0, .int 0, .int 0, .int 0, .int 0, .int 0, .int 0, .int 0]) :: .inl (.byte, 65536) :: .inl (.byte, 512512) :: .inl (.byte, 4000) :: .inl (.byte, 2000) :: .inl (.byte, 8000) :: .inl (.byte, 70000) :: .inl (.int, 8) :: .inl (.byte, 220) :: .inl (.boolean, 486) :: .inl (.int, 15) :: .inl (.int, 13) :: .inl (.byte, 256) :: .inl (.boolean, 64) :: .inl (.int, 11) :: .inl (.byte, 58368) :: .inl (.byte, 800) :: .inl (.int, 100) :: .inl (.int, 100) :: [])) (by decide) fwAc_int d_rInit_232 (by decide) (by decide) (by decide) (Nat.le_of_ble_eq_true rfl) (Nat.le_of_ble_eq_true rfl) rfl rfl ?_
  refine fwg_putR' (ci := 1) (kk := 61) (shMB (.inr (1, [.ref 40, .ref 41, .ref 42, .ref 43, .ref 44, .ref 45, .int 0, .int 0, .int 0, .int 0, .int 0, .int 0, .ref 46, .int 0, .int 0, .int 0, .long 0, .int 0, .int 0, .ref 47, .int 0, .int 0, .int 0, .int 0, .int 0, .int 0, .int 0, .int 0, .int 0, .ref 48, .ref 49, .int 0, .ref 50, .int 0, .int 0, .int 0, .ref 51, .int 0, .int 0, .int 0, .ref 52, .int 0, .int 0, .ref 53, .int 0, .int 0, .int 0, .int 0, .int 0, .int 0, .int 0, .int 0, .int 0, .int 0, .ref 54, .int 0, .int 0, .int 0, .int 0, .ref 55, .ref 56, .ref 57, .int 0, .int 0, .int 0, .int 0, .int 0, .int 0, .int 0, .int 0, .null, .int 0, .int 0, .int 0, .int 0, .int 0, .int 0, .int 0, .int 0]) :: .inl (.byte, 65536) :: .inl (.byte, 512512) :: .inl (.byte, 4000) :: .inl (.byte, 2000) :: .inl (.byte, 8000) :: .inl (.byte, 70000) :: .inl (.int, 8) :: .inl (.byte, 220) :: .inl (.boolean, 486) :: .inl (.int, 15) :: .inl (.int, 13) :: .inl (.byte, 256) :: .inl (.boolean, 64) :: .inl (.int, 11) :: .inl (.byte, 58368) :: .inl (.byte, 800) :: .inl (.int, 100) :: .inl (.int, 100) :: [])) rfl (by decide) (Or.inl ⟨_, rfl⟩) (List.mem_of_getElem? (i := 228) rfl) rfl rfl (fun _ => ⟨rfl, rfl⟩) rfl d_rInit_234 rfl ?_
  refine fwRun_ok k_rInit_237_ok rfl trivial ?_
  refine fwg_newa' 10 58 (shMB (.inr (1, [.ref 40, .ref 41, .ref 42, .ref 43, .ref 44, .ref 45, .int 0, .int 0, .int 0, .int 0, .int 0, .int 0, .ref 46, .int 0, .int 0, .int 0, .long 0, .int 0, .int 0, .ref 47, .int 0, .int 0, .int 0, .int 0, .int 0, .int 0, .int 0, .int 0, .int 0, .ref 48, .ref 49, .int 0, .ref 50, .int 0, .int 0, .int 0, .ref 51, .int 0, .int 0, .int 0, .ref 52, .int 0, .int 0, .ref 53, .int 0, .int 0, .int 0, .int 0, .int 0, .int 0, .int 0, .int 0, .int 0, .int 0, .ref 54, .int 0, .int 0, .int 0, .int 0, .ref 55, .ref 56, .ref 57, .int 0, .int 0, .int 0, .int 0, .int 0, .int 0, .int 0, .int 0, .null, .int 0, .int 0, .int 0, .int 0, .int 0, .int 0, .int 0, .int 0]) :: .inl (.byte, 65536) :: .inl (.byte, 512512) :: .inl (.byte, 4000) :: .inl (.byte, 2000) :: .inl (.byte, 8000) :: .inl (.byte, 70000) :: .inl (.int, 8) :: .inl (.byte, 220) :: .inl (.boolean, 486) :: .inl (.int, 15) :: .inl (.int, 13) :: .inl (.byte, 256) :: .inl (.boolean, 64) :: .inl (.int, 11) :: .inl (.byte, 58368) :: .inl (.byte, 800) :: .inl (.int, 100) :: .inl (.int, 100) :: .inl (.byte, 10) :: [])) (by decide) fwAc_byte d_rInit_240 (by decide) (by decide) (by decide) (Nat.le_of_ble_eq_true rfl) (Nat.le_of_ble_eq_true rfl) rfl rfl ?_
  refine fwg_putR' (ci := 1) (kk := 70) (shMB (sMod :: .inl (.byte, 65536) :: .inl (.byte, 512512) :: .inl (.byte, 4000) :: .inl (.byte, 2000) :: .inl (.byte, 8000) :: .inl (.byte, 70000) :: .inl (.int, 8) :: .inl (.byte, 220) :: .inl (.boolean, 486) :: .inl (.int, 15) :: .inl (.int, 13) :: .inl (.byte, 256) :: .inl (.boolean, 64) :: .inl (.int, 11) :: .inl (.byte, 58368) :: .inl (.byte, 800) :: .inl (.int, 100) :: .inl (.int, 100) :: .inl (.byte, 10) :: [])) rfl (by decide) (Or.inl ⟨_, rfl⟩) (List.mem_of_getElem? (i := 237) rfl) rfl rfl (fun _ => ⟨rfl, rfl⟩) rfl d_rInit_242 rfl ?_
  refine fw_cut (fun s => fwSame [51, 52, 53, 54, 55, 56, 57, 58] (fwI σ1 39 35 (-1)) s) ((((((((fwSame_0 (by decide)).tr (fwSame_0 (by decide))).tr (fwSame_0 (by decide))).tr (fwSame_0 (by decide))).tr (fwSame_0 (by decide))).tr (fwSame_0 (by decide))).tr (fwSame_0 (by decide))).tr (fwSame_0 (by decide))) (fun σ2 T2 => ?_)
  refine fwRun_ok k_rInit_245_ok rfl trivial ?_
  have z : ∀ b, b ≠ 35 → σ2.1 39 b = 0 := fun b hb => by rw [T2.c (by decide), fwI_ne2 hb, T1.c (by decide)]; exact h0 b
  have zl : σ2.2 39 16 = 0 := by rw [T2.c2 (by decide)]; show σ1.2 39 16 = 0; rw [T1.c2 (by decide)]; exact hl
  refine rInit_1 (σ0 := σ2) (fun σ3 s3 D3 => ?_) 512512 0 σ2 rfl fwSame.rf (fun j hj => absurd hj (Nat.not_lt_zero j))
  refine fwRun_ok k_rInit_267_ok rfl trivial ?_
  have y : ∀ b, b ≠ 35 → σ3.1 39 b = 0 := fun b hb => by rw [s3.c (by decide)]; exact z b hb
  refine fwg_callV (n := 0) (i := 39) (as := []) (r := []) (ct_rCold (t := 0) (y 9 (by decide)) (y 10 (by decide)) (by decide) D3) ⟨by decide, by decide, by decide +kernel⟩ m_rCold_in c_rInit_268 rfl rfl rfl rfl (Nat.le_of_ble_eq_true rfl) d_rInit_268 ⟨Nat.le_refl _, Nat.le_of_ble_eq_true rfl⟩ ⟨Nat.le_of_ble_eq_true rfl, Nat.le_of_ble_eq_true rfl⟩ (fun v sh' σ4 hq => ?_)
  obtain ⟨rfl, rfl, c1, ⟨c8, c9, c10, c13, c14, c15, c17, c18, c21, c22, c23, c35⟩, cO, cm, cr, cl⟩ := hq
  refine fwg_vret rfl (Nat.le_refl _) (Nat.le_refl _) ⟨rfl, rfl, ⟨⟨?_, ?_, c8, c9, c10, ?_, c13, c14, c15, c17, c18, c21, c22, c23, c35, ?_⟩, cm, cr, fun j hj => ?_⟩, ?_⟩ d_rInit_271
  · rw [cO 6 (by decide)]; exact y 6 (by decide)
  · rw [cO 7 (by decide)]; exact y 7 (by decide)
  · rw [cO 11 (by decide)]; exact y 11 (by decide)
  · rw [cl, s3.c2 (by decide)]; exact zl
  · rw [c1.c (by decide)]; exact D3 j hj
  · exact ((((T1.up (by decide)).tr (fwSame_I (i := 39) (by decide))).tr (T2.up (by decide))).tr (s3.up (by decide))).tr (c1.up (by decide))
end REF
end
section
/-! the reference's calls on a new object -/
section REF
variable {l : Launch} {Z : fwZ} {re : List fwE} {σ : fwS}
theorem ct_rStates (hF : FreM σ) : fwC l Z m_rStates 1 0 0 [.ref 39] (shMd re) σ (fun w sh' _ => w = some (.long 0) ∧ sh' = shMd re) := by
  refine fwC_of (ls := [some (.ref 39)]) (by decide +kernel) rfl (by rw [fw_sl1]; exact Nat.le_refl 1) ?_
  refine fwRun_ok k_rStates_0_ok rfl trivial ?_
  refine fwg_lret rfl (Nat.le_refl _) (Nat.le_refl _) ⟨?_, rfl⟩ d_rStates_4
  obtain ⟨⟨-, -, -, -, -, -, -, -, -, -, -, -, -, -, -, h⟩, -⟩ := hF
  show some (Value.long (σ.2 39 16)) = _
  rw [h]
theorem ct_rEnd {n : Int32} (hF : FreM σ) : fwC l Z m_rEnd 1 0 0 [.ref 39, .int n] (shMd re) σ (fun w sh' _ => w = some (.int (aEnd n)) ∧ sh' = shMd re) := by
  refine fwC_of (ls := [some (.ref 39), some (.int n)]) (by decide +kernel) rfl (by rw [fw_sl1]; exact Nat.le_refl 2) ?_
  have h6 : σ.1 39 6 = 0 := hF.1.1
  refine fwRun_ok k_rEnd_0_ok rfl trivial ?_
  refine fwg_if 12 d_rEnd_1 (by decide) (fun h => ?_) (fun h => ?_)
  · refine fwRun_ok k_rEnd_12_ok rfl trivial ?_
    exact fwg_zret rfl rfl (Nat.le_refl _) (Nat.le_refl _) ⟨by rw [aEnd, if_pos (Or.inl (show n < 0 from h))], rfl⟩ d_rEnd_13
  · refine fwRun_ok k_rEnd_4_ok rfl trivial ?_
    refine fwg_cmp 14 d_rEnd_9 (by decide) (fun h2 => ?_) (fun h2 => ?_)
    · have h3 : n ≤ σ.1 39 6 := h2
      rw [h6] at h3
      refine fwRun_ok k_rEnd_14_ok rfl trivial ?_
      exact fwg_zret rfl rfl (Nat.le_refl _) (Nat.le_refl _) ⟨by rw [aEnd, if_neg (fun q => q.elim h (fun q => q h3))], rfl⟩ d_rEnd_20
    · have h3 : ¬ n ≤ σ.1 39 6 := h2
      rw [h6] at h3
      refine fwRun_ok k_rEnd_12_ok rfl trivial ?_
      exact fwg_zret rfl rfl (Nat.le_refl _) (Nat.le_refl _) ⟨by rw [aEnd, if_pos (Or.inr h3)], rfl⟩ d_rEnd_13
theorem ct_rKeys (hF : FreM σ) : fwC l Z m_rKeys 1 0 0 [.ref 39] (shMd re) σ (fun w sh' _ => w = some (.int 0) ∧ sh' = shMd re) := by
  refine fwC_of (ls := [some (.ref 39), none]) (by decide +kernel) rfl (by rw [fw_sl1]; exact Nat.le_of_ble_eq_true rfl) ?_
  have h6 : σ.1 39 6 = 0 := hF.1.1
  have h8 : σ.1 39 8 = 0 := hF.1.2.2.1
  refine fwRun_ok k_rKeys_0_ok rfl trivial ?_
  refine fwg_cmp 17 d_rKeys_12 (by decide) (fun _ => ?_) (fun q => absurd (show σ.1 39 8 + σ.1 39 6 ≤ 2000 by rw [h6, h8]; decide) q)
  refine fwRun_ok k_rKeys_17_ok rfl trivial ?_
  refine fwRun_ok k_rKeys_19_ok rfl trivial ?_
  refine fwg_cmp 59 d_rKeys_24 (by decide) (fun _ => ?_) (fun q => absurd (show σ.1 39 6 ≤ 0 by rw [h6]; decide) q)
  refine fwRun_ok k_rKeys_59_ok rfl trivial ?_
  refine fwg_iret rfl (Nat.le_refl _) (Nat.le_refl _) ⟨?_, rfl⟩ d_rKeys_81
  show some (Value.int ((fwI (fwI σ 39 8 (σ.1 39 8 + σ.1 39 6)) 39 6 0).1 39 8)) = _
  rw [fwI_ne2 (by decide), fwI_eq, h6, h8]
  rfl
theorem ct_rBoot (hF : FreM σ) : fwC l Z m_rBoot 8 0 0 [.ref 39] (shMd re) σ (fun w sh' _ => w = none ∧ sh' = shMd re) := by
  refine fwC_of (ls := [some (.ref 39)]) (by decide +kernel) rfl (by rw [fw_sl1]; exact Nat.le_refl 1) ?_
  refine fwRun_ok k_rBoot_0_ok rfl trivial ?_
  refine fwg_callV (n := 0) (i := 39) (as := []) (r := []) (ct_rCold (t := 9) hF.1.2.2.2.1 hF.1.2.2.2.2.1 (by decide) hF.2.2.2) ⟨by decide, by decide, by decide +kernel⟩ m_rCold_in c_rBoot_1 rfl rfl rfl rfl (Nat.le_of_ble_eq_true rfl) d_rBoot_1 ⟨Nat.le_refl _, Nat.le_of_ble_eq_true rfl⟩ ⟨Nat.le_refl _, Nat.le_refl _⟩ (fun v sh' σ1 hq => ?_)
  obtain ⟨rfl, rfl, -⟩ := hq
  exact fwg_vret rfl (Nat.le_refl _) (Nat.le_refl _) ⟨rfl, rfl⟩ d_rBoot_4
theorem ct_rJump {x : Int32} : fwC l Z m_rJump 2 0 0 [.ref 39, .int x] (shMd re) σ (fun w sh' _ => w = none ∧ sh' = shMd re) := by
  refine fwC_of (ls := [some (.ref 39), some (.int x)]) (by decide +kernel) rfl (by rw [fw_sl1]; exact Nat.le_refl 2) ?_
  refine fwRun_ok k_rJump_0_ok rfl ⟨Or.inl rfl, Or.inl rfl⟩ ?_
  refine fwg_callV (n := 0) (i := 39) (as := []) (r := []) ct_rForget ⟨by decide, by decide, by decide +kernel⟩ m_rForget_in c_rJump_19 rfl rfl rfl rfl (Nat.le_of_ble_eq_true rfl) d_rJump_19 ⟨Nat.le_refl _, Nat.le_of_ble_eq_true rfl⟩ ⟨Nat.le_refl _, Nat.le_refl _⟩ (fun v sh' σ1 hq => ?_)
  obtain ⟨rfl, rfl, -⟩ := hq
  exact fwg_vret rfl (Nat.le_refl _) (Nat.le_refl _) ⟨rfl, rfl⟩ d_rJump_22
theorem ct_rLoad {x : Int32} (hF : FreM σ) : fwC l Z m_rLoad 2 0 0 [.ref 39, .int x] (shMd re) σ (fun w sh' _ => w = none ∧ sh' = shMd re) := by
  refine fwC_of (ls := [some (.ref 39), some (.int x), none, none]) (by decide +kernel) rfl (by rw [fw_sl1]; exact Nat.le_of_ble_eq_true rfl) ?_
  have h6 : σ.1 39 6 = 0 := hF.1.1
  refine fwRun_ok k_rLoad_0_ok rfl trivial ?_
  refine fwRun_ok k_rLoad_7_ok rfl trivial ?_
  refine fwg_cmp 34 d_rLoad_12 (by decide) (fun _ => ?_) (fun q => absurd (show σ.1 39 6 ≤ 0 by rw [h6]; decide) q)
  refine fwRun_ok k_rLoad_34_ok rfl trivial ?_
  exact fwg_vret rfl (Nat.le_refl _) (Nat.le_refl _) ⟨rfl, rfl⟩ d_rLoad_39
theorem ct_rOut {i : Int32} (hF : FreM σ) : fwC l Z m_rOut 1 0 0 [.ref 39, .int i] (shMd re) σ (fun w sh' _ => w = some (.int (-1)) ∧ sh' = shMd re) := by
  refine fwC_of (ls := [some (.ref 39), some (.int i)]) (by decide +kernel) rfl (by rw [fw_sl1]; exact Nat.le_refl 2) ?_
  have h11 : σ.1 39 11 = 0 := hF.1.2.2.2.2.2.1
  have k25 : fwG l Z m_rOut 1 0 0 (fun w sh' _ => w = some (.int (-1)) ∧ sh' = shMd re) 0 0 25 [some (.ref 39), some (.int i)] [] (shMd re) σ := by
    refine fwRun_ok k_rOut_25_ok rfl trivial ?_
    exact fwg_iret rfl (Nat.le_refl _) (Nat.le_refl _) ⟨rfl, rfl⟩ d_rOut_26
  refine fwRun_ok k_rOut_0_ok rfl trivial ?_
  refine fwg_if 25 d_rOut_1 (by decide) (fun _ => k25) (fun h => ?_)
  refine fwRun_ok k_rOut_4_ok rfl trivial ?_
  refine fwg_cmp 25 d_rOut_9 (by decide) (fun _ => k25) (fun q => absurd (show σ.1 39 11 ≤ i by rw [h11]; exact Int32.not_lt.1 h) q)
theorem ct_rBack (hF : FreM σ) : fwC l Z m_rBack 1 0 0 [.ref 39] (shMd re) σ (fun w sh' _ => w = some (.int 0) ∧ sh' = shMd re) := by
  refine fwC_of (ls := [some (.ref 39), none]) (by decide +kernel) rfl (by rw [fw_sl1]; exact Nat.le_of_ble_eq_true rfl) ?_
  have h11 : σ.1 39 11 = 0 := hF.1.2.2.2.2.2.1
  refine fwRun_ok k_rBack_0_ok rfl trivial ?_
  refine fwg_cmp 18 d_rBack_8 (by decide) (fun q => absurd (show (4000 : Int32) ≤ σ.1 39 11 from q) (by rw [h11]; decide)) (fun _ => ?_)
  refine fwRun_ok k_rBack_11_ok rfl trivial ?_
  refine fwg_goto 21 d_rBack_15 (by decide) ?_
  refine fwRun_ok k_rBack_21_ok rfl trivial ?_
  refine fwRun_ok k_rBack_26_ok rfl trivial ?_
  have e : (fwI σ 39 6 (σ.1 39 11)).1 39 6 = 0 := by rw [fwI_eq]; exact h11
  refine fwg_cmp 52 d_rBack_31 (by decide) (fun _ => ?_) (fun q => absurd (show (fwI σ 39 6 (σ.1 39 11)).1 39 6 ≤ 0 by rw [e]; decide) q)
  refine fwRun_ok k_rBack_52_ok rfl trivial ?_
  refine fwg_iret rfl (Nat.le_refl _) (Nat.le_refl _) ⟨?_, rfl⟩ d_rBack_56
  show some (Value.int ((fwI σ 39 6 (σ.1 39 11)).1 39 6)) = _
  rw [e]
theorem ct_rMemory {a : Int32} (hF : FreM σ) : fwC l Z m_rMemory 1 0 0 [.ref 39, .int a] (shMd re) σ (fun w sh' _ => w = some (.int (aMem a)) ∧ sh' = shMd re) := by
  refine fwC_of (ls := [some (.ref 39), some (.int a)]) (by decide +kernel) rfl (by rw [fw_sl1]; exact Nat.le_refl 2) ?_
  have k23 : (a < 0 ∨ ¬ a < 65536) → fwG l Z m_rMemory 1 0 0 (fun w sh' _ => w = some (.int (aMem a)) ∧ sh' = shMd re) 0 0 23 [some (.ref 39), some (.int a)] [] (shMd re) σ := by
    intro h
    refine fwRun_ok k_rMemory_23_ok rfl trivial ?_
    exact fwg_iret rfl (Nat.le_refl _) (Nat.le_refl _) ⟨by rw [aMem, if_pos h], rfl⟩ d_rMemory_24
  refine fwRun_ok k_rMemory_0_ok rfl trivial ?_
  refine fwg_if 23 d_rMemory_1 (by decide) (fun h => k23 (Or.inl h)) (fun h => ?_)
  refine fwRun_ok k_rMemory_4_ok rfl trivial ?_
  refine fwg_cmp 23 d_rMemory_7 (by decide) (fun h2 => k23 (Or.inr (Int32.not_lt.2 h2))) (fun h2 => ?_)
  clear k23
  have h2' : a < 65536 := Int32.not_le.1 h2
  obtain ⟨j, hj, rfl⟩ := fw_nat (n := 65536) h h2 (by decide) (by decide)
  refine fwRun_ok k_rMemory_10_ok rfl (vp_in_nI hj (by decide)) ?_
  refine fwg_goto 24 d_rMemory_20 (by decide) ?_
  refine fwg_iret rfl (Nat.le_refl _) (Nat.le_refl _) ⟨?_, rfl⟩ d_rMemory_24
  have e : nI j &&& 65535 = nI j := by
    have := pk_andN (n := j) (by omega) 16 (m := 65535) (by decide)
    rw [Nat.mod_eq_of_lt (by omega)] at this
    exact this
  show some (Value.int (σ.1 40 (nI j).toNatClampNeg &&& 255)) = _
  rw [aMem, if_neg (fun q => q.elim h (fun q => q h2')), e, nI_clamp (by omega), hF.2.1 j hj]
end REF
end
section
/-! the reference's calls on a new object: register, console, disk, feed -/
section REF
variable {l : Launch} {Z : fwZ} {re : List fwE} {σ : fwS}
theorem ct_rRegister {i : Int32} (hF : FreM σ) : fwC l Z m_rRegister 1 0 0 [.ref 39, .int i] (shMd re) σ (fun w sh' _ => w = some (.int (aReg i)) ∧ sh' = shMd re) := by
  refine fwC_of (ls := [some (.ref 39), some (.int i)]) (by decide +kernel) rfl (by rw [fw_sl1]; exact Nat.le_refl 2) ?_
  refine fwRun_ok k_rRegister_0_ok rfl trivial ?_
  by_cases h : i < 0 ∨ ¬ i ≤ 12
  · have n6 : ¬ i = 6 := fun q => by subst q; revert h; decide
    have n9 : ¬ i = 9 := fun q => by subst q; revert h; decide
    have n12 : ¬ i = 12 := fun q => by subst q; revert h; decide
    have ha : aReg i = -1 := by rw [aReg, if_neg n6, if_neg n9, if_neg n12, if_pos h]
    rw [ha]
    have k95 : fwG l Z m_rRegister 1 0 0 (fun w sh' _ => w = some (.int (-1)) ∧ sh' = shMd re) 0 0 95 [some (.ref 39), some (.int i)] [] (shMd re) σ := by
      refine fwRun_ok k_rRegister_95_ok rfl trivial ?_
      exact fwg_iret rfl (Nat.le_refl _) (Nat.le_refl _) ⟨rfl, rfl⟩ d_rRegister_96
    have z0 : (0 : Int32).toInt = 0 := by decide
    have z12 : (12 : Int32).toInt = 12 := by decide
    have z8 : (8 : Int32).toInt = 8 := by decide
    have hx : i.toInt < 6 ∨ (12 : Int) < i.toInt := by
      rcases h with h | h
      · have := Int32.lt_iff_toInt_lt.1 h
        exact Or.inl (by omega)
      · have := Int32.lt_iff_toInt_lt.1 (Int32.not_le.1 h)
        exact Or.inr (by omega)
    refine fwg_tabOut 76 d_rRegister_1 hx (by decide) ?_
    refine fwRun_ok k_rRegister_76_ok rfl trivial ?_
    refine fwg_if 95 d_rRegister_77 (by decide) (fun _ => k95) (fun h1 => ?_)
    refine fwRun_ok k_rRegister_80_ok rfl trivial ?_
    refine fwg_cmp 95 d_rRegister_83 (by decide) (fun _ => k95) (fun q => absurd (show (8 : Int32) ≤ i from ?_) q)
    rcases h with h | h
    · exact absurd h h1
    · have := Int32.lt_iff_toInt_lt.1 (Int32.not_le.1 h)
      exact Int32.le_iff_toInt_le.2 (by omega)
  · have h1 : ¬ i < 0 := fun q => h (Or.inl q)
    have h2 : i ≤ 12 := Decidable.byContradiction (fun q => h (Or.inr q))
    clear h
    obtain ⟨j, hj, rfl⟩ := nI_of2 (n := 12) (M := 12) (by decide) h1 h2
    obtain ⟨⟨-, -, -, -, -, -, f13, f14, f15, -, -, f21, f22, f23, -, -⟩, -, hr, -⟩ := hF
    have k76 : j < 8 → aReg (nI j) = 0 → fwG l Z m_rRegister 1 0 0 (fun w sh' _ => w = some (.int (aReg (nI j))) ∧ sh' = shMd re) 0 0 76 [some (.ref 39), some (.int (nI j))] [] (shMd re) σ := by
      intro h8 ha
      refine fwRun_ok k_rRegister_76_ok rfl trivial ?_
      refine fwg_if 95 d_rRegister_77 (by decide) (fun q => absurd q h1) (fun _ => ?_)
      refine fwRun_ok k_rRegister_80_ok rfl trivial ?_
      refine fwg_cmp 95 d_rRegister_83 (by decide) (fun q => absurd (show nI 8 ≤ nI j from q) (nI_ge h8 (by decide))) (fun _ => ?_)
      refine fwRun_ok k_rRegister_86_ok rfl (vp_in_nI h8 (by decide)) ?_
      refine fwg_goto 96 d_rRegister_92 (by decide) ?_
      refine fwg_iret rfl (Nat.le_refl _) (Nat.le_refl _) ⟨?_, rfl⟩ d_rRegister_96
      rw [ha]
      show some (Value.int (σ.1 46 (nI j).toNatClampNeg)) = _
      rw [nI_clamp (by omega), hr j h8]
    have hc : j = 0 ∨ j = 1 ∨ j = 2 ∨ j = 3 ∨ j = 4 ∨ j = 5 ∨ j = 6 ∨ j = 7 ∨ j = 8 ∨ j = 9 ∨ j = 10 ∨ j = 11 ∨ j = 12 := by omega
    rcases hc with rfl | rfl | rfl | rfl | rfl | rfl | rfl | rfl | rfl | rfl | rfl | rfl | rfl
    · exact fwg_tabOut 76 d_rRegister_1 (by decide) (by decide) (k76 (by decide) (by decide))
    · exact fwg_tabOut 76 d_rRegister_1 (by decide) (by decide) (k76 (by decide) (by decide))
    · exact fwg_tabOut 76 d_rRegister_1 (by decide) (by decide) (k76 (by decide) (by decide))
    · exact fwg_tabOut 76 d_rRegister_1 (by decide) (by decide) (k76 (by decide) (by decide))
    · exact fwg_tabOut 76 d_rRegister_1 (by decide) (by decide) (k76 (by decide) (by decide))
    · exact fwg_tabOut 76 d_rRegister_1 (by decide) (by decide) (k76 (by decide) (by decide))
    · refine fwg_tabIn 44 d_rRegister_1 (by decide) (by decide) rfl (by decide) ?_
      refine fwRun_ok k_rRegister_44_ok rfl trivial ?_
      exact fwg_iret rfl (Nat.le_refl _) (Nat.le_refl _) ⟨by show some (Value.int (σ.1 39 13 ||| 2)) = _; rw [f13]; rfl, rfl⟩ d_rRegister_50
    · exact fwg_tabIn 76 d_rRegister_1 (by decide) (by decide) rfl (by decide) (k76 (by decide) (by decide))
    · refine fwg_tabIn 51 d_rRegister_1 (by decide) (by decide) rfl (by decide) ?_
      refine fwRun_ok k_rRegister_51_ok rfl trivial ?_
      exact fwg_iret rfl (Nat.le_refl _) (Nat.le_refl _) ⟨by show some (Value.int (σ.1 39 14)) = _; rw [f14]; rfl, rfl⟩ d_rRegister_55
    · refine fwg_tabIn 56 d_rRegister_1 (by decide) (by decide) rfl (by decide) ?_
      refine fwRun_ok k_rRegister_56_ok rfl trivial ?_
      exact fwg_iret rfl (Nat.le_refl _) (Nat.le_refl _) ⟨by show some (Value.int (σ.1 39 15)) = _; rw [f15]; rfl, rfl⟩ d_rRegister_60
    · refine fwg_tabIn 61 d_rRegister_1 (by decide) (by decide) rfl (by decide) ?_
      refine fwRun_ok k_rRegister_61_ok rfl trivial ?_
      exact fwg_iret rfl (Nat.le_refl _) (Nat.le_refl _) ⟨by show some (Value.int (σ.1 39 21)) = _; rw [f21]; rfl, rfl⟩ d_rRegister_65
    · refine fwg_tabIn 66 d_rRegister_1 (by decide) (by decide) rfl (by decide) ?_
      refine fwRun_ok k_rRegister_66_ok rfl trivial ?_
      exact fwg_iret rfl (Nat.le_refl _) (Nat.le_refl _) ⟨by show some (Value.int (σ.1 39 22)) = _; rw [f22]; rfl, rfl⟩ d_rRegister_70
    · refine fwg_tabIn 71 d_rRegister_1 (by decide) (by decide) rfl (by decide) ?_
      refine fwRun_ok k_rRegister_71_ok rfl trivial ?_
      exact fwg_iret rfl (Nat.le_refl _) (Nat.le_refl _) ⟨by show some (Value.int (σ.1 39 23)) = _; rw [f23]; rfl, rfl⟩ d_rRegister_75
theorem rConsole_loop {Post : fwPost} (k : ∀ σ' : fwS, σ'.1 39 11 = nI 9 → fwG l Z m_rConsole 1 0 0 Post 0 0 45 [some (.ref 39), some (.int (nI 9))] [] (shMd re) σ') : ∀ (q i : Nat) (σ : fwS), i + q = 9 → σ.1 39 9 = 0 → σ.1 39 10 = nI 9 → σ.1 39 11 = nI 9 → fwG l Z m_rConsole 1 0 0 Post 0 0 10 [some (.ref 39), some (.int (nI i))] [] (shMd re) σ := by
  intro q
  induction q with
  | zero =>
    intro i σ hi h9 h10 h11
    obtain rfl : i = 9 := by omega
    refine fwRun_ok k_rConsole_10_ok rfl trivial ?_
    exact fwg_cmp 45 d_rConsole_15 (by decide) (fun _ => k σ h11) (fun h => absurd (show σ.1 39 10 ≤ nI 9 by rw [h10]; decide) h)
  | succ q ih =>
    intro i σ hi h9 h10 h11
    refine fwRun_ok k_rConsole_10_ok rfl trivial ?_
    refine fwg_cmp 45 d_rConsole_15 (by decide) (fun h => absurd (show nI 9 ≤ nI i from h10 ▸ h) (nI_ge (by omega) (by decide))) (fun h => ?_)
    have e : σ.1 39 9 + nI i - (σ.1 39 9 + nI i) / 8000 * 8000 = nI i := by
      rw [h9, ← nI_0, nI_add, Nat.zero_add]
      show nI i - nI i / nI 8000 * nI 8000 = nI i
      rw [pk_rem (by omega) (by decide) (by decide), Nat.mod_eq_of_lt (by omega)]
    refine fwRun_ok k_rConsole_18_ok rfl ⟨by decide, by show vp_in (σ.1 39 9 + nI i - (σ.1 39 9 + nI i) / 8000 * 8000) 8000; rw [e]; exact vp_in_nI (by omega) (by decide), vp_in_nI (by omega) (by decide)⟩ ?_
    refine fwg_goto 10 d_rConsole_42 (by decide) ?_
    have := ih (i + 1) (fwI σ 45 (nI i).toNatClampNeg (σ.1 44 (σ.1 39 9 + nI i - (σ.1 39 9 + nI i) / 8000 * 8000).toNatClampNeg).toInt8.toInt32) (by omega) (by rw [fwI_ne (by decide)]; exact h9) (by rw [fwI_ne (by decide)]; exact h10) (by rw [fwI_ne (by decide)]; exact h11)
    rw [← nI_1] at this
    exact this
theorem ct_rConsole (hF : FreM σ) : fwC l Z m_rConsole 1 0 0 [.ref 39] (shMd re) σ (fun w sh' _ => w = some (.int (nI 9)) ∧ sh' = shMd re) := by
  refine fwC_of (ls := [some (.ref 39), none]) (by decide +kernel) rfl (by rw [fw_sl1]; exact Nat.le_of_ble_eq_true rfl) ?_
  refine fwRun_ok k_rConsole_0_ok rfl trivial ?_
  refine rConsole_loop (fun σ' h11 => ?_) 9 0 _ rfl (by show (fwI σ 39 11 (σ.1 39 10)).1 39 9 = 0; rw [fwI_ne2 (by decide)]; exact hF.1.2.2.2.1) (by show (fwI σ 39 11 (σ.1 39 10)).1 39 10 = _; rw [fwI_ne2 (by decide)]; exact hF.1.2.2.2.2.1) (by show (fwI σ 39 11 (σ.1 39 10)).1 39 11 = _; rw [fwI_eq]; exact hF.1.2.2.2.2.1)
  refine fwRun_ok k_rConsole_45_ok rfl trivial ?_
  refine fwg_iret rfl (Nat.le_refl _) (Nat.le_refl _) ⟨?_, rfl⟩ d_rConsole_54
  show some (Value.int ((fwI σ' 39 10 0).1 39 11)) = _
  rw [fwI_ne2 (by decide), h11]
end REF
end
section
/-! the reference's calls on a new object: disk, feed -/
theorem fw_succ {x a b : Int32} (h : b.toInt = a.toInt + 1) : a < x ↔ b ≤ x := by
  rw [Int32.lt_iff_toInt_lt, Int32.le_iff_toInt_le]
  omega
section REF
variable {l : Launch} {Z : fwZ} {re : List fwE} {σ : fwS}
theorem ct_rDisk {dr t s k m : Int32} (hF : FreM σ) : fwC l Z m_rDisk 2 0 0 [.ref 39, .int dr, .int t, .int s, .int k, .int m] (shMd re) σ (fun w sh' _ => w = some (.int (aDisk dr t s k m)) ∧ sh' = shMd re) := by
  refine fwC_of (ls := [some (.ref 39), some (.int dr), some (.int t), some (.int s), some (.int k), some (.int m), none]) (by decide +kernel) rfl (by rw [fw_sl1]; exact Nat.le_of_ble_eq_true rfl) ?_
  have k42 : ¬ aDiskOk dr t s k → fwG l Z m_rDisk 2 0 0 (fun w sh' _ => w = some (.int (aDisk dr t s k m)) ∧ sh' = shMd re) 0 0 42 [some (.ref 39), some (.int dr), some (.int t), some (.int s), some (.int k), some (.int m), none] [] (shMd re) σ := by
    intro h
    refine fwRun_ok k_rDisk_42_ok rfl trivial ?_
    exact fwg_iret rfl (Nat.le_refl _) (Nat.le_refl _) ⟨by rw [aDisk, if_neg h], rfl⟩ d_rDisk_43
  refine fwRun_ok k_rDisk_0_ok rfl trivial ?_
  refine fwg_if 42 d_rDisk_1 (by decide) (fun h => k42 (fun q => q.1 h)) (fun h1 => ?_)
  refine fwRun_ok k_rDisk_4_ok rfl trivial ?_
  refine fwg_cmp 42 d_rDisk_6 (by decide) (fun h => k42 (fun q => q.2.1 h)) (fun h2 => ?_)
  refine fwRun_ok k_rDisk_9_ok rfl trivial ?_
  refine fwg_if 42 d_rDisk_10 (by decide) (fun h => k42 (fun q => q.2.2.2.2.1 h)) (fun s1 => ?_)
  refine fwRun_ok k_rDisk_13_ok rfl trivial ?_
  refine fwg_cmp 42 d_rDisk_16 (by decide) (fun h => k42 (fun q => q.2.2.2.2.2.1 ((fw_succ (by decide)).1 h))) (fun h => ?_)
  have s2 : ¬ (77 : Int32) ≤ t := fun q => h ((fw_succ (by decide)).2 q)
  refine fwRun_ok k_rDisk_19_ok rfl trivial ?_
  refine fwg_cmp 42 d_rDisk_21 (by decide) (fun h => k42 (fun q => q.2.2.2.2.2.2.1 h)) (fun s3 => ?_)
  refine fwRun_ok k_rDisk_24_ok rfl trivial ?_
  refine fwg_cmp 42 d_rDisk_27 (by decide) (fun h => k42 (fun q => q.2.2.2.2.2.2.2 h)) (fun s4 => ?_)
  refine fwRun_ok k_rDisk_30_ok rfl trivial ?_
  refine fwg_if 42 d_rDisk_32 (by decide) (fun h => k42 (fun q => q.2.2.1 h)) (fun h3 => ?_)
  refine fwRun_ok k_rDisk_35_ok rfl trivial ?_
  refine fwg_cmp 44 d_rDisk_39 (by decide) (fun h => ?_) (fun h => k42 (fun q => q.2.2.2.1 ((fw_succ (by decide)).1 (Int32.not_le.1 h))))
  have h4 : ¬ (128 : Int32) ≤ k := fun q => Int32.not_lt.2 h ((fw_succ (by decide)).2 q)
  have hA : aDisk dr t s k m = ((-27) ^^^ m).toInt8.toInt32 &&& 255 := by rw [aDisk, if_pos ⟨h1, h2, h3, h4, s1, s2, s3, s4⟩]
  rw [hA]
  clear k42 hA
  have t0 : ¬ s < 0 := fun q => s3 (Int32.lt_trans q (by decide))
  obtain ⟨a, ha, rfl⟩ := nI_of2 (n := 1) (M := 1) (by decide) h1 (Int32.not_lt.1 h2)
  obtain ⟨b, hb, rfl⟩ := fw_nat (n := 128) h3 h4 (by decide) (by decide)
  obtain ⟨c, hc, rfl⟩ := fw_nat (n := 77) s1 s2 (by decide) (by decide)
  obtain ⟨e, he, rfl⟩ := nI_of2 (n := 26) (M := 26) (by decide) t0 (Int32.not_lt.1 s4)
  have he1 : 1 ≤ e := by
    rcases Nat.eq_zero_or_pos e with q | q
    · subst q; exact absurd (show nI 0 < 1 by decide) s3
    · exact q
  refine fwRun_ok k_rDisk_44_ok rfl trivial ?_
  refine fwg_callV (n := 3) (i := 39) (as := [.int (nI a), .int (nI c), .int (nI e)]) (r := []) (ct_rSectorAt he1) ⟨by decide, by decide, by decide +kernel⟩ m_rSectorAt_in c_rDisk_48 rfl rfl rfl rfl (Nat.le_of_ble_eq_true rfl) d_rDisk_48 ⟨Nat.le_refl _, Nat.le_of_ble_eq_true rfl⟩ ⟨Nat.le_refl _, Nat.le_refl _⟩ (fun v sh' σ2 hq => ?_)
  obtain ⟨rfl, rfl, rfl⟩ := hq
  have hp : 128 * ((77 * a + c) * 26 + e - 1) + b < 512512 := by omega
  have hv : vp_in (nI (128 * ((77 * a + c) * 26 + e - 1)) + nI b) 512512 := by
    rw [nI_add]
    exact vp_in_nI hp (by decide)
  refine fwRun_ok k_rDisk_51_ok rfl ⟨hv, hv, hv⟩ ?_
  refine fwg_iret rfl (Nat.le_refl _) (Nat.le_refl _) ⟨?_, rfl⟩ d_rDisk_81
  show some (Value.int ((fwI σ2 41 (nI (128 * ((77 * a + c) * 26 + e - 1)) + nI b).toNatClampNeg (σ2.1 41 (nI (128 * ((77 * a + c) * 26 + e - 1)) + nI b).toNatClampNeg ^^^ m.toInt8.toInt32).toInt8.toInt32.toInt8.toInt32).1 41 (nI (128 * ((77 * a + c) * 26 + e - 1)) + nI b).toNatClampNeg &&& 255)) = _
  rw [fwI_eq, nI_add, nI_clamp (by omega), hF.2.2.2 _ hp, fw_b2, Int32.toInt8_xor, Int8.toInt8_toInt32, ← Int32.toInt8_xor]
theorem rFeed_loop {a b c e f : Int32} {Post : fwPost} (hp : ∀ σ' : fwS, Post (some (.int 1)) (shMd re) σ') : ∀ (q i : Nat) (l7 : Option Value) (σ : fwS), i + q = 20 → σ.1 39 6 = nI i → fwG l Z m_rFeed 1 0 0 Post 0 0 18 [some (.ref 39), some (.int a), some (.int b), some (.int c), some (.int e), some (.int f), some (.int (nI i)), l7] [] (shMd re) σ := by
  intro q
  induction q with
  | zero =>
    intro i l7 σ hi h6
    refine fwRun_ok k_rFeed_18_ok rfl trivial ?_
    refine fwg_cmp 112 d_rFeed_22 (by decide) (fun _ => ?_) (fun h => absurd (nI_le (a := 20) (by omega) (by omega)) h)
    refine fwRun_ok k_rFeed_112_ok rfl trivial ?_
    exact fwg_zret rfl rfl (Nat.le_refl _) (Nat.le_refl _) (hp σ) d_rFeed_113
  | succ q ih =>
    intro i l7 σ hi h6
    refine fwRun_ok k_rFeed_18_ok rfl trivial ?_
    refine fwg_cmp 112 d_rFeed_22 (by decide) (fun h => absurd (show nI 20 ≤ nI i from h) (nI_ge (by omega) (by decide))) (fun _ => ?_)
    have key : ∀ x : Int32, fwG l Z m_rFeed 1 0 0 Post 0 0 71 [some (.ref 39), some (.int a), some (.int b), some (.int c), some (.int e), some (.int f), some (.int (nI i)), l7] [.int x] (shMd re) σ := by
      intro x
      refine fwRun_ok k_rFeed_71_ok rfl ⟨show ¬ (4 : Int32) = 0 by decide, by show vp_in (σ.1 39 6) 4000; rw [h6]; exact vp_in_nI (by omega) (by decide)⟩ ?_
      refine fwg_goto 18 d_rFeed_109 (by decide) ?_
      refine fw_cut (fun s => s.1 39 6 = nI (i + 1)) ?_ (fun σ1 h1 => ?_)
      · show (fwI _ 39 6 _).1 39 6 = _
        rw [fwI_eq, fwI_ne (by decide), h6]
        exact nI_1 i
      · have := ih (i + 1) (some (.int x)) σ1 (by omega) h1
        rw [← nI_1] at this
        exact this
    refine fwRun_ok k_rFeed_25_ok rfl trivial ?_
    refine fwg_cmp 35 d_rFeed_28 (by decide) (fun _ => ?_) (fun _ => ?_)
    · refine fwRun_ok k_rFeed_35_ok rfl trivial ?_
      refine fwg_cmp 46 d_rFeed_39 (by decide) (fun _ => ?_) (fun _ => ?_)
      · refine fwRun_ok k_rFeed_46_ok rfl trivial ?_
        refine fwg_cmp 57 d_rFeed_50 (by decide) (fun _ => ?_) (fun _ => ?_)
        · refine fwRun_ok k_rFeed_57_ok rfl trivial ?_
          refine fwg_cmp 69 d_rFeed_61 (by decide) (fun _ => ?_) (fun _ => ?_)
          · refine fwRun_ok k_rFeed_69_ok rfl trivial ?_
            exact key f
          · refine fwRun_ok k_rFeed_64_ok rfl trivial ?_
            exact fwg_goto 71 d_rFeed_66 (by decide) (key e)
        · refine fwRun_ok k_rFeed_53_ok rfl trivial ?_
          exact fwg_goto 71 d_rFeed_54 (by decide) (key c)
      · refine fwRun_ok k_rFeed_42_ok rfl trivial ?_
        exact fwg_goto 71 d_rFeed_43 (by decide) (key b)
    · refine fwRun_ok k_rFeed_31_ok rfl trivial ?_
      exact fwg_goto 71 d_rFeed_32 (by decide) (key a)
theorem ct_rFeed {a b c e f : Int32} (hF : FreM σ) : fwC l Z m_rFeed 1 0 0 [.ref 39, .int a, .int b, .int c, .int e, .int f] (shMd re) σ (fun w sh' _ => w = some (.int 1) ∧ sh' = shMd re) := by
  refine fwC_of (ls := [some (.ref 39), some (.int a), some (.int b), some (.int c), some (.int e), some (.int f), none, none]) (by decide +kernel) rfl (by rw [fw_sl1]; exact Nat.le_of_ble_eq_true rfl) ?_
  have h6 : σ.1 39 6 = 0 := hF.1.1
  refine fwRun_ok k_rFeed_0_ok rfl trivial ?_
  refine fwg_cmp 15 d_rFeed_10 (by decide) (fun _ => ?_) (fun q => absurd (show σ.1 39 6 + 20 ≤ 4000 by rw [h6]; decide) q)
  refine fwRun_ok k_rFeed_15_ok rfl trivial ?_
  exact rFeed_loop (fun σ' => ⟨rfl, rfl⟩) 20 0 none σ rfl h6
end REF
end
section
/-! methods, their instructions, by program (wip/whole/methods.py) -/
/-- MonitorBoardModel.reads(I)I -/
abbrev m_rReads : fwM := (⟨"MonitorBoardModel", "reads", "(I)I"⟩, prog_13_method_58_code, 3, (some FieldType.int))
theorem m_rReads_in : Cond.code m_rReads.1 m_rReads.2.1 m_rReads.2.2.1 m_rReads.2.2.2 ∈ fwT := fwT_mem (List.mem_of_getElem? (i := 2298) (by decide +kernel)) rfl
def k_rReads_0 : List fwO := [(.aload_n 0, 0, 0, .null), (.getfield 48, 1, 35, .retAddr 202)]
theorem k_rReads_0_ok : fwChain m_rReads.1.cls m_rReads.2.1 0 k_rReads_0 4 = true := by decide +kernel
theorem d_rReads_4 : decode m_rReads.2.1 4 = .ok (.ifCond .ge 8, 3) := by decide +kernel
def k_rReads_7 : List fwO := [(.aload_n 0, 0, 0, .null), (.iconst 0, 0, 0, .int 0), (.putfield 48, 1, 35, .retAddr 202)]
theorem k_rReads_7_ok : fwChain m_rReads.1.cls m_rReads.2.1 7 k_rReads_7 12 = true := by decide +kernel
def k_rReads_12 : List fwO := [(.aload_n 0, 0, 0, .null), (.getfield 48, 1, 35, .retAddr 202), (.iload_n 1, 0, 0, .null)]
theorem k_rReads_12_ok : fwChain m_rReads.1.cls m_rReads.2.1 12 k_rReads_12 17 = true := by decide +kernel
theorem d_rReads_17 : decode m_rReads.2.1 17 = .ok (.if_icmp .ge 159, 3) := by decide +kernel
def k_rReads_20 : List fwO := [(.aload_n 0, 0, 0, .null), (.getfield 83, 1, 8, .retAddr 175)]
theorem k_rReads_20_ok : fwChain m_rReads.1.cls m_rReads.2.1 20 k_rReads_20 24 = true := by decide +kernel
theorem d_rReads_24 : decode m_rReads.2.1 24 = .ok (.ifCond .ne 5, 3) := by decide +kernel
def k_rReads_27 : List fwO := [(.iconst 0, 0, 0, .int 0)]
theorem k_rReads_27_ok : fwChain m_rReads.1.cls m_rReads.2.1 27 k_rReads_27 28 = true := by decide +kernel
theorem d_rReads_28 : decode m_rReads.2.1 28 = .ok (.ireturn, 1) := by decide +kernel
def k_rReads_29 : List fwO := [(.aload_n 0, 0, 0, .null)]
theorem k_rReads_29_ok : fwChain m_rReads.1.cls m_rReads.2.1 29 k_rReads_29 30 = true := by decide +kernel
theorem d_rReads_30 : decode m_rReads.2.1 30 = .ok (.invokevirtual 222, 3) := by decide +kernel
def k_rReads_33 : List fwO := [(.bipush 127, 0, 0, .int 127), (.iand, 0, 0, .null), (.istore_n 2, 0, 0, .null), (.iload_n 2, 0, 0, .null), (.bipush 13, 0, 0, .int 13)]
theorem k_rReads_33_ok : fwChain m_rReads.1.cls m_rReads.2.1 33 k_rReads_33 40 = true := by decide +kernel
theorem d_rReads_40 : decode m_rReads.2.1 40 = .ok (.if_icmp .eq 136, 3) := by decide +kernel
def k_rReads_43 : List fwO := [(.iload_n 2, 0, 0, .null), (.bipush 10, 0, 0, .int 10)]
theorem k_rReads_43_ok : fwChain m_rReads.1.cls m_rReads.2.1 43 k_rReads_43 46 = true := by decide +kernel
theorem d_rReads_46 : decode m_rReads.2.1 46 = .ok (.if_icmp .ne 6, 3) := by decide +kernel
theorem d_rReads_49 : decode m_rReads.2.1 49 = .ok (.goto 127, 3) := by decide +kernel
def k_rReads_52 : List fwO := [(.iload_n 2, 0, 0, .null), (.iconst 3, 0, 0, .int 3)]
theorem k_rReads_52_ok : fwChain m_rReads.1.cls m_rReads.2.1 52 k_rReads_52 54 = true := by decide +kernel
theorem d_rReads_54 : decode m_rReads.2.1 54 = .ok (.if_icmp .ne 17, 3) := by decide +kernel
def k_rReads_57 : List fwO := [(.aload_n 0, 0, 0, .null), (.getfield 48, 1, 35, .retAddr 202)]
theorem k_rReads_57_ok : fwChain m_rReads.1.cls m_rReads.2.1 57 k_rReads_57 61 = true := by decide +kernel
theorem d_rReads_61 : decode m_rReads.2.1 61 = .ok (.ifCond .ne 10, 3) := by decide +kernel
def k_rReads_64 : List fwO := [(.aload_n 0, 0, 0, .null), (.iconst (-1), 0, 0, .int (-1)), (.putfield 48, 1, 35, .retAddr 202), (.iconst 2, 0, 0, .int 2)]
theorem k_rReads_64_ok : fwChain m_rReads.1.cls m_rReads.2.1 64 k_rReads_64 70 = true := by decide +kernel
theorem d_rReads_70 : decode m_rReads.2.1 70 = .ok (.ireturn, 1) := by decide +kernel
def k_rReads_71 : List fwO := [(.iload_n 2, 0, 0, .null), (.bipush 8, 0, 0, .int 8)]
theorem k_rReads_71_ok : fwChain m_rReads.1.cls m_rReads.2.1 71 k_rReads_71 74 = true := by decide +kernel
theorem d_rReads_74 : decode m_rReads.2.1 74 = .ok (.if_icmp .eq 9, 3) := by decide +kernel
def k_rReads_77 : List fwO := [(.iload_n 2, 0, 0, .null), (.bipush 127, 0, 0, .int 127)]
theorem k_rReads_77_ok : fwChain m_rReads.1.cls m_rReads.2.1 77 k_rReads_77 80 = true := by decide +kernel
theorem d_rReads_80 : decode m_rReads.2.1 80 = .ok (.if_icmp .ne 44, 3) := by decide +kernel
def k_rReads_83 : List fwO := [(.aload_n 0, 0, 0, .null), (.getfield 48, 1, 35, .retAddr 202)]
theorem k_rReads_83_ok : fwChain m_rReads.1.cls m_rReads.2.1 83 k_rReads_83 87 = true := by decide +kernel
theorem d_rReads_87 : decode m_rReads.2.1 87 = .ok (.ifCond .ne 6, 3) := by decide +kernel
theorem d_rReads_90 : decode m_rReads.2.1 90 = .ok (.goto (-78), 3) := by decide +kernel
def k_rReads_93 : List fwO := [(.aload_n 0, 0, 0, .null), (.dup, 0, 0, .null), (.getfield 48, 1, 35, .retAddr 202), (.iconst 1, 0, 0, .int 1), (.isub, 0, 0, .null), (.putfield 48, 1, 35, .retAddr 202), (.aload_n 0, 0, 0, .null), (.bipush 8, 0, 0, .int 8)]
theorem k_rReads_93_ok : fwChain m_rReads.1.cls m_rReads.2.1 93 k_rReads_93 106 = true := by decide +kernel
theorem d_rReads_106 : decode m_rReads.2.1 106 = .ok (.invokevirtual 149, 3) := by decide +kernel
def k_rReads_109 : List fwO := [(.aload_n 0, 0, 0, .null), (.bipush 32, 0, 0, .int 32)]
theorem k_rReads_109_ok : fwChain m_rReads.1.cls m_rReads.2.1 109 k_rReads_109 112 = true := by decide +kernel
theorem d_rReads_112 : decode m_rReads.2.1 112 = .ok (.invokevirtual 149, 3) := by decide +kernel
def k_rReads_115 : List fwO := [(.aload_n 0, 0, 0, .null), (.bipush 8, 0, 0, .int 8)]
theorem k_rReads_115_ok : fwChain m_rReads.1.cls m_rReads.2.1 115 k_rReads_115 118 = true := by decide +kernel
theorem d_rReads_118 : decode m_rReads.2.1 118 = .ok (.invokevirtual 149, 3) := by decide +kernel
theorem d_rReads_121 : decode m_rReads.2.1 121 = .ok (.goto (-109), 3) := by decide +kernel
def k_rReads_124 : List fwO := [(.aload_n 0, 0, 0, .null), (.getfield 52, 1, 36, .retAddr 203), (.aload_n 0, 0, 0, .null), (.getfield 48, 1, 35, .retAddr 202), (.iload_n 2, 0, 0, .null), (.i2b, 0, 0, .null), (.bastore, 0, 0, .null), (.aload_n 0, 0, 0, .null), (.dup, 0, 0, .null), (.getfield 48, 1, 35, .retAddr 202), (.iconst 1, 0, 0, .int 1), (.iadd, 0, 0, .null), (.putfield 48, 1, 35, .retAddr 202), (.iload_n 2, 0, 0, .null), (.bipush 32, 0, 0, .int 32)]
theorem k_rReads_124_ok : fwChain m_rReads.1.cls m_rReads.2.1 124 k_rReads_124 148 = true := by decide +kernel
theorem d_rReads_148 : decode m_rReads.2.1 148 = .ok (.if_icmp .ge 20, 3) := by decide +kernel
def k_rReads_151 : List fwO := [(.aload_n 0, 0, 0, .null), (.bipush 94, 0, 0, .int 94)]
theorem k_rReads_151_ok : fwChain m_rReads.1.cls m_rReads.2.1 151 k_rReads_151 154 = true := by decide +kernel
theorem d_rReads_154 : decode m_rReads.2.1 154 = .ok (.invokevirtual 149, 3) := by decide +kernel
def k_rReads_157 : List fwO := [(.aload_n 0, 0, 0, .null), (.iload_n 2, 0, 0, .null), (.bipush 64, 0, 0, .int 64), (.iadd, 0, 0, .null)]
theorem k_rReads_157_ok : fwChain m_rReads.1.cls m_rReads.2.1 157 k_rReads_157 162 = true := by decide +kernel
theorem d_rReads_162 : decode m_rReads.2.1 162 = .ok (.invokevirtual 149, 3) := by decide +kernel
theorem d_rReads_165 : decode m_rReads.2.1 165 = .ok (.goto 8, 3) := by decide +kernel
def k_rReads_168 : List fwO := [(.aload_n 0, 0, 0, .null), (.iload_n 2, 0, 0, .null)]
theorem k_rReads_168_ok : fwChain m_rReads.1.cls m_rReads.2.1 168 k_rReads_168 170 = true := by decide +kernel
theorem d_rReads_170 : decode m_rReads.2.1 170 = .ok (.invokevirtual 149, 3) := by decide +kernel
theorem d_rReads_173 : decode m_rReads.2.1 173 = .ok (.goto (-161), 3) := by decide +kernel
def k_rReads_176 : List fwO := [(.aload_n 0, 0, 0, .null), (.bipush 13, 0, 0, .int 13)]
theorem k_rReads_176_ok : fwChain m_rReads.1.cls m_rReads.2.1 176 k_rReads_176 179 = true := by decide +kernel
theorem d_rReads_179 : decode m_rReads.2.1 179 = .ok (.invokevirtual 149, 3) := by decide +kernel
def k_rReads_182 : List fwO := [(.iconst 1, 0, 0, .int 1)]
theorem k_rReads_182_ok : fwChain m_rReads.1.cls m_rReads.2.1 182 k_rReads_182 183 = true := by decide +kernel
theorem d_rReads_183 : decode m_rReads.2.1 183 = .ok (.ireturn, 1) := by decide +kernel
/-- MonitorBoardModel.line()Z -/
abbrev m_rLine : fwM := (⟨"MonitorBoardModel", "line", "()Z"⟩, prog_13_method_81_code, 3, (some FieldType.boolean))
theorem m_rLine_in : Cond.code m_rLine.1 m_rLine.2.1 m_rLine.2.2.1 m_rLine.2.2.2 ∈ fwT := fwT_mem (List.mem_of_getElem? (i := 2294) (by decide +kernel)) rfl
def k_rLine_0 : List fwO := [(.aload_n 0, 0, 0, .null), (.bipush 127, 0, 0, .int 127)]
theorem k_rLine_0_ok : fwChain m_rLine.1.cls m_rLine.2.1 0 k_rLine_0 3 = true := by decide +kernel
theorem d_rLine_3 : decode m_rLine.2.1 3 = .ok (.invokevirtual 317, 3) := by decide +kernel
def k_rLine_6 : List fwO := [(.istore_n 1, 0, 0, .null), (.iload_n 1, 0, 0, .null)]
theorem k_rLine_6_ok : fwChain m_rLine.1.cls m_rLine.2.1 6 k_rLine_6 8 = true := by decide +kernel
theorem d_rLine_8 : decode m_rLine.2.1 8 = .ok (.ifCond .ne 5, 3) := by decide +kernel
def k_rLine_11 : List fwO := [(.iconst 0, 0, 0, .int 0)]
theorem k_rLine_11_ok : fwChain m_rLine.1.cls m_rLine.2.1 11 k_rLine_11 12 = true := by decide +kernel
theorem d_rLine_12 : decode m_rLine.2.1 12 = .ok (.ireturn, 1) := by decide +kernel
def k_rLine_13 : List fwO := [(.iload_n 1, 0, 0, .null), (.iconst 2, 0, 0, .int 2)]
theorem k_rLine_13_ok : fwChain m_rLine.1.cls m_rLine.2.1 13 k_rLine_13 15 = true := by decide +kernel
theorem d_rLine_15 : decode m_rLine.2.1 15 = .ok (.if_icmp .ne 9, 3) := by decide +kernel
def k_rLine_18 : List fwO := [(.aload_n 0, 0, 0, .null)]
theorem k_rLine_18_ok : fwChain m_rLine.1.cls m_rLine.2.1 18 k_rLine_18 19 = true := by decide +kernel
theorem d_rLine_19 : decode m_rLine.2.1 19 = .ok (.invokevirtual 268, 3) := by decide +kernel
def k_rLine_22 : List fwO := [(.iconst 1, 0, 0, .int 1)]
theorem k_rLine_22_ok : fwChain m_rLine.1.cls m_rLine.2.1 22 k_rLine_22 23 = true := by decide +kernel
theorem d_rLine_23 : decode m_rLine.2.1 23 = .ok (.ireturn, 1) := by decide +kernel
def k_rLine_24 : List fwO := [(.aload_n 0, 0, 0, .null), (.aload_n 0, 0, 0, .null), (.getfield 48, 1, 35, .retAddr 202), (.putfield 413, 1, 41, .retAddr 208), (.aload_n 0, 0, 0, .null), (.iconst (-1), 0, 0, .int (-1)), (.putfield 48, 1, 35, .retAddr 202), (.iconst 0, 0, 0, .int 0), (.istore_n 2, 0, 0, .null)]
theorem k_rLine_24_ok : fwChain m_rLine.1.cls m_rLine.2.1 24 k_rLine_24 39 = true := by decide +kernel
def k_rLine_39 : List fwO := [(.iload_n 2, 0, 0, .null), (.aload_n 0, 0, 0, .null), (.getfield 413, 1, 41, .retAddr 208)]
theorem k_rLine_39_ok : fwChain m_rLine.1.cls m_rLine.2.1 39 k_rLine_39 44 = true := by decide +kernel
theorem d_rLine_44 : decode m_rLine.2.1 44 = .ok (.if_icmp .ge 43, 3) := by decide +kernel
def k_rLine_47 : List fwO := [(.aload_n 0, 0, 0, .null), (.getfield 52, 1, 36, .retAddr 203), (.iload_n 2, 0, 0, .null), (.baload, 0, 0, .null), (.bipush 97, 0, 0, .int 97)]
theorem k_rLine_47_ok : fwChain m_rLine.1.cls m_rLine.2.1 47 k_rLine_47 55 = true := by decide +kernel
theorem d_rLine_55 : decode m_rLine.2.1 55 = .ok (.if_icmp .lt 26, 3) := by decide +kernel
def k_rLine_58 : List fwO := [(.aload_n 0, 0, 0, .null), (.getfield 52, 1, 36, .retAddr 203), (.iload_n 2, 0, 0, .null), (.baload, 0, 0, .null), (.bipush 122, 0, 0, .int 122)]
theorem k_rLine_58_ok : fwChain m_rLine.1.cls m_rLine.2.1 58 k_rLine_58 66 = true := by decide +kernel
theorem d_rLine_66 : decode m_rLine.2.1 66 = .ok (.if_icmp .gt 15, 3) := by decide +kernel
def k_rLine_69 : List fwO := [(.aload_n 0, 0, 0, .null), (.getfield 52, 1, 36, .retAddr 203), (.iload_n 2, 0, 0, .null), (.dup2, 0, 0, .null), (.baload, 0, 0, .null), (.bipush 32, 0, 0, .int 32), (.isub, 0, 0, .null), (.i2b, 0, 0, .null), (.bastore, 0, 0, .null)]
theorem k_rLine_69_ok : fwChain m_rLine.1.cls m_rLine.2.1 69 k_rLine_69 81 = true := by decide +kernel
def k_rLine_81 : List fwO := [(.iinc 2 1, 0, 0, .int 1)]
theorem k_rLine_81_ok : fwChain m_rLine.1.cls m_rLine.2.1 81 k_rLine_81 84 = true := by decide +kernel
theorem d_rLine_84 : decode m_rLine.2.1 84 = .ok (.goto (-45), 3) := by decide +kernel
def k_rLine_87 : List fwO := [(.aload_n 0, 0, 0, .null), (.iconst 0, 0, 0, .int 0), (.putfield 320, 1, 39, .retAddr 206), (.aload_n 0, 0, 0, .null)]
theorem k_rLine_87_ok : fwChain m_rLine.1.cls m_rLine.2.1 87 k_rLine_87 93 = true := by decide +kernel
theorem d_rLine_93 : decode m_rLine.2.1 93 = .ok (.invokevirtual 416, 3) := by decide +kernel
def k_rLine_96 : List fwO := [(.aload_n 0, 0, 0, .null), (.getfield 116, 1, 18, .retAddr 185)]
theorem k_rLine_96_ok : fwChain m_rLine.1.cls m_rLine.2.1 96 k_rLine_96 100 = true := by decide +kernel
theorem d_rLine_100 : decode m_rLine.2.1 100 = .ok (.ifCond .eq 14, 3) := by decide +kernel
def k_rLine_103 : List fwO := [(.aload_n 0, 0, 0, .null), (.getfield 320, 1, 39, .retAddr 206)]
theorem k_rLine_103_ok : fwChain m_rLine.1.cls m_rLine.2.1 103 k_rLine_103 107 = true := by decide +kernel
theorem d_rLine_107 : decode m_rLine.2.1 107 = .ok (.ifCond .ne 7, 3) := by decide +kernel
def k_rLine_110 : List fwO := [(.aload_n 0, 0, 0, .null)]
theorem k_rLine_110_ok : fwChain m_rLine.1.cls m_rLine.2.1 110 k_rLine_110 111 = true := by decide +kernel
theorem d_rLine_111 : decode m_rLine.2.1 111 = .ok (.invokevirtual 281, 3) := by decide +kernel
def k_rLine_114 : List fwO := [(.iconst 1, 0, 0, .int 1)]
theorem k_rLine_114_ok : fwChain m_rLine.1.cls m_rLine.2.1 114 k_rLine_114 115 = true := by decide +kernel
theorem d_rLine_115 : decode m_rLine.2.1 115 = .ok (.ireturn, 1) := by decide +kernel
theorem c_rReads_30 : ∀ w ∈ ([(Cond.methodLink "MonitorBoardModel" (222 : Nat) ({ cls := "MonitorBoardModel", name := "key", desc := "()I" } : MethodName)), (Cond.instanceMethod ({ cls := "MonitorBoardModel", name := "key", desc := "()I" } : MethodName)), (Cond.selects "MonitorBoardModel" ({ cls := "MonitorBoardModel", name := "key", desc := "()I" } : MethodName) ({ cls := "MonitorBoardModel", name := "key", desc := "()I" } : MethodName)), (Cond.initialized "MonitorBoardModel")] : List Cond), w ∈ fwT := fwT_all [2299, 2301, 160, 295] (by decide +kernel) (by decide +kernel)
theorem c_rReads_106 : ∀ w ∈ ([(Cond.methodLink "MonitorBoardModel" (149 : Nat) ({ cls := "MonitorBoardModel", name := "tell", desc := "(I)V" } : MethodName)), (Cond.instanceMethod ({ cls := "MonitorBoardModel", name := "tell", desc := "(I)V" } : MethodName)), (Cond.selects "MonitorBoardModel" ({ cls := "MonitorBoardModel", name := "tell", desc := "(I)V" } : MethodName) ({ cls := "MonitorBoardModel", name := "tell", desc := "(I)V" } : MethodName)), (Cond.initialized "MonitorBoardModel")] : List Cond), w ∈ fwT := fwT_all [1945, 1947, 145, 295] (by decide +kernel) (by decide +kernel)
theorem c_rReads_112 : ∀ w ∈ ([(Cond.methodLink "MonitorBoardModel" (149 : Nat) ({ cls := "MonitorBoardModel", name := "tell", desc := "(I)V" } : MethodName)), (Cond.instanceMethod ({ cls := "MonitorBoardModel", name := "tell", desc := "(I)V" } : MethodName)), (Cond.selects "MonitorBoardModel" ({ cls := "MonitorBoardModel", name := "tell", desc := "(I)V" } : MethodName) ({ cls := "MonitorBoardModel", name := "tell", desc := "(I)V" } : MethodName)), (Cond.initialized "MonitorBoardModel")] : List Cond), w ∈ fwT := c_rReads_106
theorem c_rReads_118 : ∀ w ∈ ([(Cond.methodLink "MonitorBoardModel" (149 : Nat) ({ cls := "MonitorBoardModel", name := "tell", desc := "(I)V" } : MethodName)), (Cond.instanceMethod ({ cls := "MonitorBoardModel", name := "tell", desc := "(I)V" } : MethodName)), (Cond.selects "MonitorBoardModel" ({ cls := "MonitorBoardModel", name := "tell", desc := "(I)V" } : MethodName) ({ cls := "MonitorBoardModel", name := "tell", desc := "(I)V" } : MethodName)), (Cond.initialized "MonitorBoardModel")] : List Cond), w ∈ fwT := c_rReads_106
theorem c_rReads_154 : ∀ w ∈ ([(Cond.methodLink "MonitorBoardModel" (149 : Nat) ({ cls := "MonitorBoardModel", name := "tell", desc := "(I)V" } : MethodName)), (Cond.instanceMethod ({ cls := "MonitorBoardModel", name := "tell", desc := "(I)V" } : MethodName)), (Cond.selects "MonitorBoardModel" ({ cls := "MonitorBoardModel", name := "tell", desc := "(I)V" } : MethodName) ({ cls := "MonitorBoardModel", name := "tell", desc := "(I)V" } : MethodName)), (Cond.initialized "MonitorBoardModel")] : List Cond), w ∈ fwT := c_rReads_106
theorem c_rReads_162 : ∀ w ∈ ([(Cond.methodLink "MonitorBoardModel" (149 : Nat) ({ cls := "MonitorBoardModel", name := "tell", desc := "(I)V" } : MethodName)), (Cond.instanceMethod ({ cls := "MonitorBoardModel", name := "tell", desc := "(I)V" } : MethodName)), (Cond.selects "MonitorBoardModel" ({ cls := "MonitorBoardModel", name := "tell", desc := "(I)V" } : MethodName) ({ cls := "MonitorBoardModel", name := "tell", desc := "(I)V" } : MethodName)), (Cond.initialized "MonitorBoardModel")] : List Cond), w ∈ fwT := c_rReads_106
theorem c_rReads_170 : ∀ w ∈ ([(Cond.methodLink "MonitorBoardModel" (149 : Nat) ({ cls := "MonitorBoardModel", name := "tell", desc := "(I)V" } : MethodName)), (Cond.instanceMethod ({ cls := "MonitorBoardModel", name := "tell", desc := "(I)V" } : MethodName)), (Cond.selects "MonitorBoardModel" ({ cls := "MonitorBoardModel", name := "tell", desc := "(I)V" } : MethodName) ({ cls := "MonitorBoardModel", name := "tell", desc := "(I)V" } : MethodName)), (Cond.initialized "MonitorBoardModel")] : List Cond), w ∈ fwT := c_rReads_106
theorem c_rReads_179 : ∀ w ∈ ([(Cond.methodLink "MonitorBoardModel" (149 : Nat) ({ cls := "MonitorBoardModel", name := "tell", desc := "(I)V" } : MethodName)), (Cond.instanceMethod ({ cls := "MonitorBoardModel", name := "tell", desc := "(I)V" } : MethodName)), (Cond.selects "MonitorBoardModel" ({ cls := "MonitorBoardModel", name := "tell", desc := "(I)V" } : MethodName) ({ cls := "MonitorBoardModel", name := "tell", desc := "(I)V" } : MethodName)), (Cond.initialized "MonitorBoardModel")] : List Cond), w ∈ fwT := c_rReads_106
theorem c_rLine_3 : ∀ w ∈ ([(Cond.methodLink "MonitorBoardModel" (317 : Nat) ({ cls := "MonitorBoardModel", name := "reads", desc := "(I)I" } : MethodName)), (Cond.instanceMethod ({ cls := "MonitorBoardModel", name := "reads", desc := "(I)I" } : MethodName)), (Cond.selects "MonitorBoardModel" ({ cls := "MonitorBoardModel", name := "reads", desc := "(I)I" } : MethodName) ({ cls := "MonitorBoardModel", name := "reads", desc := "(I)I" } : MethodName)), (Cond.initialized "MonitorBoardModel")] : List Cond), w ∈ fwT := fwT_all [2295, 2297, 159, 295] (by decide +kernel) (by decide +kernel)
theorem c_rLine_19 : ∀ w ∈ ([(Cond.methodLink "MonitorBoardModel" (268 : Nat) ({ cls := "MonitorBoardModel", name := "warm", desc := "()V" } : MethodName)), (Cond.instanceMethod ({ cls := "MonitorBoardModel", name := "warm", desc := "()V" } : MethodName)), (Cond.selects "MonitorBoardModel" ({ cls := "MonitorBoardModel", name := "warm", desc := "()V" } : MethodName) ({ cls := "MonitorBoardModel", name := "warm", desc := "()V" } : MethodName)), (Cond.initialized "MonitorBoardModel")] : List Cond), w ∈ fwT := fwT_all [1956, 1958, 147, 295] (by decide +kernel) (by decide +kernel)
theorem c_rLine_93 : ∀ w ∈ ([(Cond.methodLink "MonitorBoardModel" (416 : Nat) ({ cls := "MonitorBoardModel", name := "command", desc := "()V" } : MethodName)), (Cond.instanceMethod ({ cls := "MonitorBoardModel", name := "command", desc := "()V" } : MethodName)), (Cond.selects "MonitorBoardModel" ({ cls := "MonitorBoardModel", name := "command", desc := "()V" } : MethodName) ({ cls := "MonitorBoardModel", name := "command", desc := "()V" } : MethodName)), (Cond.initialized "MonitorBoardModel")] : List Cond), w ∈ fwT := fwT_all [2303, 2305, 161, 295] (by decide +kernel) (by decide +kernel)
theorem c_rLine_111 : ∀ w ∈ ([(Cond.methodLink "MonitorBoardModel" (281 : Nat) ({ cls := "MonitorBoardModel", name := "prompt", desc := "()V" } : MethodName)), (Cond.instanceMethod ({ cls := "MonitorBoardModel", name := "prompt", desc := "()V" } : MethodName)), (Cond.selects "MonitorBoardModel" ({ cls := "MonitorBoardModel", name := "prompt", desc := "()V" } : MethodName) ({ cls := "MonitorBoardModel", name := "prompt", desc := "()V" } : MethodName)), (Cond.initialized "MonitorBoardModel")] : List Cond), w ∈ fwT := fwT_all [1996, 1998, 156, 295] (by decide +kernel) (by decide +kernel)
end
section
/-! the reference's calls on a new object: run -/
section REF
variable {l : Launch} {Z : fwZ} {re : List fwE} {σ : fwS}
theorem ct_rReads0 (h8 : σ.1 39 8 = 0) (h35 : σ.1 39 35 = -1) : fwC l Z m_rReads 1 0 0 [.ref 39, .int 127] (shMd re) σ (fun w sh' _ => w = some (.int 0) ∧ sh' = shMd re) := by
  refine fwC_of (ls := [some (.ref 39), some (.int 127), none]) (by decide +kernel) rfl (by rw [fw_sl1]; exact Nat.le_of_ble_eq_true rfl) ?_
  refine fwRun_ok k_rReads_0_ok rfl trivial ?_
  refine fwg_if 12 d_rReads_4 (by decide) (fun q => absurd (show (0 : Int32) ≤ σ.1 39 35 from q) (by rw [h35]; decide)) (fun _ => ?_)
  refine fwRun_ok k_rReads_7_ok rfl trivial ?_
  refine fwRun_ok k_rReads_12_ok rfl trivial ?_
  refine fwg_cmp 176 d_rReads_17 (by decide) (fun q => absurd (show (127 : Int32) ≤ (fwI σ 39 35 0).1 39 35 from q) (by rw [fwI_eq]; decide)) (fun _ => ?_)
  refine fwRun_ok k_rReads_20_ok rfl trivial ?_
  refine fwg_if 29 d_rReads_24 (by decide) (fun q => absurd (show (fwI σ 39 35 0).1 39 8 = 0 by rw [fwI_ne2 (by decide)]; exact h8) q) (fun _ => ?_)
  refine fwRun_ok k_rReads_27_ok rfl trivial ?_
  exact fwg_iret rfl (Nat.le_refl _) (Nat.le_refl _) ⟨rfl, rfl⟩ d_rReads_28
theorem ct_rLine0 (h8 : σ.1 39 8 = 0) (h35 : σ.1 39 35 = -1) : fwC l Z m_rLine 2 0 0 [.ref 39] (shMd re) σ (fun w sh' _ => w = some (.int 0) ∧ sh' = shMd re) := by
  refine fwC_of (ls := [some (.ref 39), none, none]) (by decide +kernel) rfl (by rw [fw_sl1]; exact Nat.le_of_ble_eq_true rfl) ?_
  refine fwRun_ok k_rLine_0_ok rfl trivial ?_
  refine fwg_callV (n := 1) (i := 39) (as := [.int 127]) (r := []) (ct_rReads0 h8 h35) ⟨by decide, by decide, by decide +kernel⟩ m_rReads_in c_rLine_3 rfl rfl rfl rfl (Nat.le_of_ble_eq_true rfl) d_rLine_3 ⟨Nat.le_refl _, Nat.le_of_ble_eq_true rfl⟩ ⟨Nat.le_refl _, Nat.le_refl _⟩ (fun v sh' σ1 hq => ?_)
  obtain ⟨rfl, rfl⟩ := hq
  refine fwRun_ok k_rLine_6_ok rfl trivial ?_
  refine fwg_if 13 d_rLine_8 (by decide) (fun q => absurd rfl q) (fun _ => ?_)
  refine fwRun_ok k_rLine_11_ok rfl trivial ?_
  exact fwg_zret rfl rfl (Nat.le_refl _) (Nat.le_refl _) ⟨rfl, rfl⟩ d_rLine_12
theorem ct_rRun {n : Int32} (hF : FreM σ) : fwC l Z m_rRun 3 0 0 [.ref 39, .int n] (shMd re) σ (fun w sh' _ => w = some (.int (aRun n)) ∧ sh' = shMd re) := by
  refine fwC_of (ls := [some (.ref 39), some (.int n), none, none, none, none, none]) (by decide +kernel) rfl (by rw [fw_sl1]; exact Nat.le_of_ble_eq_true rfl) ?_
  obtain ⟨⟨-, -, f8, -, -, -, -, -, -, f17, f18, -, -, -, f35, fl⟩, -⟩ := hF
  have key : ∀ x : Int32, (x = 0 → aRun n = 0) → (¬ x = 0 → ¬ x < 1 ∧ aRun n = 1) → fwG l Z m_rRun 3 0 0 (fun w sh' _ => w = some (.int (aRun n)) ∧ sh' = shMd re) 0 0 15 [some (.ref 39), some (.int n), none, none, none, none, none] [.int x] (shMd re) σ := by
    intro x h0 h1
    refine fwRun_ok k_rRun_15_ok rfl trivial ?_
    refine fwg_if 41 d_rRun_25 (by decide) (fun h => ?_) (fun h => ?_)
    · obtain ⟨g1, g2⟩ := h1 h
      rw [g2]
      refine fwRun_ok k_rRun_41_ok rfl trivial ?_
      refine fwg_if 212 d_rRun_47 (by decide) (fun q => absurd (show (0 : Int32) ≤ lg_cmp (σ.2 39 16) (σ.2 39 16 + x.toInt64) from q) (by rw [fl]; exact Int32.not_le.2 ((lg_cmp_lt _ _).2 (fw_lpos g1)))) (fun _ => ?_)
      refine fwRun_ok k_rRun_50_ok rfl trivial ?_
      refine fwg_if 59 d_rRun_54 (by decide) (fun _ => ?_) (fun q => absurd f17 q)
      refine fwRun_ok k_rRun_59_ok rfl trivial ?_
      refine fwg_if 75 d_rRun_63 (by decide) (fun q => absurd ((show σ.1 39 18 = 0 from q).symm.trans f18) (by decide)) (fun _ => ?_)
      refine fwRun_ok k_rRun_66_ok rfl trivial ?_
      refine fwg_callV (n := 0) (i := 39) (as := []) (r := []) (ct_rLine0 f8 f35) ⟨by decide, by decide, by decide +kernel⟩ m_rLine_in c_rRun_67 rfl rfl rfl rfl (Nat.le_of_ble_eq_true rfl) d_rRun_67 ⟨Nat.le_refl _, Nat.le_of_ble_eq_true rfl⟩ ⟨Nat.le_refl _, Nat.le_refl _⟩ (fun v sh' σ1 hq => ?_)
      obtain ⟨rfl, rfl⟩ := hq
      refine fwg_if 41 d_rRun_70 (by decide) (fun q => absurd rfl q) (fun _ => ?_)
      refine fwRun_ok k_rRun_73_ok rfl trivial ?_
      exact fwg_iret rfl (Nat.le_refl _) (Nat.le_refl _) ⟨rfl, rfl⟩ d_rRun_74
    · rw [h0 (Decidable.byContradiction h)]
      refine fwRun_ok k_rRun_28_ok rfl trivial ?_
      refine fwg_if 39 d_rRun_32 (by decide) (fun _ => ?_) (fun q => absurd f17 q)
      refine fwRun_ok k_rRun_39_ok rfl trivial ?_
      exact fwg_iret rfl (Nat.le_refl _) (Nat.le_refl _) ⟨rfl, rfl⟩ d_rRun_40
  have k10 : (n < 1 ∨ ¬ n ≤ 200000) → fwG l Z m_rRun 3 0 0 (fun w sh' _ => w = some (.int (aRun n)) ∧ sh' = shMd re) 0 0 10 [some (.ref 39), some (.int n), none, none, none, none, none] [] (shMd re) σ := by
    intro h
    refine fwRun_ok k_rRun_10_ok rfl trivial ?_
    refine fwg_goto 15 d_rRun_11 (by decide) ?_
    exact key 0 (fun _ => by rw [aRun, if_pos h]) (fun q => absurd rfl q)
  refine fwRun_ok k_rRun_0_ok rfl trivial ?_
  refine fwg_if 10 d_rRun_1 (by decide) (fun h => k10 (Or.inl (Int32.lt_trans h (by decide)))) (fun h => ?_)
  refine fwRun_ok k_rRun_4_ok rfl trivial ?_
  refine fwg_cmp 14 d_rRun_7 (by decide) (fun h2 => ?_) (fun h2 => k10 (Or.inr h2))
  refine fwRun_ok k_rRun_14_ok rfl trivial ?_
  refine key n (fun q => ?_) (fun q => ?_)
  · subst q
    rfl
  · have g : ¬ n < 1 := fun r => by
      have r1 := Int32.lt_iff_toInt_lt.1 r
      have r2 : (0 : Int32).toInt ≤ n.toInt := Int.not_lt.1 (fun z => h (Int32.lt_iff_toInt_lt.2 z))
      have r3 : (1 : Int32).toInt = 1 := by decide
      have r4 : (0 : Int32).toInt = 0 := by decide
      exact q (Int32.toInt_inj.1 (by omega))
    exact ⟨g, by rw [aRun, if_neg (fun z => z.elim g (fun z => z h2))]⟩
end REF
end
section
/-! methods, their instructions, by program (wip/whole/methods.py) -/
/-- MonitorBoardModel.assemble()I -/
abbrev m_rAssemble : fwM := (⟨"MonitorBoardModel", "assemble", "()I"⟩, prog_13_method_123_code, 5, (some FieldType.int))
theorem m_rAssemble_in : Cond.code m_rAssemble.1 m_rAssemble.2.1 m_rAssemble.2.2.1 m_rAssemble.2.2.2 ∈ fwT := fwT_mem (List.mem_of_getElem? (i := 2673) (by decide +kernel)) rfl
def k_rAssemble_0 : List fwO := [(.aload_n 0, 0, 0, .null), (.getfield 80, 1, 6, .retAddr 173), (.istore_n 1, 0, 0, .null), (.aload_n 0, 0, 0, .null), (.iconst 0, 0, 0, .int 0), (.putfield 80, 1, 6, .retAddr 173), (.aload_n 0, 0, 0, .null), (.iload_n 1, 0, 0, .null), (.putfield 614, 1, 67, .retAddr 234), (.aload_n 0, 0, 0, .null), (.iconst 0, 0, 0, .int 0), (.putfield 620, 1, 62, .retAddr 229), (.aload_n 0, 0, 0, .null), (.iconst (-1), 0, 0, .int (-1)), (.putfield 605, 1, 68, .retAddr 235), (.iconst 0, 0, 0, .int 0), (.istore_n 2, 0, 0, .null)]
theorem k_rAssemble_0_ok : fwChain m_rAssemble.1.cls m_rAssemble.2.1 0 k_rAssemble_0 27 = true := by decide +kernel
def k_rAssemble_27 : List fwO := [(.iload_n 2, 0, 0, .null)]
theorem k_rAssemble_27_ok : fwChain m_rAssemble.1.cls m_rAssemble.2.1 27 k_rAssemble_27 28 = true := by decide +kernel
theorem d_rAssemble_28 : decode m_rAssemble.2.1 28 = .ok (.ldc_w 623, 3) := by decide +kernel
theorem d_rAssemble_31 : decode m_rAssemble.2.1 31 = .ok (.if_icmp .ge 16, 3) := by decide +kernel
def k_rAssemble_34 : List fwO := [(.aload_n 0, 0, 0, .null), (.getfield 28, 1, 5, .retAddr 172), (.iload_n 2, 0, 0, .null), (.iconst 0, 0, 0, .int 0), (.bastore, 0, 0, .null), (.iinc 2 1, 0, 0, .int 1)]
theorem k_rAssemble_34_ok : fwChain m_rAssemble.1.cls m_rAssemble.2.1 34 k_rAssemble_34 44 = true := by decide +kernel
theorem d_rAssemble_44 : decode m_rAssemble.2.1 44 = .ok (.goto (-17), 3) := by decide +kernel
def k_rAssemble_47 : List fwO := [(.iconst 0, 0, 0, .int 0), (.istore_n 2, 0, 0, .null)]
theorem k_rAssemble_47_ok : fwChain m_rAssemble.1.cls m_rAssemble.2.1 47 k_rAssemble_47 49 = true := by decide +kernel
def k_rAssemble_49 : List fwO := [(.iload_n 2, 0, 0, .null), (.iconst 2, 0, 0, .int 2)]
theorem k_rAssemble_49_ok : fwChain m_rAssemble.1.cls m_rAssemble.2.1 49 k_rAssemble_49 51 = true := by decide +kernel
theorem d_rAssemble_51 : decode m_rAssemble.2.1 51 = .ok (.if_icmp .ge 134, 3) := by decide +kernel
def k_rAssemble_54 : List fwO := [(.aload_n 0, 0, 0, .null), (.getfield 605, 1, 68, .retAddr 235)]
theorem k_rAssemble_54_ok : fwChain m_rAssemble.1.cls m_rAssemble.2.1 54 k_rAssemble_54 58 = true := by decide +kernel
theorem d_rAssemble_58 : decode m_rAssemble.2.1 58 = .ok (.ifCond .ge 127, 3) := by decide +kernel
def k_rAssemble_61 : List fwO := [(.aload_n 0, 0, 0, .null), (.iload_n 2, 0, 0, .null), (.iconst 1, 0, 0, .int 1)]
theorem k_rAssemble_61_ok : fwChain m_rAssemble.1.cls m_rAssemble.2.1 61 k_rAssemble_61 64 = true := by decide +kernel
theorem d_rAssemble_64 : decode m_rAssemble.2.1 64 = .ok (.if_icmp .ne 7, 3) := by decide +kernel
def k_rAssemble_67 : List fwO := [(.iconst 1, 0, 0, .int 1)]
theorem k_rAssemble_67_ok : fwChain m_rAssemble.1.cls m_rAssemble.2.1 67 k_rAssemble_67 68 = true := by decide +kernel
theorem d_rAssemble_68 : decode m_rAssemble.2.1 68 = .ok (.goto 4, 3) := by decide +kernel
def k_rAssemble_71 : List fwO := [(.iconst 0, 0, 0, .int 0)]
theorem k_rAssemble_71_ok : fwChain m_rAssemble.1.cls m_rAssemble.2.1 71 k_rAssemble_71 72 = true := by decide +kernel
def k_rAssemble_72 : List fwO := [(.putfield 624, 1, 69, .retAddr 236), (.aload_n 0, 0, 0, .null), (.iconst 0, 0, 0, .int 0), (.putfield 627, 1, 77, .retAddr 244), (.aload_n 0, 0, 0, .null), (.sipush 256, 0, 0, .int 256), (.putfield 630, 1, 63, .retAddr 230), (.aload_n 0, 0, 0, .null), (.sipush 256, 0, 0, .int 256), (.putfield 633, 1, 64, .retAddr 231), (.iconst 1, 0, 0, .int 1), (.istore_n 3, 0, 0, .null), (.iconst 0, 0, 0, .int 0), (.istore 4, 0, 0, .null)]
theorem k_rAssemble_72_ok : fwChain m_rAssemble.1.cls m_rAssemble.2.1 72 k_rAssemble_72 99 = true := by decide +kernel
def k_rAssemble_99 : List fwO := [(.iload 4, 0, 0, .null), (.iload_n 1, 0, 0, .null)]
theorem k_rAssemble_99_ok : fwChain m_rAssemble.1.cls m_rAssemble.2.1 99 k_rAssemble_99 102 = true := by decide +kernel
theorem d_rAssemble_102 : decode m_rAssemble.2.1 102 = .ok (.if_icmp .ge 77, 3) := by decide +kernel
def k_rAssemble_105 : List fwO := [(.iload_n 3, 0, 0, .null)]
theorem k_rAssemble_105_ok : fwChain m_rAssemble.1.cls m_rAssemble.2.1 105 k_rAssemble_105 106 = true := by decide +kernel
theorem d_rAssemble_106 : decode m_rAssemble.2.1 106 = .ok (.ifCond .eq 73, 3) := by decide +kernel
def k_rAssemble_109 : List fwO := [(.aload_n 0, 0, 0, .null), (.getfield 605, 1, 68, .retAddr 235)]
theorem k_rAssemble_109_ok : fwChain m_rAssemble.1.cls m_rAssemble.2.1 109 k_rAssemble_109 113 = true := by decide +kernel
theorem d_rAssemble_113 : decode m_rAssemble.2.1 113 = .ok (.ifCond .ge 66, 3) := by decide +kernel
def k_rAssemble_116 : List fwO := [(.aload_n 0, 0, 0, .null), (.iload 4, 0, 0, .null), (.putfield 602, 1, 66, .retAddr 233)]
theorem k_rAssemble_116_ok : fwChain m_rAssemble.1.cls m_rAssemble.2.1 116 k_rAssemble_116 122 = true := by decide +kernel
def k_rAssemble_122 : List fwO := [(.aload_n 0, 0, 0, .null), (.getfield 602, 1, 66, .retAddr 233), (.iload_n 1, 0, 0, .null)]
theorem k_rAssemble_122_ok : fwChain m_rAssemble.1.cls m_rAssemble.2.1 122 k_rAssemble_122 127 = true := by decide +kernel
theorem d_rAssemble_127 : decode m_rAssemble.2.1 127 = .ok (.if_icmp .ge 30, 3) := by decide +kernel
def k_rAssemble_130 : List fwO := [(.aload_n 0, 0, 0, .null), (.getfield 18, 1, 2, .retAddr 169), (.aload_n 0, 0, 0, .null), (.getfield 602, 1, 66, .retAddr 233), (.baload, 0, 0, .null), (.bipush 10, 0, 0, .int 10)]
theorem k_rAssemble_130_ok : fwChain m_rAssemble.1.cls m_rAssemble.2.1 130 k_rAssemble_130 141 = true := by decide +kernel
theorem d_rAssemble_141 : decode m_rAssemble.2.1 141 = .ok (.if_icmp .eq 16, 3) := by decide +kernel
def k_rAssemble_144 : List fwO := [(.aload_n 0, 0, 0, .null), (.dup, 0, 0, .null), (.getfield 602, 1, 66, .retAddr 233), (.iconst 1, 0, 0, .int 1), (.iadd, 0, 0, .null), (.putfield 602, 1, 66, .retAddr 233)]
theorem k_rAssemble_144_ok : fwChain m_rAssemble.1.cls m_rAssemble.2.1 144 k_rAssemble_144 154 = true := by decide +kernel
theorem d_rAssemble_154 : decode m_rAssemble.2.1 154 = .ok (.goto (-32), 3) := by decide +kernel
def k_rAssemble_157 : List fwO := [(.aload_n 0, 0, 0, .null), (.iload 4, 0, 0, .null), (.putfield 599, 1, 65, .retAddr 232), (.aload_n 0, 0, 0, .null)]
theorem k_rAssemble_157_ok : fwChain m_rAssemble.1.cls m_rAssemble.2.1 157 k_rAssemble_157 164 = true := by decide +kernel
theorem d_rAssemble_164 : decode m_rAssemble.2.1 164 = .ok (.invokevirtual 636, 3) := by decide +kernel
def k_rAssemble_167 : List fwO := [(.istore_n 3, 0, 0, .null), (.aload_n 0, 0, 0, .null), (.getfield 602, 1, 66, .retAddr 233), (.iconst 1, 0, 0, .int 1), (.iadd, 0, 0, .null), (.istore 4, 0, 0, .null)]
theorem k_rAssemble_167_ok : fwChain m_rAssemble.1.cls m_rAssemble.2.1 167 k_rAssemble_167 176 = true := by decide +kernel
theorem d_rAssemble_176 : decode m_rAssemble.2.1 176 = .ok (.goto (-77), 3) := by decide +kernel
def k_rAssemble_179 : List fwO := [(.iinc 2 1, 0, 0, .int 1)]
theorem k_rAssemble_179_ok : fwChain m_rAssemble.1.cls m_rAssemble.2.1 179 k_rAssemble_179 182 = true := by decide +kernel
theorem d_rAssemble_182 : decode m_rAssemble.2.1 182 = .ok (.goto (-133), 3) := by decide +kernel
def k_rAssemble_185 : List fwO := [(.aload_n 0, 0, 0, .null), (.iconst 0, 0, 0, .int 0), (.putfield 129, 1, 11, .retAddr 178), (.aload_n 0, 0, 0, .null), (.getfield 605, 1, 68, .retAddr 235)]
theorem k_rAssemble_185_ok : fwChain m_rAssemble.1.cls m_rAssemble.2.1 185 k_rAssemble_185 194 = true := by decide +kernel
theorem d_rAssemble_194 : decode m_rAssemble.2.1 194 = .ok (.ifCond .lt 10, 3) := by decide +kernel
def k_rAssemble_197 : List fwO := [(.iconst (-1), 0, 0, .int (-1)), (.aload_n 0, 0, 0, .null), (.getfield 605, 1, 68, .retAddr 235), (.isub, 0, 0, .null)]
theorem k_rAssemble_197_ok : fwChain m_rAssemble.1.cls m_rAssemble.2.1 197 k_rAssemble_197 203 = true := by decide +kernel
theorem d_rAssemble_203 : decode m_rAssemble.2.1 203 = .ok (.ireturn, 1) := by decide +kernel
def k_rAssemble_204 : List fwO := [(.aload_n 0, 0, 0, .null), (.aload_n 0, 0, 0, .null), (.getfield 633, 1, 64, .retAddr 231), (.sipush 256, 0, 0, .int 256), (.isub, 0, 0, .null), (.putfield 129, 1, 11, .retAddr 178), (.aload_n 0, 0, 0, .null), (.getfield 129, 1, 11, .retAddr 178)]
theorem k_rAssemble_204_ok : fwChain m_rAssemble.1.cls m_rAssemble.2.1 204 k_rAssemble_204 220 = true := by decide +kernel
theorem d_rAssemble_220 : decode m_rAssemble.2.1 220 = .ok (.ireturn, 1) := by decide +kernel
theorem c_rAssemble_164 : ∀ w ∈ ([(Cond.methodLink "MonitorBoardModel" (636 : Nat) ({ cls := "MonitorBoardModel", name := "statement", desc := "()Z" } : MethodName)), (Cond.instanceMethod ({ cls := "MonitorBoardModel", name := "statement", desc := "()Z" } : MethodName)), (Cond.selects "MonitorBoardModel" ({ cls := "MonitorBoardModel", name := "statement", desc := "()Z" } : MethodName) ({ cls := "MonitorBoardModel", name := "statement", desc := "()Z" } : MethodName)), (Cond.initialized "MonitorBoardModel")] : List Cond), w ∈ fwT := fwT_all [2675, 2677, 241, 295] (by decide +kernel) (by decide +kernel)
section REF
variable {l : Launch} {Z : fwZ} {re : List fwE} {σ : fwS}
theorem ra_1 {Post : fwPost} (k : ∀ σ' : fwS, σ'.1 39 68 = -1 → fwG l Z m_rAssemble 1 0 0 Post 0 0 47 [some (.ref 39), some (.int 0), some (.int (nI 60000)), none, none] [] (shMd re) σ') : ∀ (q i : Nat) (σ : fwS), i + q = 60000 → σ.1 39 68 = -1 → fwG l Z m_rAssemble 1 0 0 Post 0 0 27 [some (.ref 39), some (.int 0), some (.int (nI i)), none, none] [] (shMd re) σ := by
  intro q
  induction q with
  | zero =>
    intro i σ hi h
    obtain rfl : i = 60000 := by omega
    refine fwRun_ok k_rAssemble_27_ok rfl trivial ?_
    refine fwg_ldcw (v := 60000) (List.mem_of_getElem? (i := 53) rfl) d_rAssemble_28 ?_
    exact fwg_cmp 47 d_rAssemble_31 (by decide) (fun _ => k σ h) (fun h => absurd (show (60000 : Int32) ≤ nI 60000 by decide) h)
  | succ q ih =>
    intro i σ hi h
    refine fwRun_ok k_rAssemble_27_ok rfl trivial ?_
    refine fwg_ldcw (v := 60000) (List.mem_of_getElem? (i := 53) rfl) d_rAssemble_28 ?_
    refine fwg_cmp 47 d_rAssemble_31 (by decide) (fun h => absurd (show nI 60000 ≤ nI i from h) (nI_ge (by omega) (by decide))) (fun _ => ?_)
    refine fwRun_ok k_rAssemble_34_ok rfl (vp_in_nI (by omega) (by decide)) ?_
    refine fwg_goto 27 d_rAssemble_44 (by decide) ?_
    refine fw_cut (fun s => s.1 39 68 = -1) ?_ (fun s hs => ?_)
    · show (fwI _ 45 _ _).1 39 68 = _
      rw [fwI_ne (by decide)]
      exact h
    · have := ih (i + 1) s (by omega) hs
      rw [← nI_1] at this
      exact this
theorem ra_pass {b r : Int32} {l3 l4 : Option Value} {Post : fwPost} (hb : b = 0 ∨ b = 1) (h : σ.1 39 68 = -1) (k : ∀ σ' : fwS, σ'.1 39 68 = -1 → σ'.1 39 64 = 256 → fwG l Z m_rAssemble 1 0 0 Post 0 0 49 [some (.ref 39), some (.int 0), some (.int (r + 1)), some (.int 1), some (.int 0)] [] (shMd re) σ') : fwG l Z m_rAssemble 1 0 0 Post 0 0 72 [some (.ref 39), some (.int 0), some (.int r), l3, l4] [.int b, .ref 39] (shMd re) σ := by
  refine fwRun_ok k_rAssemble_72_ok rfl hb ?_
  refine fw_cut (fun s => s.1 39 68 = -1 ∧ s.1 39 64 = 256) ⟨?_, ?_⟩ (fun s hs => ?_)
  · show (fwI (fwI (fwI (fwI σ 39 69 b) 39 77 0) 39 63 256) 39 64 256).1 39 68 = _
    rw [fwI_ne2 (by decide), fwI_ne2 (by decide), fwI_ne2 (by decide), fwI_ne2 (by decide)]
    exact h
  · show (fwI (fwI (fwI (fwI σ 39 69 b) 39 77 0) 39 63 256) 39 64 256).1 39 64 = _
    rw [fwI_eq]
  refine fwRun_ok k_rAssemble_99_ok rfl trivial ?_
  refine fwg_cmp 179 d_rAssemble_102 (by decide) (fun _ => ?_) (fun q => absurd (show (0 : Int32) ≤ 0 by decide) q)
  refine fwRun_ok k_rAssemble_179_ok rfl trivial ?_
  refine fwg_goto 49 d_rAssemble_182 (by decide) ?_
  exact k s hs.1 hs.2
theorem ct_rAssemble (hF : FreM σ) : fwC l Z m_rAssemble 1 0 0 [.ref 39] (shMd re) σ (fun w sh' _ => w = some (.int 0) ∧ sh' = shMd re) := by
  refine fwC_of (ls := [some (.ref 39), none, none, none, none]) (by decide +kernel) rfl (by rw [fw_sl1]; exact Nat.le_of_ble_eq_true rfl) ?_
  have h6 : σ.1 39 6 = 0 := hF.1.1
  refine fwRun_ok k_rAssemble_0_ok rfl trivial ?_
  show fwG l Z m_rAssemble _ _ _ _ _ _ 27 [some (.ref 39), some (.int (σ.1 39 6)), some (.int 0), none, none] [] _ (fwI (fwI (fwI (fwI σ 39 6 0) 39 67 (σ.1 39 6)) 39 62 0) 39 68 (-1))
  rw [h6]
  refine ra_1 (fun σ1 h1 => ?_) 60000 0 _ rfl fwI_eq
  refine fwRun_ok k_rAssemble_47_ok rfl trivial ?_
  refine fwRun_ok k_rAssemble_49_ok rfl trivial ?_
  refine fwg_cmp 185 d_rAssemble_51 (by decide) (fun q => absurd (show (2 : Int32) ≤ 0 from q) (by decide)) (fun _ => ?_)
  refine fwRun_ok k_rAssemble_54_ok rfl trivial ?_
  refine fwg_if 185 d_rAssemble_58 (by decide) (fun q => absurd (show (0 : Int32) ≤ σ1.1 39 68 from q) (by rw [h1]; decide)) (fun _ => ?_)
  refine fwRun_ok k_rAssemble_61_ok rfl trivial ?_
  refine fwg_cmp 71 d_rAssemble_64 (by decide) (fun _ => ?_) (fun q => absurd (show ¬ (0 : Int32) = 1 by decide) q)
  refine fwRun_ok k_rAssemble_71_ok rfl trivial ?_
  refine ra_pass (Or.inl rfl) h1 (fun σ2 h2 g2 => ?_)
  refine fwRun_ok k_rAssemble_49_ok rfl trivial ?_
  refine fwg_cmp 185 d_rAssemble_51 (by decide) (fun q => absurd (show (2 : Int32) ≤ 0 + 1 from q) (by decide)) (fun _ => ?_)
  refine fwRun_ok k_rAssemble_54_ok rfl trivial ?_
  refine fwg_if 185 d_rAssemble_58 (by decide) (fun q => absurd (show (0 : Int32) ≤ σ2.1 39 68 from q) (by rw [h2]; decide)) (fun _ => ?_)
  refine fwRun_ok k_rAssemble_61_ok rfl trivial ?_
  refine fwg_cmp 71 d_rAssemble_64 (by decide) (fun q => absurd (show (0 : Int32) + 1 = 1 by decide) q) (fun _ => ?_)
  refine fwRun_ok k_rAssemble_67_ok rfl trivial ?_
  refine fwg_goto 72 d_rAssemble_68 (by decide) ?_
  refine ra_pass (Or.inr rfl) h2 (fun σ3 h3 g3 => ?_)
  refine fwRun_ok k_rAssemble_49_ok rfl trivial ?_
  refine fwg_cmp 185 d_rAssemble_51 (by decide) (fun _ => ?_) (fun q => absurd (show (2 : Int32) ≤ 0 + 1 + 1 by decide) q)
  refine fwRun_ok k_rAssemble_185_ok rfl trivial ?_
  refine fwg_if 204 d_rAssemble_194 (by decide) (fun _ => ?_) (fun q => absurd (show (fwI σ3 39 11 0).1 39 68 < 0 by rw [fwI_ne2 (by decide), h3]; decide) q)
  refine fwRun_ok k_rAssemble_204_ok rfl trivial ?_
  refine fwg_iret rfl (Nat.le_refl _) (Nat.le_refl _) ⟨?_, rfl⟩ d_rAssemble_220
  show some (Value.int ((fwI (fwI σ3 39 11 0) 39 11 ((fwI σ3 39 11 0).1 39 64 - 256)).1 39 11)) = _
  rw [fwI_eq, fwI_ne2 (by decide), g3]
  rfl
end REF
end
section
/-! methods, their instructions, by program (wip/whole/methods.py) -/
/-- MonitorBoardModel.add(I)V -/
abbrev m_rAdd : fwM := (⟨"MonitorBoardModel", "add", "(I)V"⟩, prog_13_method_149_code, 2, (none : Option FieldType))
theorem m_rAdd_in : Cond.code m_rAdd.1 m_rAdd.2.1 m_rAdd.2.2.1 m_rAdd.2.2.2 ∈ fwT := fwT_mem (List.mem_of_getElem? (i := 2830) (by decide +kernel)) rfl
def k_rAdd_0 : List fwO := [(.aload_n 0, 0, 0, .null), (.getfield 28, 1, 5, .retAddr 172), (.aload_n 0, 0, 0, .null), (.getfield 129, 1, 11, .retAddr 178), (.iload_n 1, 0, 0, .null), (.i2b, 0, 0, .null), (.bastore, 0, 0, .null), (.aload_n 0, 0, 0, .null), (.dup, 0, 0, .null), (.getfield 129, 1, 11, .retAddr 178), (.iconst 1, 0, 0, .int 1), (.iadd, 0, 0, .null), (.putfield 129, 1, 11, .retAddr 178)]
theorem k_rAdd_0_ok : fwChain m_rAdd.1.cls m_rAdd.2.1 0 k_rAdd_0 21 = true := by decide +kernel
theorem d_rAdd_21 : decode m_rAdd.2.1 21 = .ok (.return_, 1) := by decide +kernel
/-- MonitorBoardModel.addText(Ljava/lang/String;II)V -/
abbrev m_rAddText : fwM := (⟨"MonitorBoardModel", "addText", "(Ljava/lang/String;II)V"⟩, prog_13_method_150_code, 5, (none : Option FieldType))
theorem m_rAddText_in : Cond.code m_rAddText.1 m_rAddText.2.1 m_rAddText.2.2.1 m_rAddText.2.2.2 ∈ fwT := fwT_mem (List.mem_of_getElem? (i := 2826) (by decide +kernel)) rfl
def k_rAddText_0 : List fwO := [(.iload_n 2, 0, 0, .null), (.istore 4, 0, 0, .null)]
theorem k_rAddText_0_ok : fwChain m_rAddText.1.cls m_rAddText.2.1 0 k_rAddText_0 3 = true := by decide +kernel
def k_rAddText_3 : List fwO := [(.iload 4, 0, 0, .null), (.iload_n 3, 0, 0, .null)]
theorem k_rAddText_3_ok : fwChain m_rAddText.1.cls m_rAddText.2.1 3 k_rAddText_3 6 = true := by decide +kernel
theorem d_rAddText_6 : decode m_rAddText.2.1 6 = .ok (.if_icmp .ge 19, 3) := by decide +kernel
def k_rAddText_9 : List fwO := [(.aload_n 0, 0, 0, .null), (.aload_n 1, 0, 0, .null), (.iload 4, 0, 0, .null)]
theorem k_rAddText_9_ok : fwChain m_rAddText.1.cls m_rAddText.2.1 9 k_rAddText_9 13 = true := by decide +kernel
theorem d_rAddText_13 : decode m_rAddText.2.1 13 = .ok (.invokevirtual 145, 3) := by decide +kernel
theorem d_rAddText_16 : decode m_rAddText.2.1 16 = .ok (.invokevirtual 773, 3) := by decide +kernel
def k_rAddText_19 : List fwO := [(.iinc 4 1, 0, 0, .int 1)]
theorem k_rAddText_19_ok : fwChain m_rAddText.1.cls m_rAddText.2.1 19 k_rAddText_19 22 = true := by decide +kernel
theorem d_rAddText_22 : decode m_rAddText.2.1 22 = .ok (.goto (-19), 3) := by decide +kernel
theorem d_rAddText_25 : decode m_rAddText.2.1 25 = .ok (.return_, 1) := by decide +kernel
/-- MonitorBoardModel.hex()I -/
abbrev m_rHex : fwM := (⟨"MonitorBoardModel", "hex", "()I"⟩, prog_13_method_158_code, 5, (some FieldType.int))
theorem m_rHex_in : Cond.code m_rHex.1 m_rHex.2.1 m_rHex.2.2.1 m_rHex.2.2.2 ∈ fwT := fwT_mem (List.mem_of_getElem? (i := 2852) (by decide +kernel)) rfl
def k_rHex_0 : List fwO := [(.aload_n 0, 0, 0, .null), (.getfield 129, 1, 11, .retAddr 178), (.sipush 2000, 0, 0, .int 2000)]
theorem k_rHex_0_ok : fwChain m_rHex.1.cls m_rHex.2.1 0 k_rHex_0 7 = true := by decide +kernel
theorem d_rHex_7 : decode m_rHex.2.1 7 = .ok (.if_icmp .ge 10, 3) := by decide +kernel
def k_rHex_10 : List fwO := [(.aload_n 0, 0, 0, .null), (.getfield 129, 1, 11, .retAddr 178)]
theorem k_rHex_10_ok : fwChain m_rHex.1.cls m_rHex.2.1 10 k_rHex_10 14 = true := by decide +kernel
theorem d_rHex_14 : decode m_rHex.2.1 14 = .ok (.goto 6, 3) := by decide +kernel
def k_rHex_17 : List fwO := [(.sipush 2000, 0, 0, .int 2000)]
theorem k_rHex_17_ok : fwChain m_rHex.1.cls m_rHex.2.1 17 k_rHex_17 20 = true := by decide +kernel
def k_rHex_20 : List fwO := [(.istore_n 1, 0, 0, .null), (.iconst 0, 0, 0, .int 0), (.istore_n 2, 0, 0, .null)]
theorem k_rHex_20_ok : fwChain m_rHex.1.cls m_rHex.2.1 20 k_rHex_20 23 = true := by decide +kernel
def k_rHex_23 : List fwO := [(.iload_n 2, 0, 0, .null), (.iload_n 1, 0, 0, .null)]
theorem k_rHex_23_ok : fwChain m_rHex.1.cls m_rHex.2.1 23 k_rHex_23 25 = true := by decide +kernel
theorem d_rHex_25 : decode m_rHex.2.1 25 = .ok (.if_icmp .ge 21, 3) := by decide +kernel
def k_rHex_28 : List fwO := [(.aload_n 0, 0, 0, .null), (.getfield 62, 1, 54, .retAddr 221), (.iload_n 2, 0, 0, .null), (.aload_n 0, 0, 0, .null), (.getfield 28, 1, 5, .retAddr 172), (.iload_n 2, 0, 0, .null), (.baload, 0, 0, .null), (.bastore, 0, 0, .null), (.iinc 2 1, 0, 0, .int 1)]
theorem k_rHex_28_ok : fwChain m_rHex.1.cls m_rHex.2.1 28 k_rHex_28 43 = true := by decide +kernel
theorem d_rHex_43 : decode m_rHex.2.1 43 = .ok (.goto (-20), 3) := by decide +kernel
def k_rHex_46 : List fwO := [(.aload_n 0, 0, 0, .null), (.iconst 0, 0, 0, .int 0), (.putfield 129, 1, 11, .retAddr 178), (.iconst 0, 0, 0, .int 0), (.istore_n 2, 0, 0, .null)]
theorem k_rHex_46_ok : fwChain m_rHex.1.cls m_rHex.2.1 46 k_rHex_46 53 = true := by decide +kernel
def k_rHex_53 : List fwO := [(.iload_n 2, 0, 0, .null), (.iload_n 1, 0, 0, .null)]
theorem k_rHex_53_ok : fwChain m_rHex.1.cls m_rHex.2.1 53 k_rHex_53 55 = true := by decide +kernel
theorem d_rHex_55 : decode m_rHex.2.1 55 = .ok (.if_icmp .gt 136, 3) := by decide +kernel
def k_rHex_58 : List fwO := [(.iload_n 1, 0, 0, .null), (.iload_n 2, 0, 0, .null), (.isub, 0, 0, .null), (.bipush 16, 0, 0, .int 16)]
theorem k_rHex_58_ok : fwChain m_rHex.1.cls m_rHex.2.1 58 k_rHex_58 63 = true := by decide +kernel
theorem d_rHex_63 : decode m_rHex.2.1 63 = .ok (.if_icmp .ge 9, 3) := by decide +kernel
def k_rHex_66 : List fwO := [(.iload_n 1, 0, 0, .null), (.iload_n 2, 0, 0, .null), (.isub, 0, 0, .null)]
theorem k_rHex_66_ok : fwChain m_rHex.1.cls m_rHex.2.1 66 k_rHex_66 69 = true := by decide +kernel
theorem d_rHex_69 : decode m_rHex.2.1 69 = .ok (.goto 5, 3) := by decide +kernel
def k_rHex_72 : List fwO := [(.bipush 16, 0, 0, .int 16)]
theorem k_rHex_72_ok : fwChain m_rHex.1.cls m_rHex.2.1 72 k_rHex_72 74 = true := by decide +kernel
def k_rHex_74 : List fwO := [(.istore_n 3, 0, 0, .null), (.iload_n 3, 0, 0, .null)]
theorem k_rHex_74_ok : fwChain m_rHex.1.cls m_rHex.2.1 74 k_rHex_74 76 = true := by decide +kernel
theorem d_rHex_76 : decode m_rHex.2.1 76 = .ok (.ifCond .ne 6, 3) := by decide +kernel
theorem d_rHex_79 : decode m_rHex.2.1 79 = .ok (.goto 112, 3) := by decide +kernel
def k_rHex_82 : List fwO := [(.aload_n 0, 0, 0, .null), (.bipush 58, 0, 0, .int 58)]
theorem k_rHex_82_ok : fwChain m_rHex.1.cls m_rHex.2.1 82 k_rHex_82 85 = true := by decide +kernel
theorem d_rHex_85 : decode m_rHex.2.1 85 = .ok (.invokevirtual 773, 3) := by decide +kernel
def k_rHex_88 : List fwO := [(.aload_n 0, 0, 0, .null), (.iconst 0, 0, 0, .int 0), (.putfield 800, 1, 78, .retAddr 245), (.aload_n 0, 0, 0, .null), (.iload_n 3, 0, 0, .null)]
theorem k_rHex_88_ok : fwChain m_rHex.1.cls m_rHex.2.1 88 k_rHex_88 95 = true := by decide +kernel
theorem d_rHex_95 : decode m_rHex.2.1 95 = .ok (.invokevirtual 803, 3) := by decide +kernel
def k_rHex_98 : List fwO := [(.aload_n 0, 0, 0, .null), (.sipush 256, 0, 0, .int 256), (.iload_n 2, 0, 0, .null), (.iadd, 0, 0, .null), (.bipush 8, 0, 0, .int 8), (.ishr, 0, 0, .null)]
theorem k_rHex_98_ok : fwChain m_rHex.1.cls m_rHex.2.1 98 k_rHex_98 107 = true := by decide +kernel
theorem d_rHex_107 : decode m_rHex.2.1 107 = .ok (.invokevirtual 803, 3) := by decide +kernel
def k_rHex_110 : List fwO := [(.aload_n 0, 0, 0, .null), (.sipush 256, 0, 0, .int 256), (.iload_n 2, 0, 0, .null), (.iadd, 0, 0, .null), (.sipush 255, 0, 0, .int 255), (.iand, 0, 0, .null)]
theorem k_rHex_110_ok : fwChain m_rHex.1.cls m_rHex.2.1 110 k_rHex_110 120 = true := by decide +kernel
theorem d_rHex_120 : decode m_rHex.2.1 120 = .ok (.invokevirtual 803, 3) := by decide +kernel
def k_rHex_123 : List fwO := [(.aload_n 0, 0, 0, .null), (.iconst 0, 0, 0, .int 0)]
theorem k_rHex_123_ok : fwChain m_rHex.1.cls m_rHex.2.1 123 k_rHex_123 125 = true := by decide +kernel
theorem d_rHex_125 : decode m_rHex.2.1 125 = .ok (.invokevirtual 803, 3) := by decide +kernel
def k_rHex_128 : List fwO := [(.iconst 0, 0, 0, .int 0), (.istore 4, 0, 0, .null)]
theorem k_rHex_128_ok : fwChain m_rHex.1.cls m_rHex.2.1 128 k_rHex_128 131 = true := by decide +kernel
def k_rHex_131 : List fwO := [(.iload 4, 0, 0, .null), (.iload_n 3, 0, 0, .null)]
theorem k_rHex_131_ok : fwChain m_rHex.1.cls m_rHex.2.1 131 k_rHex_131 134 = true := by decide +kernel
theorem d_rHex_134 : decode m_rHex.2.1 134 = .ok (.if_icmp .ge 26, 3) := by decide +kernel
def k_rHex_137 : List fwO := [(.aload_n 0, 0, 0, .null), (.aload_n 0, 0, 0, .null), (.getfield 62, 1, 54, .retAddr 221), (.iload_n 2, 0, 0, .null), (.iload 4, 0, 0, .null), (.iadd, 0, 0, .null), (.baload, 0, 0, .null), (.sipush 255, 0, 0, .int 255), (.iand, 0, 0, .null)]
theorem k_rHex_137_ok : fwChain m_rHex.1.cls m_rHex.2.1 137 k_rHex_137 151 = true := by decide +kernel
theorem d_rHex_151 : decode m_rHex.2.1 151 = .ok (.invokevirtual 803, 3) := by decide +kernel
def k_rHex_154 : List fwO := [(.iinc 4 1, 0, 0, .int 1)]
theorem k_rHex_154_ok : fwChain m_rHex.1.cls m_rHex.2.1 154 k_rHex_154 157 = true := by decide +kernel
theorem d_rHex_157 : decode m_rHex.2.1 157 = .ok (.goto (-26), 3) := by decide +kernel
def k_rHex_160 : List fwO := [(.aload_n 0, 0, 0, .null), (.aload_n 0, 0, 0, .null), (.getfield 800, 1, 78, .retAddr 245), (.ineg, 0, 0, .null), (.sipush 255, 0, 0, .int 255), (.iand, 0, 0, .null)]
theorem k_rHex_160_ok : fwChain m_rHex.1.cls m_rHex.2.1 160 k_rHex_160 170 = true := by decide +kernel
theorem d_rHex_170 : decode m_rHex.2.1 170 = .ok (.invokevirtual 803, 3) := by decide +kernel
def k_rHex_173 : List fwO := [(.aload_n 0, 0, 0, .null), (.bipush 13, 0, 0, .int 13)]
theorem k_rHex_173_ok : fwChain m_rHex.1.cls m_rHex.2.1 173 k_rHex_173 176 = true := by decide +kernel
theorem d_rHex_176 : decode m_rHex.2.1 176 = .ok (.invokevirtual 773, 3) := by decide +kernel
def k_rHex_179 : List fwO := [(.aload_n 0, 0, 0, .null), (.bipush 10, 0, 0, .int 10)]
theorem k_rHex_179_ok : fwChain m_rHex.1.cls m_rHex.2.1 179 k_rHex_179 182 = true := by decide +kernel
theorem d_rHex_182 : decode m_rHex.2.1 182 = .ok (.invokevirtual 773, 3) := by decide +kernel
def k_rHex_185 : List fwO := [(.iinc 2 16, 0, 0, .int 16)]
theorem k_rHex_185_ok : fwChain m_rHex.1.cls m_rHex.2.1 185 k_rHex_185 188 = true := by decide +kernel
theorem d_rHex_188 : decode m_rHex.2.1 188 = .ok (.goto (-135), 3) := by decide +kernel
def k_rHex_191 : List fwO := [(.aload_n 0, 0, 0, .null)]
theorem k_rHex_191_ok : fwChain m_rHex.1.cls m_rHex.2.1 191 k_rHex_191 192 = true := by decide +kernel
theorem d_rHex_192 : decode m_rHex.2.1 192 = .ok (.ldc_w 806, 3) := by decide +kernel
def k_rHex_195 : List fwO := [(.iconst 0, 0, 0, .int 0), (.bipush 11, 0, 0, .int 11)]
theorem k_rHex_195_ok : fwChain m_rHex.1.cls m_rHex.2.1 195 k_rHex_195 198 = true := by decide +kernel
theorem d_rHex_198 : decode m_rHex.2.1 198 = .ok (.invokevirtual 778, 3) := by decide +kernel
def k_rHex_201 : List fwO := [(.aload_n 0, 0, 0, .null), (.bipush 13, 0, 0, .int 13)]
theorem k_rHex_201_ok : fwChain m_rHex.1.cls m_rHex.2.1 201 k_rHex_201 204 = true := by decide +kernel
theorem d_rHex_204 : decode m_rHex.2.1 204 = .ok (.invokevirtual 773, 3) := by decide +kernel
def k_rHex_207 : List fwO := [(.aload_n 0, 0, 0, .null), (.bipush 10, 0, 0, .int 10)]
theorem k_rHex_207_ok : fwChain m_rHex.1.cls m_rHex.2.1 207 k_rHex_207 210 = true := by decide +kernel
theorem d_rHex_210 : decode m_rHex.2.1 210 = .ok (.invokevirtual 773, 3) := by decide +kernel
def k_rHex_213 : List fwO := [(.aload_n 0, 0, 0, .null), (.getfield 129, 1, 11, .retAddr 178)]
theorem k_rHex_213_ok : fwChain m_rHex.1.cls m_rHex.2.1 213 k_rHex_213 217 = true := by decide +kernel
theorem d_rHex_217 : decode m_rHex.2.1 217 = .ok (.ireturn, 1) := by decide +kernel
/-- MonitorBoard.putSign(I)V -/
abbrev m_putSign : fwM := (⟨"MonitorBoard", "putSign", "(I)V"⟩, prog_1_method_23_code, 2, (none : Option FieldType))
theorem m_putSign_in : Cond.code m_putSign.1 m_putSign.2.1 m_putSign.2.2.1 m_putSign.2.2.2 ∈ fwT := fwT_mem (List.mem_of_getElem? (i := 1919) (by decide +kernel)) rfl
def k_putSign_0 : List fwO := [(.aload_n 0, 0, 0, .null), (.getfield 164, 0, 11, .retAddr 166), (.ldc 13, 0, 0, .int 58112)]
theorem k_putSign_0_ok : fwChain m_putSign.1.cls m_putSign.2.1 0 k_putSign_0 6 = true := by decide +kernel
theorem d_putSign_6 : decode m_putSign.2.1 6 = .ok (.if_icmp .ge 24, 3) := by decide +kernel
def k_putSign_9 : List fwO := [(.aload_n 0, 0, 0, .null), (.getfield 14, 0, 1, .retAddr 156), (.aload_n 0, 0, 0, .null), (.getfield 164, 0, 11, .retAddr 166), (.iload_n 1, 0, 0, .null), (.i2b, 0, 0, .null), (.bastore, 0, 0, .null), (.aload_n 0, 0, 0, .null), (.dup, 0, 0, .null), (.getfield 164, 0, 11, .retAddr 166), (.iconst 1, 0, 0, .int 1), (.iadd, 0, 0, .null), (.putfield 164, 0, 11, .retAddr 166)]
theorem k_putSign_9_ok : fwChain m_putSign.1.cls m_putSign.2.1 9 k_putSign_9 30 = true := by decide +kernel
theorem d_putSign_30 : decode m_putSign.2.1 30 = .ok (.return_, 1) := by decide +kernel
/-- MonitorBoard.putText(Ljava/lang/String;)V -/
abbrev m_putText : fwM := (⟨"MonitorBoard", "putText", "(Ljava/lang/String;)V"⟩, prog_1_method_22_code, 3, (none : Option FieldType))
theorem m_putText_in : Cond.code m_putText.1 m_putText.2.1 m_putText.2.2.1 m_putText.2.2.2 ∈ fwT := fwT_mem (List.mem_of_getElem? (i := 1915) (by decide +kernel)) rfl
def k_putText_0 : List fwO := [(.iconst 0, 0, 0, .int 0), (.istore_n 2, 0, 0, .null)]
theorem k_putText_0_ok : fwChain m_putText.1.cls m_putText.2.1 0 k_putText_0 2 = true := by decide +kernel
def k_putText_2 : List fwO := [(.iload_n 2, 0, 0, .null), (.aload_n 1, 0, 0, .null)]
theorem k_putText_2_ok : fwChain m_putText.1.cls m_putText.2.1 2 k_putText_2 4 = true := by decide +kernel
theorem d_putText_4 : decode m_putText.2.1 4 = .ok (.invokevirtual 226, 3) := by decide +kernel
theorem d_putText_7 : decode m_putText.2.1 7 = .ok (.if_icmp .ge 18, 3) := by decide +kernel
def k_putText_10 : List fwO := [(.aload_n 0, 0, 0, .null), (.aload_n 1, 0, 0, .null), (.iload_n 2, 0, 0, .null)]
theorem k_putText_10_ok : fwChain m_putText.1.cls m_putText.2.1 10 k_putText_10 13 = true := by decide +kernel
theorem d_putText_13 : decode m_putText.2.1 13 = .ok (.invokevirtual 217, 3) := by decide +kernel
theorem d_putText_16 : decode m_putText.2.1 16 = .ok (.invokevirtual 223, 3) := by decide +kernel
def k_putText_19 : List fwO := [(.iinc 2 1, 0, 0, .int 1)]
theorem k_putText_19_ok : fwChain m_putText.1.cls m_putText.2.1 19 k_putText_19 22 = true := by decide +kernel
theorem d_putText_22 : decode m_putText.2.1 22 = .ok (.goto (-20), 3) := by decide +kernel
theorem d_putText_25 : decode m_putText.2.1 25 = .ok (.return_, 1) := by decide +kernel
theorem c_rAddText_13 : ∀ w ∈ ([(Cond.methodLink "MonitorBoardModel" (145 : Nat) ({ cls := "java/lang/String", name := "charAt", desc := "(I)C" } : MethodName)), (Cond.instanceMethod ({ cls := "java/lang/String", name := "charAt", desc := "(I)C" } : MethodName)), (Cond.selects "java/lang/String" ({ cls := "java/lang/String", name := "charAt", desc := "(I)C" } : MethodName) ({ cls := "java/lang/String", name := "charAt", desc := "(I)C" } : MethodName)), (Cond.initialized "java/lang/String")] : List Cond), w ∈ fwT := fwT_all [1955, 586, 587, 287] (by decide +kernel) (by decide +kernel)
theorem c_rAddText_16 : ∀ w ∈ ([(Cond.methodLink "MonitorBoardModel" (773 : Nat) ({ cls := "MonitorBoardModel", name := "add", desc := "(I)V" } : MethodName)), (Cond.instanceMethod ({ cls := "MonitorBoardModel", name := "add", desc := "(I)V" } : MethodName)), (Cond.selects "MonitorBoardModel" ({ cls := "MonitorBoardModel", name := "add", desc := "(I)V" } : MethodName) ({ cls := "MonitorBoardModel", name := "add", desc := "(I)V" } : MethodName)), (Cond.initialized "MonitorBoardModel")] : List Cond), w ∈ fwT := fwT_all [2827, 2829, 272, 295] (by decide +kernel) (by decide +kernel)
theorem c_rHex_85 : ∀ w ∈ ([(Cond.methodLink "MonitorBoardModel" (773 : Nat) ({ cls := "MonitorBoardModel", name := "add", desc := "(I)V" } : MethodName)), (Cond.instanceMethod ({ cls := "MonitorBoardModel", name := "add", desc := "(I)V" } : MethodName)), (Cond.selects "MonitorBoardModel" ({ cls := "MonitorBoardModel", name := "add", desc := "(I)V" } : MethodName) ({ cls := "MonitorBoardModel", name := "add", desc := "(I)V" } : MethodName)), (Cond.initialized "MonitorBoardModel")] : List Cond), w ∈ fwT := c_rAddText_16
theorem c_rHex_95 : ∀ w ∈ ([(Cond.methodLink "MonitorBoardModel" (803 : Nat) ({ cls := "MonitorBoardModel", name := "addPairOf", desc := "(I)V" } : MethodName)), (Cond.instanceMethod ({ cls := "MonitorBoardModel", name := "addPairOf", desc := "(I)V" } : MethodName)), (Cond.selects "MonitorBoardModel" ({ cls := "MonitorBoardModel", name := "addPairOf", desc := "(I)V" } : MethodName) ({ cls := "MonitorBoardModel", name := "addPairOf", desc := "(I)V" } : MethodName)), (Cond.initialized "MonitorBoardModel")] : List Cond), w ∈ fwT := fwT_all [2853, 2855, 277, 295] (by decide +kernel) (by decide +kernel)
theorem c_rHex_107 : ∀ w ∈ ([(Cond.methodLink "MonitorBoardModel" (803 : Nat) ({ cls := "MonitorBoardModel", name := "addPairOf", desc := "(I)V" } : MethodName)), (Cond.instanceMethod ({ cls := "MonitorBoardModel", name := "addPairOf", desc := "(I)V" } : MethodName)), (Cond.selects "MonitorBoardModel" ({ cls := "MonitorBoardModel", name := "addPairOf", desc := "(I)V" } : MethodName) ({ cls := "MonitorBoardModel", name := "addPairOf", desc := "(I)V" } : MethodName)), (Cond.initialized "MonitorBoardModel")] : List Cond), w ∈ fwT := c_rHex_95
theorem c_rHex_120 : ∀ w ∈ ([(Cond.methodLink "MonitorBoardModel" (803 : Nat) ({ cls := "MonitorBoardModel", name := "addPairOf", desc := "(I)V" } : MethodName)), (Cond.instanceMethod ({ cls := "MonitorBoardModel", name := "addPairOf", desc := "(I)V" } : MethodName)), (Cond.selects "MonitorBoardModel" ({ cls := "MonitorBoardModel", name := "addPairOf", desc := "(I)V" } : MethodName) ({ cls := "MonitorBoardModel", name := "addPairOf", desc := "(I)V" } : MethodName)), (Cond.initialized "MonitorBoardModel")] : List Cond), w ∈ fwT := c_rHex_95
theorem c_rHex_125 : ∀ w ∈ ([(Cond.methodLink "MonitorBoardModel" (803 : Nat) ({ cls := "MonitorBoardModel", name := "addPairOf", desc := "(I)V" } : MethodName)), (Cond.instanceMethod ({ cls := "MonitorBoardModel", name := "addPairOf", desc := "(I)V" } : MethodName)), (Cond.selects "MonitorBoardModel" ({ cls := "MonitorBoardModel", name := "addPairOf", desc := "(I)V" } : MethodName) ({ cls := "MonitorBoardModel", name := "addPairOf", desc := "(I)V" } : MethodName)), (Cond.initialized "MonitorBoardModel")] : List Cond), w ∈ fwT := c_rHex_95
theorem c_rHex_151 : ∀ w ∈ ([(Cond.methodLink "MonitorBoardModel" (803 : Nat) ({ cls := "MonitorBoardModel", name := "addPairOf", desc := "(I)V" } : MethodName)), (Cond.instanceMethod ({ cls := "MonitorBoardModel", name := "addPairOf", desc := "(I)V" } : MethodName)), (Cond.selects "MonitorBoardModel" ({ cls := "MonitorBoardModel", name := "addPairOf", desc := "(I)V" } : MethodName) ({ cls := "MonitorBoardModel", name := "addPairOf", desc := "(I)V" } : MethodName)), (Cond.initialized "MonitorBoardModel")] : List Cond), w ∈ fwT := c_rHex_95
theorem c_rHex_170 : ∀ w ∈ ([(Cond.methodLink "MonitorBoardModel" (803 : Nat) ({ cls := "MonitorBoardModel", name := "addPairOf", desc := "(I)V" } : MethodName)), (Cond.instanceMethod ({ cls := "MonitorBoardModel", name := "addPairOf", desc := "(I)V" } : MethodName)), (Cond.selects "MonitorBoardModel" ({ cls := "MonitorBoardModel", name := "addPairOf", desc := "(I)V" } : MethodName) ({ cls := "MonitorBoardModel", name := "addPairOf", desc := "(I)V" } : MethodName)), (Cond.initialized "MonitorBoardModel")] : List Cond), w ∈ fwT := c_rHex_95
theorem c_rHex_176 : ∀ w ∈ ([(Cond.methodLink "MonitorBoardModel" (773 : Nat) ({ cls := "MonitorBoardModel", name := "add", desc := "(I)V" } : MethodName)), (Cond.instanceMethod ({ cls := "MonitorBoardModel", name := "add", desc := "(I)V" } : MethodName)), (Cond.selects "MonitorBoardModel" ({ cls := "MonitorBoardModel", name := "add", desc := "(I)V" } : MethodName) ({ cls := "MonitorBoardModel", name := "add", desc := "(I)V" } : MethodName)), (Cond.initialized "MonitorBoardModel")] : List Cond), w ∈ fwT := c_rAddText_16
theorem c_rHex_182 : ∀ w ∈ ([(Cond.methodLink "MonitorBoardModel" (773 : Nat) ({ cls := "MonitorBoardModel", name := "add", desc := "(I)V" } : MethodName)), (Cond.instanceMethod ({ cls := "MonitorBoardModel", name := "add", desc := "(I)V" } : MethodName)), (Cond.selects "MonitorBoardModel" ({ cls := "MonitorBoardModel", name := "add", desc := "(I)V" } : MethodName) ({ cls := "MonitorBoardModel", name := "add", desc := "(I)V" } : MethodName)), (Cond.initialized "MonitorBoardModel")] : List Cond), w ∈ fwT := c_rAddText_16
theorem c_rHex_198 : ∀ w ∈ ([(Cond.methodLink "MonitorBoardModel" (778 : Nat) ({ cls := "MonitorBoardModel", name := "addText", desc := "(Ljava/lang/String;II)V" } : MethodName)), (Cond.instanceMethod ({ cls := "MonitorBoardModel", name := "addText", desc := "(Ljava/lang/String;II)V" } : MethodName)), (Cond.selects "MonitorBoardModel" ({ cls := "MonitorBoardModel", name := "addText", desc := "(Ljava/lang/String;II)V" } : MethodName) ({ cls := "MonitorBoardModel", name := "addText", desc := "(Ljava/lang/String;II)V" } : MethodName)), (Cond.initialized "MonitorBoardModel")] : List Cond), w ∈ fwT := fwT_all [2823, 2825, 271, 295] (by decide +kernel) (by decide +kernel)
theorem c_rHex_204 : ∀ w ∈ ([(Cond.methodLink "MonitorBoardModel" (773 : Nat) ({ cls := "MonitorBoardModel", name := "add", desc := "(I)V" } : MethodName)), (Cond.instanceMethod ({ cls := "MonitorBoardModel", name := "add", desc := "(I)V" } : MethodName)), (Cond.selects "MonitorBoardModel" ({ cls := "MonitorBoardModel", name := "add", desc := "(I)V" } : MethodName) ({ cls := "MonitorBoardModel", name := "add", desc := "(I)V" } : MethodName)), (Cond.initialized "MonitorBoardModel")] : List Cond), w ∈ fwT := c_rAddText_16
theorem c_rHex_210 : ∀ w ∈ ([(Cond.methodLink "MonitorBoardModel" (773 : Nat) ({ cls := "MonitorBoardModel", name := "add", desc := "(I)V" } : MethodName)), (Cond.instanceMethod ({ cls := "MonitorBoardModel", name := "add", desc := "(I)V" } : MethodName)), (Cond.selects "MonitorBoardModel" ({ cls := "MonitorBoardModel", name := "add", desc := "(I)V" } : MethodName) ({ cls := "MonitorBoardModel", name := "add", desc := "(I)V" } : MethodName)), (Cond.initialized "MonitorBoardModel")] : List Cond), w ∈ fwT := c_rAddText_16
theorem c_putText_4 : ∀ w ∈ ([(Cond.methodLink "MonitorBoard" (226 : Nat) ({ cls := "java/lang/String", name := "length", desc := "()I" } : MethodName)), (Cond.instanceMethod ({ cls := "java/lang/String", name := "length", desc := "()I" } : MethodName)), (Cond.selects "java/lang/String" ({ cls := "java/lang/String", name := "length", desc := "()I" } : MethodName) ({ cls := "java/lang/String", name := "length", desc := "()I" } : MethodName)), (Cond.initialized "java/lang/String")] : List Cond), w ∈ fwT := fwT_all [575, 576, 577, 287] (by decide +kernel) (by decide +kernel)
theorem c_putText_13 : ∀ w ∈ ([(Cond.methodLink "MonitorBoard" (217 : Nat) ({ cls := "java/lang/String", name := "charAt", desc := "(I)C" } : MethodName)), (Cond.instanceMethod ({ cls := "java/lang/String", name := "charAt", desc := "(I)C" } : MethodName)), (Cond.selects "java/lang/String" ({ cls := "java/lang/String", name := "charAt", desc := "(I)C" } : MethodName) ({ cls := "java/lang/String", name := "charAt", desc := "(I)C" } : MethodName)), (Cond.initialized "java/lang/String")] : List Cond), w ∈ fwT := fwT_all [585, 586, 587, 287] (by decide +kernel) (by decide +kernel)
theorem c_putText_16 : ∀ w ∈ ([(Cond.methodLink "MonitorBoard" (223 : Nat) ({ cls := "MonitorBoard", name := "putSign", desc := "(I)V" } : MethodName)), (Cond.instanceMethod ({ cls := "MonitorBoard", name := "putSign", desc := "(I)V" } : MethodName)), (Cond.selects "MonitorBoard" ({ cls := "MonitorBoard", name := "putSign", desc := "(I)V" } : MethodName) ({ cls := "MonitorBoard", name := "putSign", desc := "(I)V" } : MethodName)), (Cond.initialized "MonitorBoard")] : List Cond), w ∈ fwT := fwT_all [1916, 1918, 141, 279] (by decide +kernel) (by decide +kernel)
section REF
variable {l : Launch} {Z : fwZ} {re : List fwE} {σ : fwS}
theorem ct_rAdd {x : Int32} {t : Nat} (h : σ.1 39 11 = nI t) (ht : t < 70000) : fwC l Z m_rAdd 1 0 0 [.ref 39, .int x] (shMd re) σ (fun w sh' σ' => w = none ∧ sh' = shMd re ∧ σ'.1 39 11 = nI (t + 1)) := by
  refine fwC_of (ls := [some (.ref 39), some (.int x)]) (by decide +kernel) rfl (by rw [fw_sl1]; exact Nat.le_refl 2) ?_
  refine fwRun_ok k_rAdd_0_ok rfl (by show vp_in (σ.1 39 11) 70000; rw [h]; exact vp_in_nI ht (by decide)) ?_
  refine fwg_vret rfl (Nat.le_refl _) (Nat.le_refl _) ⟨rfl, rfl, ?_⟩ d_rAdd_21
  show (fwI _ 39 11 _).1 39 11 = _
  rw [fwI_eq, fwI_ne (by decide), h]
  exact nI_1 t
theorem rAddText_loop {c n : Nat} (hc : c < fwNs) (hn : n ≤ fwSl.getD c 0) (hL : fwSl.getD c 0 < 2 ^ 31) {Post : fwPost} : ∀ (q j t : Nat) (σ : fwS), j + q = n → σ.1 39 11 = nI t → t + q ≤ 70000 → (∀ σ' : fwS, σ'.1 39 11 = nI (t + q) → Post none (shMd re) σ') → fwG l Z m_rAddText 5 0 0 Post 0 0 3 [some (.ref 39), some (.retAddr c), some (.int 0), some (.int (nI n)), some (.int (nI j))] [] (shMd re) σ := by
  intro q
  induction q with
  | zero =>
    intro j t σ hj h ht hp
    obtain rfl : j = n := by omega
    refine fwRun_ok k_rAddText_3_ok rfl trivial ?_
    refine fwg_cmp 25 d_rAddText_6 (by decide) (fun _ => ?_) (fun q => absurd (nI_le (Nat.le_refl j) (by omega)) q)
    exact fwg_vret rfl (Nat.le_refl _) (Nat.le_refl _) (hp σ h) d_rAddText_25
  | succ q ih =>
    intro j t σ hj h ht hp
    refine fwRun_ok k_rAddText_3_ok rfl trivial ?_
    refine fwg_cmp 25 d_rAddText_6 (by decide) (fun q => absurd (show nI n ≤ nI j from q) (nI_ge (by omega) (by omega))) (fun _ => ?_)
    refine fwRun_ok k_rAddText_9_ok rfl trivial ?_
    refine fwg_callK (n := 1) (as := [.int (nI j)]) (r := [.ref 39]) (ct_schar (j := j) hc (by omega)) ⟨by decide, by decide, by decide +kernel⟩ rfl m_schar_in c_rAddText_13 hc rfl rfl (Nat.le_of_ble_eq_true rfl) d_rAddText_13 ⟨Nat.le_of_ble_eq_true rfl, Nat.le_of_ble_eq_true rfl⟩ ⟨Nat.le_refl _, Nat.le_refl _⟩ (fun v sh' σ1 hq => ?_)
    obtain ⟨rfl, rfl, rfl⟩ := hq
    refine fwg_callV (n := 1) (i := 39) (as := [.int (fwCh c j)]) (r := []) (ct_rAdd h (by omega)) ⟨by decide, by decide, by decide +kernel⟩ m_rAdd_in c_rAddText_16 rfl rfl rfl rfl (Nat.le_of_ble_eq_true rfl) d_rAddText_16 ⟨Nat.le_of_ble_eq_true rfl, Nat.le_of_ble_eq_true rfl⟩ ⟨Nat.le_refl _, Nat.le_refl _⟩ (fun v sh' σ2 hq => ?_)
    obtain ⟨rfl, rfl, h2⟩ := hq
    refine fwRun_ok k_rAddText_19_ok rfl trivial ?_
    refine fwg_goto 3 d_rAddText_22 (by decide) ?_
    have := ih (j + 1) (t + 1) σ2 (by omega) h2 (by omega) (fun σ' h' => hp σ' (by rw [h', show t + 1 + q = t + (q + 1) by omega]))
    rw [← nI_1] at this
    exact this
theorem ct_rAddText {c n t : Nat} (hc : c < fwNs) (hn : n ≤ fwSl.getD c 0) (h : σ.1 39 11 = nI t) (ht : t + n ≤ 70000) : fwC l Z m_rAddText 5 0 0 [.ref 39, .retAddr c, .int 0, .int (nI n)] (shMd re) σ (fun w sh' σ' => w = none ∧ sh' = shMd re ∧ σ'.1 39 11 = nI (t + n)) := by
  obtain ⟨-, hL, -⟩ := fw_sc c hc
  refine fwC_of (ls := [some (.ref 39), some (.retAddr c), some (.int 0), some (.int (nI n)), none]) (by decide +kernel) rfl (by rw [fw_sl1]; exact Nat.le_of_ble_eq_true rfl) ?_
  refine fwRun_ok k_rAddText_0_ok rfl trivial ?_
  exact rAddText_loop hc hn hL n 0 t σ (by omega) h ht (fun σ' h' => ⟨rfl, rfl, h'⟩)
theorem ct_rHex (hF : FreM σ) : fwC l Z m_rHex 6 0 0 [.ref 39] (shMd re) σ (fun w sh' _ => w = some (.int (nI 13)) ∧ sh' = shMd re) := by
  refine fwC_of (ls := [some (.ref 39), none, none, none, none]) (by decide +kernel) rfl (by rw [fw_sl1]; exact Nat.le_of_ble_eq_true rfl) ?_
  have h11 : σ.1 39 11 = 0 := hF.1.2.2.2.2.2.1
  refine fwRun_ok k_rHex_0_ok rfl trivial ?_
  refine fwg_cmp 17 d_rHex_7 (by decide) (fun q => absurd (show (2000 : Int32) ≤ σ.1 39 11 from q) (by rw [h11]; decide)) (fun _ => ?_)
  refine fwRun_ok k_rHex_10_ok rfl trivial ?_
  refine fwg_goto 20 d_rHex_14 (by decide) ?_
  show fwG l Z m_rHex _ _ _ _ _ _ 20 _ [.int (σ.1 39 11)] _ _
  rw [h11]
  refine fwRun_ok k_rHex_20_ok rfl trivial ?_
  refine fwRun_ok k_rHex_23_ok rfl trivial ?_
  refine fwg_cmp 46 d_rHex_25 (by decide) (fun _ => ?_) (fun q => absurd (show (0 : Int32) ≤ 0 by decide) q)
  refine fwRun_ok k_rHex_46_ok rfl trivial ?_
  refine fw_cut (fun s => s.1 39 11 = nI 0) fwI_eq (fun σ1 h1 => ?_)
  refine fwRun_ok k_rHex_53_ok rfl trivial ?_
  refine fwg_cmp 191 d_rHex_55 (by decide) (fun q => absurd (show (0 : Int32) < 0 from q) (by decide)) (fun _ => ?_)
  refine fwRun_ok k_rHex_58_ok rfl trivial ?_
  refine fwg_cmp 72 d_rHex_63 (by decide) (fun q => absurd (show (16 : Int32) ≤ 0 - 0 from q) (by decide)) (fun _ => ?_)
  refine fwRun_ok k_rHex_66_ok rfl trivial ?_
  refine fwg_goto 74 d_rHex_69 (by decide) ?_
  refine fwRun_ok k_rHex_74_ok rfl trivial ?_
  refine fwg_if 82 d_rHex_76 (by decide) (fun q => absurd (show (0 : Int32) - 0 = 0 by decide) q) (fun _ => ?_)
  refine fwg_goto 191 d_rHex_79 (by decide) ?_
  refine fwRun_ok k_rHex_191_ok rfl trivial ?_
  refine fwg_ldcwS (q := ("MonitorBoardModel", 806, ":00000001FF", 50)) rfl (List.mem_of_getElem? (i := 71) rfl) d_rHex_192 ?_
  refine fwRun_ok k_rHex_195_ok rfl trivial ?_
  refine fwg_callV (n := 3) (i := 39) (as := [.retAddr 50, .int 0, .int (nI 11)]) (r := []) (ct_rAddText (c := 50) (n := 11) (t := 0) (by decide) (by decide) h1 (by decide)) ⟨by decide, by decide, by decide +kernel⟩ m_rAddText_in c_rHex_198 rfl rfl rfl rfl (Nat.le_of_ble_eq_true rfl) d_rHex_198 ⟨Nat.le_of_ble_eq_true rfl, Nat.le_of_ble_eq_true rfl⟩ ⟨Nat.le_refl _, Nat.le_refl _⟩ (fun v sh' σ2 hq => ?_)
  obtain ⟨rfl, rfl, h2⟩ := hq
  refine fwRun_ok k_rHex_201_ok rfl trivial ?_
  refine fwg_callV (n := 1) (i := 39) (as := [.int 13]) (r := []) (ct_rAdd (t := 11) h2 (by decide)) ⟨by decide, by decide, by decide +kernel⟩ m_rAdd_in c_rHex_204 rfl rfl rfl rfl (Nat.le_of_ble_eq_true rfl) d_rHex_204 ⟨Nat.le_of_ble_eq_true rfl, Nat.le_of_ble_eq_true rfl⟩ ⟨Nat.le_refl _, Nat.le_refl _⟩ (fun v sh' σ3 hq => ?_)
  obtain ⟨rfl, rfl, h3⟩ := hq
  refine fwRun_ok k_rHex_207_ok rfl trivial ?_
  refine fwg_callV (n := 1) (i := 39) (as := [.int 10]) (r := []) (ct_rAdd (t := 12) h3 (by decide)) ⟨by decide, by decide, by decide +kernel⟩ m_rAdd_in c_rHex_210 rfl rfl rfl rfl (Nat.le_of_ble_eq_true rfl) d_rHex_210 ⟨Nat.le_of_ble_eq_true rfl, Nat.le_of_ble_eq_true rfl⟩ ⟨Nat.le_refl _, Nat.le_refl _⟩ (fun v sh' σ4 hq => ?_)
  obtain ⟨rfl, rfl, h4⟩ := hq
  refine fwRun_ok k_rHex_213_ok rfl trivial ?_
  refine fwg_iret rfl (Nat.le_refl _) (Nat.le_refl _) ⟨?_, rfl⟩ d_rHex_217
  show some (Value.int (σ4.1 39 11)) = _
  rw [h4]
theorem ct_putSign {x : Int32} {t : Nat} (h : σ.1 0 11 = nI t) (ht : t < 58112) : fwC l Z m_putSign 1 0 0 [.ref 0, .int x] (shMB re) σ (fun w sh' σ' => w = none ∧ sh' = shMB re ∧ σ'.1 0 11 = nI (t + 1) ∧ fwSame [0, 2] σ σ') := by
  refine fwC_of (ls := [some (.ref 0), some (.int x)]) (by decide +kernel) rfl (by rw [fw_sl1]; exact Nat.le_refl 2) ?_
  refine fwRun_ok k_putSign_0_ok rfl trivial ?_
  refine fwg_cmp 30 d_putSign_6 (by decide) (fun q => absurd (show nI 58112 ≤ nI t from h ▸ q) (nI_ge ht (by decide))) (fun _ => ?_)
  refine fwRun_ok k_putSign_9_ok rfl (by show vp_in (σ.1 0 11) 58112; rw [h]; exact vp_in_nI ht (by decide)) ?_
  refine fwg_vret rfl (Nat.le_refl _) (Nat.le_refl _) ⟨rfl, rfl, ?_, (fwSame_I (by decide)).tr (fwSame_I (by decide))⟩ d_putSign_30
  show (fwI _ 0 11 _).1 0 11 = _
  rw [fwI_eq, fwI_ne (by decide), h]
  exact nI_1 t
theorem putText_loop {c : Nat} (hc : c < fwNs) (hL : fwSl.getD c 0 < 2 ^ 31) {Post : fwPost} : ∀ (q j t : Nat) (σ : fwS), j + q = fwSl.getD c 0 → σ.1 0 11 = nI t → t + q ≤ 58112 → (∀ σ' : fwS, σ'.1 0 11 = nI (t + q) → fwSame [0, 2] σ σ' → Post none (shMB re) σ') → fwG l Z m_putText 5 0 0 Post 0 0 2 [some (.ref 0), some (.retAddr c), some (.int (nI j))] [] (shMB re) σ := by
  intro q
  induction q with
  | zero =>
    intro j t σ hj h ht hp
    refine fwRun_ok k_putText_2_ok rfl trivial ?_
    refine fwg_callK (n := 0) (as := []) (r := [.int (nI j)]) (ct_slen hc) ⟨by decide, by decide, by decide +kernel⟩ rfl m_slen_in c_putText_4 hc rfl rfl (Nat.le_of_ble_eq_true rfl) d_putText_4 ⟨Nat.le_of_ble_eq_true rfl, Nat.le_of_ble_eq_true rfl⟩ ⟨Nat.le_refl _, Nat.le_refl _⟩ (fun v sh' σ' hq => ?_)
    obtain ⟨rfl, rfl, rfl⟩ := hq
    refine fwg_cmp 25 d_putText_7 (by decide) (fun _ => ?_) (fun h => absurd (nI_le (by omega) (by omega)) h)
    exact fwg_vret rfl (Nat.le_refl _) (Nat.le_refl _) (hp σ' h fwSame.rf) d_putText_25
  | succ q ih =>
    intro j t σ hj h ht hp
    refine fwRun_ok k_putText_2_ok rfl trivial ?_
    refine fwg_callK (n := 0) (as := []) (r := [.int (nI j)]) (ct_slen hc) ⟨by decide, by decide, by decide +kernel⟩ rfl m_slen_in c_putText_4 hc rfl rfl (Nat.le_of_ble_eq_true rfl) d_putText_4 ⟨Nat.le_of_ble_eq_true rfl, Nat.le_of_ble_eq_true rfl⟩ ⟨Nat.le_refl _, Nat.le_refl _⟩ (fun v sh' σ' hq => ?_)
    obtain ⟨rfl, rfl, rfl⟩ := hq
    refine fwg_cmp 25 d_putText_7 (by decide) (fun h => absurd (show nI (fwSl.getD c 0) ≤ nI j from h) (nI_ge (by omega) hL)) (fun _ => ?_)
    refine fwRun_ok k_putText_10_ok rfl trivial ?_
    refine fwg_callK (n := 1) (as := [.int (nI j)]) (r := [.ref 0]) (ct_schar (j := j) hc (by omega)) ⟨by decide, by decide, by decide +kernel⟩ rfl m_schar_in c_putText_13 hc rfl rfl (Nat.le_of_ble_eq_true rfl) d_putText_13 ⟨Nat.le_of_ble_eq_true rfl, Nat.le_of_ble_eq_true rfl⟩ ⟨Nat.le_refl _, Nat.le_refl _⟩ (fun v sh' σ'' hq => ?_)
    obtain ⟨rfl, rfl, rfl⟩ := hq
    refine fwg_callV (n := 1) (i := 0) (as := [.int (fwCh c j)]) (r := []) (ct_putSign h (by omega)) ⟨by decide, by decide, by decide +kernel⟩ m_putSign_in c_putText_16 rfl rfl rfl rfl (Nat.le_of_ble_eq_true rfl) d_putText_16 ⟨Nat.le_of_ble_eq_true rfl, Nat.le_of_ble_eq_true rfl⟩ ⟨Nat.le_refl _, Nat.le_refl _⟩ (fun v sh' σ3 hq => ?_)
    obtain ⟨rfl, rfl, h3, s3⟩ := hq
    refine fwRun_ok k_putText_19_ok rfl trivial ?_
    refine fwg_goto 2 d_putText_22 (by decide) ?_
    have := ih (j + 1) (t + 1) σ3 (by omega) h3 (by omega) (fun σ4 h4 s4 => hp σ4 (by rw [h4, show t + 1 + q = t + (q + 1) by omega]) (s3.tr s4))
    rw [← nI_1] at this
    exact this
theorem ct_putText {c t : Nat} (hc : c < fwNs) (h : σ.1 0 11 = nI t) (ht : t + fwSl.getD c 0 ≤ 58112) : fwC l Z m_putText 5 0 0 [.ref 0, .retAddr c] (shMB re) σ (fun w sh' σ' => w = none ∧ sh' = shMB re ∧ σ'.1 0 11 = nI (t + fwSl.getD c 0) ∧ fwSame [0, 2] σ σ') := by
  obtain ⟨-, hL, -⟩ := fw_sc c hc
  refine fwC_of (ls := [some (.ref 0), some (.retAddr c), none]) (by decide +kernel) rfl (by rw [fw_sl1]; exact Nat.le_of_ble_eq_true rfl) ?_
  refine fwRun_ok k_putText_0_ok rfl trivial ?_
  exact putText_loop hc hL (fwSl.getD c 0) 0 t σ (by omega) h (by omega) (fun σ' h' s' => ⟨rfl, rfl, h', s'⟩)
end REF
end
section
/-! System.arraycopy of no bytes -/
section CPY
variable {l : Launch} {Z : fwZ} {M : fwM} {d mc ms : Nat} {Post : fwPost} {nc ns pc : Nat} {ls : List (Option Value)} {st r : List Value} {sh : List fwE} {σ : fwS}
theorem fwg_copy0 {i j n0 n1 idx : Nat} (hi : sh[i]? = some (.inl (.byte, n0))) (hj : sh[j]? = some (.inl (.byte, n1))) (hw : ∀ w ∈ ([.methodLink M.1.cls idx arraycopyName, .native arraycopyName, .static arraycopyName, .initialized "java/lang/System"] : List Cond), w ∈ fwT) (hd : decode M.2.1 pc = .ok (.invokestatic idx, 3)) (hR : 1 ≤ d) (hcat : (r.map fun v => v.category).sum ≤ 8) (k : fwG l Z M d mc ms Post nc ns (pc + 3) ls r sh σ) : fwG l Z M d mc ms Post nc ns pc ls (.int 0 :: .int 0 :: .ref j :: .int 0 :: .ref i :: r) sh σ := by
  intro p e s m args below meth c H locs Ls hE hO hS hL
  obtain ⟨t0, ht0⟩ := fwTys_at Z (t := .byte) (by decide)
  have hK := hE.2.2.2.2.2.2.2.1
  have hW : ∀ w ∈ ([.methodLink M.1.cls idx arraycopyName, .native arraycopyName, .static arraycopyName, .initialized "java/lang/System"] : List Cond), w.before args s = true := fun w h => hE.2.2.2.2.2.1 _ (List.mem_cons_of_mem _ (hw w h))
  intro T hT X
  have hc0 : H[Z.B + i]? = some (vp_cell (Z.2.2.1 .byte) (n0, .inl (σ.1 i))) := hO.1 i _ (fwW_at hi)
  have hc1 : H[Z.B + j]? = some (vp_cell (Z.2.2.1 .byte) (n1, .inl (σ.1 j))) := hO.1 j _ (fwW_at hj)
  obtain ⟨-, k0, hk0, cm0, hkk0⟩ := (hK.2 t0 _ ht0).1 n0 (fun q => .int (σ.1 i q))
  obtain ⟨-, k1, hk1, cm1, hkk1⟩ := (hK.2 t0 _ ht0).1 n1 (fun q => .int (σ.1 j q))
  obtain ⟨vm', X', step⟩ := X.arraycopy (index := idx) hE.1 hE.2.2.2.2.1 (hW _ (by simp)) (hW _ (by simp)) (hW _ (by simp)) (hW _ (by simp)) (src := Z.B + i) (dst := Z.B + j) (cs := vp_cell (Z.2.2.1 .byte) (n0, .inl (σ.1 i))) (cd := vp_cell (Z.2.2.1 .byte) (n1, .inl (σ.1 j))) (srcPos := 0) (destPos := 0) (n := 0) (by rw [hT]; exact hc0) (by rw [hT]; exact hc1)
    (fun _ h => by cases h) (fun _ h => by cases h) (fun h => by cases h) (fun h => by cases h) hk0 hk1 hkk0 hkk1 rfl (by decide) (by decide) (by decide)
    (by show ¬ (0 : Int) + 0 > ((arrV _ _ _).slots.size : Int); omega) (by show ¬ (0 : Int) + 0 > ((arrV _ _ _).slots.size : Int); omega)
    (fun vm₁ _ i hi => absurd hi (by show ¬ i < 0; omega))
    (g := F0 m pc Ls (.int 0 :: .int 0 :: .ref (Z.B + j) :: .int 0 :: .ref (Z.B + i) :: r.map (fwV Z))) rfl (by rw [hE.2.2.2.1]; exact hL.1.1) (rest := r.map (fwV Z)) rfl (by rw [hE.2.1]; exact hd) (by show 1 ≤ d; exact hR) (by
      rw [fwSum]
      show 2 * 0 + _ + (nativeFrameWords "java/lang/System" "arraycopy" 5 + 11) ≤ 64 * d
      have : nativeFrameWords "java/lang/System" "arraycopy" 5 + 11 ≤ 56 := by decide
      omega)
  have e1 : copied (vp_cell (Z.2.2.1 .byte) (n0, .inl (σ.1 i))) (vp_cell (Z.2.2.1 .byte) (n1, .inl (σ.1 j))) 0 0 0 = vp_cell (Z.2.2.1 .byte) (n1, .inl (σ.1 j)) := rfl
  rw [e1] at X' step
  have hheap : ((T.setVm vm').setCell (Z.B + j) (vp_cell (Z.2.2.1 .byte) (n1, .inl (σ.1 j)))).heap = H := by
    show T.heap.setIfInBounds (Z.B + j) _ = H
    rw [hT]
    apply Array.ext_getElem?
    intro q
    rw [Array.getElem?_setIfInBounds]
    split
    · rename_i hq
      subst hq
      split
      · exact hc1.symm
      · rename_i hn
        rw [Array.getElem?_eq_none (by omega)]
    · rfl
  have X2 : Stand p l e (headSpec (fwWs M) (fwRm d mc ms)).room s m args below meth c ((T.setVm vm').setCell (Z.B + j) (vp_cell (Z.2.2.1 .byte) (n1, .inl (σ.1 j)))) (locs ++ []) nc ns := X'
  rw [List.append_nil] at X2
  obtain ⟨t, a1, b1⟩ := k p e s m args below meth c H locs Ls hE hO hS hL _ hheap X2
  exact ⟨t, step t a1, b1⟩
end CPY
end
section
/-! methods, their instructions, by program (wip/whole/methods.py) -/
/-- MonitorBoard.back()I -/
abbrev m_back : fwM := (⟨"MonitorBoard", "back", "()I"⟩, prog_1_method_16_code, 1, (some FieldType.int))
theorem m_back_in : Cond.code m_back.1 m_back.2.1 m_back.2.2.1 m_back.2.2.2 ∈ fwT := fwT_mem (List.mem_of_getElem? (i := 1832) (by decide +kernel)) rfl
def k_back_0 : List fwO := [(.aload_n 0, 0, 0, .null), (.aload_n 0, 0, 0, .null), (.getfield 164, 0, 11, .retAddr 166), (.sipush 4000, 0, 0, .int 4000)]
theorem k_back_0_ok : fwChain m_back.1.cls m_back.2.1 0 k_back_0 8 = true := by decide +kernel
theorem d_back_8 : decode m_back.2.1 8 = .ok (.invokestatic 176, 3) := by decide +kernel
def k_back_11 : List fwO := [(.putfield 83, 0, 10, .retAddr 165), (.aload_n 0, 0, 0, .null), (.getfield 14, 0, 1, .retAddr 156), (.iconst 0, 0, 0, .int 0), (.aload_n 0, 0, 0, .null), (.getfield 9, 0, 0, .retAddr 155), (.iconst 0, 0, 0, .int 0), (.aload_n 0, 0, 0, .null), (.getfield 83, 0, 10, .retAddr 165)]
theorem k_back_11_ok : fwChain m_back.1.cls m_back.2.1 11 k_back_11 28 = true := by decide +kernel
theorem d_back_28 : decode m_back.2.1 28 = .ok (.invokestatic 179, 3) := by decide +kernel
def k_back_31 : List fwO := [(.aload_n 0, 0, 0, .null), (.getfield 83, 0, 10, .retAddr 165)]
theorem k_back_31_ok : fwChain m_back.1.cls m_back.2.1 31 k_back_31 35 = true := by decide +kernel
theorem d_back_35 : decode m_back.2.1 35 = .ok (.ireturn, 1) := by decide +kernel
/-- MonitorBoard.hex()I -/
abbrev m_hex : fwM := (⟨"MonitorBoard", "hex", "()I"⟩, prog_1_method_19_code, 3, (some FieldType.int))
theorem m_hex_in : Cond.code m_hex.1 m_hex.2.1 m_hex.2.2.1 m_hex.2.2.2 ∈ fwT := fwT_mem (List.mem_of_getElem? (i := 1906) (by decide +kernel)) rfl
def k_hex_0 : List fwO := [(.aload_n 0, 0, 0, .null), (.getfield 164, 0, 11, .retAddr 166), (.sipush 2000, 0, 0, .int 2000)]
theorem k_hex_0_ok : fwChain m_hex.1.cls m_hex.2.1 0 k_hex_0 7 = true := by decide +kernel
theorem d_hex_7 : decode m_hex.2.1 7 = .ok (.invokestatic 176, 3) := by decide +kernel
def k_hex_10 : List fwO := [(.istore_n 1, 0, 0, .null), (.aload_n 0, 0, 0, .null), (.getfield 14, 0, 1, .retAddr 156), (.iconst 0, 0, 0, .int 0), (.aload_n 0, 0, 0, .null), (.getfield 17, 0, 2, .retAddr 157), (.iconst 0, 0, 0, .int 0), (.iload_n 1, 0, 0, .null)]
theorem k_hex_10_ok : fwChain m_hex.1.cls m_hex.2.1 10 k_hex_10 22 = true := by decide +kernel
theorem d_hex_22 : decode m_hex.2.1 22 = .ok (.invokestatic 179, 3) := by decide +kernel
def k_hex_25 : List fwO := [(.aload_n 0, 0, 0, .null), (.iconst 0, 0, 0, .int 0), (.putfield 164, 0, 11, .retAddr 166), (.iconst 0, 0, 0, .int 0), (.istore_n 2, 0, 0, .null)]
theorem k_hex_25_ok : fwChain m_hex.1.cls m_hex.2.1 25 k_hex_25 32 = true := by decide +kernel
def k_hex_32 : List fwO := [(.iload_n 2, 0, 0, .null), (.iload_n 1, 0, 0, .null)]
theorem k_hex_32_ok : fwChain m_hex.1.cls m_hex.2.1 32 k_hex_32 34 = true := by decide +kernel
theorem d_hex_34 : decode m_hex.2.1 34 = .ok (.if_icmp .ge 22, 3) := by decide +kernel
def k_hex_37 : List fwO := [(.aload_n 0, 0, 0, .null), (.iload_n 2, 0, 0, .null), (.bipush 16, 0, 0, .int 16), (.iload_n 1, 0, 0, .null), (.iload_n 2, 0, 0, .null), (.isub, 0, 0, .null)]
theorem k_hex_37_ok : fwChain m_hex.1.cls m_hex.2.1 37 k_hex_37 44 = true := by decide +kernel
theorem d_hex_44 : decode m_hex.2.1 44 = .ok (.invokestatic 176, 3) := by decide +kernel
theorem d_hex_47 : decode m_hex.2.1 47 = .ok (.invokevirtual 199, 3) := by decide +kernel
def k_hex_50 : List fwO := [(.iinc 2 16, 0, 0, .int 16)]
theorem k_hex_50_ok : fwChain m_hex.1.cls m_hex.2.1 50 k_hex_50 53 = true := by decide +kernel
theorem d_hex_53 : decode m_hex.2.1 53 = .ok (.goto (-21), 3) := by decide +kernel
def k_hex_56 : List fwO := [(.aload_n 0, 0, 0, .null), (.ldc 202, 33, 0, .retAddr 26)]
theorem k_hex_56_ok : fwChain m_hex.1.cls m_hex.2.1 56 k_hex_56 59 = true := by decide +kernel
theorem d_hex_59 : decode m_hex.2.1 59 = .ok (.invokevirtual 204, 3) := by decide +kernel
def k_hex_62 : List fwO := [(.aload_n 0, 0, 0, .null), (.getfield 164, 0, 11, .retAddr 166)]
theorem k_hex_62_ok : fwChain m_hex.1.cls m_hex.2.1 62 k_hex_62 66 = true := by decide +kernel
theorem d_hex_66 : decode m_hex.2.1 66 = .ok (.ireturn, 1) := by decide +kernel
theorem c_back_8 : ∀ w ∈ ([(Cond.methodLink "MonitorBoard" (176 : Nat) ({ cls := "java/lang/Math", name := "min", desc := "(II)I" } : MethodName)), (Cond.static ({ cls := "java/lang/Math", name := "min", desc := "(II)I" } : MethodName)), (Cond.initialized "java/lang/Math")] : List Cond), w ∈ fwT := fwT_all [1833, 878, 294] (by decide +kernel) (by decide +kernel)
theorem c_back_28 : ∀ w ∈ ([(Cond.methodLink "MonitorBoard" (179 : Nat) ({ cls := "java/lang/System", name := "arraycopy", desc := "(Ljava/lang/Object;ILjava/lang/Object;II)V" } : MethodName)), (Cond.static ({ cls := "java/lang/System", name := "arraycopy", desc := "(Ljava/lang/Object;ILjava/lang/Object;II)V" } : MethodName)), (Cond.initialized "java/lang/System")] : List Cond), w ∈ fwT := fwT_all [1834, 1110, 297] (by decide +kernel) (by decide +kernel)
theorem c_hex_7 : ∀ w ∈ ([(Cond.methodLink "MonitorBoard" (176 : Nat) ({ cls := "java/lang/Math", name := "min", desc := "(II)I" } : MethodName)), (Cond.static ({ cls := "java/lang/Math", name := "min", desc := "(II)I" } : MethodName)), (Cond.initialized "java/lang/Math")] : List Cond), w ∈ fwT := c_back_8
theorem c_hex_22 : ∀ w ∈ ([(Cond.methodLink "MonitorBoard" (179 : Nat) ({ cls := "java/lang/System", name := "arraycopy", desc := "(Ljava/lang/Object;ILjava/lang/Object;II)V" } : MethodName)), (Cond.static ({ cls := "java/lang/System", name := "arraycopy", desc := "(Ljava/lang/Object;ILjava/lang/Object;II)V" } : MethodName)), (Cond.initialized "java/lang/System")] : List Cond), w ∈ fwT := c_back_28
theorem c_hex_44 : ∀ w ∈ ([(Cond.methodLink "MonitorBoard" (176 : Nat) ({ cls := "java/lang/Math", name := "min", desc := "(II)I" } : MethodName)), (Cond.static ({ cls := "java/lang/Math", name := "min", desc := "(II)I" } : MethodName)), (Cond.initialized "java/lang/Math")] : List Cond), w ∈ fwT := c_back_8
theorem c_hex_47 : ∀ w ∈ ([(Cond.methodLink "MonitorBoard" (199 : Nat) ({ cls := "MonitorBoard", name := "putHexLine", desc := "(II)V" } : MethodName)), (Cond.instanceMethod ({ cls := "MonitorBoard", name := "putHexLine", desc := "(II)V" } : MethodName)), (Cond.selects "MonitorBoard" ({ cls := "MonitorBoard", name := "putHexLine", desc := "(II)V" } : MethodName) ({ cls := "MonitorBoard", name := "putHexLine", desc := "(II)V" } : MethodName)), (Cond.initialized "MonitorBoard")] : List Cond), w ∈ fwT := fwT_all [1907, 1909, 139, 279] (by decide +kernel) (by decide +kernel)
theorem c_hex_59 : ∀ w ∈ ([(Cond.methodLink "MonitorBoard" (204 : Nat) ({ cls := "MonitorBoard", name := "putText", desc := "(Ljava/lang/String;)V" } : MethodName)), (Cond.instanceMethod ({ cls := "MonitorBoard", name := "putText", desc := "(Ljava/lang/String;)V" } : MethodName)), (Cond.selects "MonitorBoard" ({ cls := "MonitorBoard", name := "putText", desc := "(Ljava/lang/String;)V" } : MethodName) ({ cls := "MonitorBoard", name := "putText", desc := "(Ljava/lang/String;)V" } : MethodName)), (Cond.initialized "MonitorBoard")] : List Cond), w ∈ fwT := fwT_all [1912, 1914, 140, 279] (by decide +kernel) (by decide +kernel)
theorem w_copy : ∀ w ∈ ([(Cond.methodLink "MonitorBoard" (179 : Nat) ({ cls := "java/lang/System", name := "arraycopy", desc := "(Ljava/lang/Object;ILjava/lang/Object;II)V" } : MethodName)), (Cond.native ({ cls := "java/lang/System", name := "arraycopy", desc := "(Ljava/lang/Object;ILjava/lang/Object;II)V" } : MethodName)), (Cond.static ({ cls := "java/lang/System", name := "arraycopy", desc := "(Ljava/lang/Object;ILjava/lang/Object;II)V" } : MethodName)), (Cond.initialized "java/lang/System")] : List Cond), w ∈ fwT := fwT_all [1834, 1111, 1110, 297] (by decide +kernel) (by decide +kernel)
section FST
variable {l : Launch} {Z : fwZ} {re : List fwE} {σ : fwS}
theorem ct_back (hF : Fre σ) : fwC l Z m_back 2 0 0 [.ref 0] (shMB re) σ (fun w sh' σ' => w = some (.int 0) ∧ sh' = shMB re ∧ Up σ σ') := by
  refine fwC_of (ls := [some (.ref 0)]) (by decide +kernel) rfl (by rw [fw_sl1]; exact Nat.le_refl 1) ?_
  have h11 : σ.1 0 11 = 0 := hF.1.2
  refine fwRun_ok k_back_0_ok rfl trivial ?_
  show fwG l Z m_back _ _ _ _ _ _ 8 _ [.int 4000, .int (σ.1 0 11), .ref 0] _ _
  rw [h11]
  refine fwg_callS (n := 2) (as := [.int 0, .int 4000]) (r := [.ref 0]) (ct_mmin _ _) ⟨by decide, by decide, by decide +kernel⟩ m_mmin_in c_back_8 rfl rfl (Nat.le_of_ble_eq_true rfl) d_back_8 ⟨Nat.le_refl _, Nat.le_of_ble_eq_true rfl⟩ ⟨Nat.le_refl _, Nat.le_refl _⟩ (fun v sh' σ1 hq => ?_)
  obtain ⟨rfl, rfl, rfl⟩ := hq
  rw [if_neg (show ¬ (4000 : Int32) < 0 by decide)]
  refine fwRun_ok k_back_11_ok rfl trivial ?_
  have e : (fwI σ1 0 10 0).1 0 10 = 0 := fwI_eq
  show fwG l Z m_back _ _ _ _ _ _ 28 _ [.int ((fwI σ1 0 10 0).1 0 10), .int 0, .ref 1, .int 0, .ref 2] _ (fwI σ1 0 10 0)
  rw [e]
  refine fwg_copy0 (i := 2) (j := 1) rfl rfl w_copy d_back_28 (Nat.le_of_ble_eq_true rfl) (Nat.le_of_ble_eq_true rfl) ?_
  refine fwRun_ok k_back_31_ok rfl trivial ?_
  refine fwg_iret rfl (Nat.le_refl _) (Nat.le_refl _) ⟨?_, rfl, fwSame_I (by decide)⟩ d_back_35
  show some (Value.int ((fwI σ1 0 10 0).1 0 10)) = _
  rw [e]
theorem ct_hex (hF : Fre σ) : fwC l Z m_hex 6 0 0 [.ref 0] (shMB re) σ (fun w sh' σ' => w = some (.int (nI 13)) ∧ sh' = shMB re ∧ Up σ σ') := by
  refine fwC_of (ls := [some (.ref 0), none, none]) (by decide +kernel) rfl (by rw [fw_sl1]; exact Nat.le_of_ble_eq_true rfl) ?_
  have h11 : σ.1 0 11 = 0 := hF.1.2
  refine fwRun_ok k_hex_0_ok rfl trivial ?_
  show fwG l Z m_hex _ _ _ _ _ _ 7 _ [.int 2000, .int (σ.1 0 11)] _ _
  rw [h11]
  refine fwg_callS (n := 2) (as := [.int 0, .int 2000]) (r := []) (ct_mmin _ _) ⟨by decide, by decide, by decide +kernel⟩ m_mmin_in c_hex_7 rfl rfl (Nat.le_of_ble_eq_true rfl) d_hex_7 ⟨Nat.le_of_ble_eq_true rfl, Nat.le_of_ble_eq_true rfl⟩ ⟨Nat.le_refl _, Nat.le_refl _⟩ (fun v sh' σ1 hq => ?_)
  obtain ⟨rfl, rfl, rfl⟩ := hq
  rw [if_neg (show ¬ (2000 : Int32) < 0 by decide)]
  refine fwRun_ok k_hex_10_ok rfl trivial ?_
  refine fwg_copy0 (i := 2) (j := 3) rfl rfl w_copy d_hex_22 (Nat.le_of_ble_eq_true rfl) (Nat.le_of_ble_eq_true rfl) ?_
  refine fwRun_ok k_hex_25_ok rfl trivial ?_
  refine fwRun_ok k_hex_32_ok rfl trivial ?_
  refine fwg_cmp 56 d_hex_34 (by decide) (fun _ => ?_) (fun q => absurd (show (0 : Int32) ≤ 0 by decide) q)
  refine fwRun_ok k_hex_56_ok rfl trivial ?_
  refine fwg_callV (n := 1) (i := 0) (as := [.retAddr 26]) (r := []) (ct_putText (c := 26) (t := 0) (by decide) fwI_eq (by decide)) ⟨by decide, by decide, by decide +kernel⟩ m_putText_in c_hex_59 rfl rfl rfl rfl (Nat.le_of_ble_eq_true rfl) d_hex_59 ⟨Nat.le_refl _, Nat.le_of_ble_eq_true rfl⟩ ⟨Nat.le_refl _, Nat.le_refl _⟩ (fun v sh' σ2 hq => ?_)
  obtain ⟨rfl, rfl, h2, s2⟩ := hq
  refine fwRun_ok k_hex_62_ok rfl trivial ?_
  refine fwg_iret rfl (Nat.le_refl _) (Nat.le_refl _) ⟨?_, rfl, (fwSame_I (by decide)).tr (s2.up (by decide))⟩ d_hex_66
  show some (Value.int (σ2.1 0 11)) = _
  rw [h2]
  rfl
end FST
end
