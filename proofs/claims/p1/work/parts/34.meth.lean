/-! methods, their instructions, by program (wip/whole/methods.py) -/
/-- MonitorBoard$Console.<init>()V -/
abbrev m_iCon : fwM := (⟨"MonitorBoard$Console", "<init>", "()V"⟩, prog_4_method_1_code, 1, (none : Option FieldType))
theorem m_iCon_in : Cond.code m_iCon.1 m_iCon.2.1 m_iCon.2.2.1 m_iCon.2.2.2 ∈ fwT := fwT_mem (List.mem_of_getElem? (i := 316) (by decide +kernel)) rfl
def k_iCon_0 : List fwO := [(.aload_n 0, 0, 0, .null)]
theorem k_iCon_0_ok : fwChain m_iCon.1.cls m_iCon.2.1 0 k_iCon_0 1 = true := by decide +kernel
theorem d_iCon_1 : decode m_iCon.2.1 1 = .ok (.invokespecial 3, 3) := by decide +kernel
def k_iCon_4 : List fwO := [(.aload_n 0, 0, 0, .null), (.sipush 8000, 0, 0, .int 8000)]
theorem k_iCon_4_ok : fwChain m_iCon.1.cls m_iCon.2.1 4 k_iCon_4 8 = true := by decide +kernel
theorem d_iCon_8 : decode m_iCon.2.1 8 = .ok (.newarray .byte, 2) := by decide +kernel
theorem d_iCon_10 : decode m_iCon.2.1 10 = .ok (.putfield 9, 3) := by decide +kernel
def k_iCon_13 : List fwO := [(.aload_n 0, 0, 0, .null), (.sipush 2000, 0, 0, .int 2000)]
theorem k_iCon_13_ok : fwChain m_iCon.1.cls m_iCon.2.1 13 k_iCon_13 17 = true := by decide +kernel
theorem d_iCon_17 : decode m_iCon.2.1 17 = .ok (.newarray .byte, 2) := by decide +kernel
theorem d_iCon_19 : decode m_iCon.2.1 19 = .ok (.putfield 15, 3) := by decide +kernel
def k_iCon_22 : List fwO := [(.aload_n 0, 0, 0, .null), (.sipush 256, 0, 0, .int 256)]
theorem k_iCon_22_ok : fwChain m_iCon.1.cls m_iCon.2.1 22 k_iCon_22 26 = true := by decide +kernel
theorem d_iCon_26 : decode m_iCon.2.1 26 = .ok (.newarray .int, 2) := by decide +kernel
theorem d_iCon_28 : decode m_iCon.2.1 28 = .ok (.putfield 18, 3) := by decide +kernel
theorem d_iCon_31 : decode m_iCon.2.1 31 = .ok (.return_, 1) := by decide +kernel
/-- MonitorBoard$Processor.<init>(LMonitorBoard$Console;)V -/
abbrev m_iPro : fwM := (⟨"MonitorBoard$Processor", "<init>", "(LMonitorBoard$Console;)V"⟩, prog_9_method_1_code, 2, (none : Option FieldType))
theorem m_iPro_in : Cond.code m_iPro.1 m_iPro.2.1 m_iPro.2.2.1 m_iPro.2.2.2 ∈ fwT := fwT_mem (List.mem_of_getElem? (i := 363) (by decide +kernel)) rfl
def k_iPro_0 : List fwO := [(.aload_n 0, 0, 0, .null)]
theorem k_iPro_0_ok : fwChain m_iPro.1.cls m_iPro.2.1 0 k_iPro_0 1 = true := by decide +kernel
theorem d_iPro_1 : decode m_iPro.2.1 1 = .ok (.invokespecial 3, 3) := by decide +kernel
def k_iPro_4 : List fwO := [(.aload_n 0, 0, 0, .null), (.ldc 9, 1, 0, .int 65536)]
theorem k_iPro_4_ok : fwChain m_iPro.1.cls m_iPro.2.1 4 k_iPro_4 7 = true := by decide +kernel
theorem d_iPro_7 : decode m_iPro.2.1 7 = .ok (.newarray .byte, 2) := by decide +kernel
theorem d_iPro_9 : decode m_iPro.2.1 9 = .ok (.putfield 10, 3) := by decide +kernel
def k_iPro_12 : List fwO := [(.aload_n 0, 0, 0, .null), (.bipush 8, 0, 0, .int 8)]
theorem k_iPro_12_ok : fwChain m_iPro.1.cls m_iPro.2.1 12 k_iPro_12 15 = true := by decide +kernel
theorem d_iPro_15 : decode m_iPro.2.1 15 = .ok (.newarray .int, 2) := by decide +kernel
theorem d_iPro_17 : decode m_iPro.2.1 17 = .ok (.putfield 16, 3) := by decide +kernel
def k_iPro_20 : List fwO := [(.aload_n 0, 0, 0, .null), (.iconst 2, 0, 0, .int 2), (.putfield 20, 8, 3, .retAddr 26), (.aload_n 0, 0, 0, .null), (.aload_n 1, 0, 0, .null)]
theorem k_iPro_20_ok : fwChain m_iPro.1.cls m_iPro.2.1 20 k_iPro_20 27 = true := by decide +kernel
theorem d_iPro_27 : decode m_iPro.2.1 27 = .ok (.putfield 24, 3) := by decide +kernel
theorem d_iPro_30 : decode m_iPro.2.1 30 = .ok (.return_, 1) := by decide +kernel
/-- MonitorBoard$Files.sectorOf(I)I -/
abbrev m_sectorOf : fwM := (⟨"MonitorBoard$Files", "sectorOf", "(I)I"⟩, prog_5_method_2_code, 1, (some FieldType.int))
theorem m_sectorOf_in : Cond.code m_sectorOf.1 m_sectorOf.2.1 m_sectorOf.2.2.1 m_sectorOf.2.2.2 ∈ fwT := fwT_mem (List.mem_of_getElem? (i := 419) (by decide +kernel)) rfl
def k_sectorOf_0 : List fwO := [(.iconst 1, 0, 0, .int 1), (.bipush 6, 0, 0, .int 6), (.iload_n 0, 0, 0, .null), (.imul, 0, 0, .null), (.iload_n 0, 0, 0, .null), (.bipush 13, 0, 0, .int 13), (.idiv, 0, 0, .null), (.iadd, 0, 0, .null), (.bipush 26, 0, 0, .int 26), (.irem, 0, 0, .null), (.iadd, 0, 0, .null)]
theorem k_sectorOf_0_ok : fwChain m_sectorOf.1.cls m_sectorOf.2.1 0 k_sectorOf_0 14 = true := by decide +kernel
theorem d_sectorOf_14 : decode m_sectorOf.2.1 14 = .ok (.ireturn, 1) := by decide +kernel
/-- MonitorBoard$Files.sectorPlace(III)I -/
abbrev m_sectorPlace : fwM := (⟨"MonitorBoard$Files", "sectorPlace", "(III)I"⟩, prog_5_method_4_code, 3, (some FieldType.int))
theorem m_sectorPlace_in : Cond.code m_sectorPlace.1 m_sectorPlace.2.1 m_sectorPlace.2.2.1 m_sectorPlace.2.2.2 ∈ fwT := fwT_mem (List.mem_of_getElem? (i := 422) (by decide +kernel)) rfl
def k_sectorPlace_0 : List fwO := [(.iload_n 0, 0, 0, .null), (.ldc 44, 3, 0, .int 256256), (.imul, 0, 0, .null), (.iload_n 1, 0, 0, .null), (.bipush 26, 0, 0, .int 26), (.imul, 0, 0, .null), (.iload_n 2, 0, 0, .null), (.iadd, 0, 0, .null), (.iconst 1, 0, 0, .int 1), (.isub, 0, 0, .null), (.sipush 128, 0, 0, .int 128), (.imul, 0, 0, .null), (.iadd, 0, 0, .null)]
theorem k_sectorPlace_0_ok : fwChain m_sectorPlace.1.cls m_sectorPlace.2.1 0 k_sectorPlace_0 17 = true := by decide +kernel
theorem d_sectorPlace_17 : decode m_sectorPlace.2.1 17 = .ok (.ireturn, 1) := by decide +kernel
/-- MonitorBoard$Files.<init>()V -/
abbrev m_iFil : fwM := (⟨"MonitorBoard$Files", "<init>", "()V"⟩, prog_5_method_1_code, 2, (none : Option FieldType))
theorem m_iFil_in : Cond.code m_iFil.1 m_iFil.2.1 m_iFil.2.2.1 m_iFil.2.2.2 ∈ fwT := fwT_mem (List.mem_of_getElem? (i := 411) (by decide +kernel)) rfl
def k_iFil_0 : List fwO := [(.aload_n 0, 0, 0, .null)]
theorem k_iFil_0_ok : fwChain m_iFil.1.cls m_iFil.2.1 0 k_iFil_0 1 = true := by decide +kernel
theorem d_iFil_1 : decode m_iFil.2.1 1 = .ok (.invokespecial 3, 3) := by decide +kernel
def k_iFil_4 : List fwO := [(.aload_n 0, 0, 0, .null), (.ldc 9, 2, 0, .int 512512)]
theorem k_iFil_4_ok : fwChain m_iFil.1.cls m_iFil.2.1 4 k_iFil_4 7 = true := by decide +kernel
theorem d_iFil_7 : decode m_iFil.2.1 7 = .ok (.newarray .byte, 2) := by decide +kernel
theorem d_iFil_9 : decode m_iFil.2.1 9 = .ok (.putfield 10, 3) := by decide +kernel
def k_iFil_12 : List fwO := [(.aload_n 0, 0, 0, .null), (.sipush 1944, 0, 0, .int 1944)]
theorem k_iFil_12_ok : fwChain m_iFil.1.cls m_iFil.2.1 12 k_iFil_12 16 = true := by decide +kernel
theorem d_iFil_16 : decode m_iFil.2.1 16 = .ok (.newarray .int, 2) := by decide +kernel
theorem d_iFil_18 : decode m_iFil.2.1 18 = .ok (.putfield 16, 3) := by decide +kernel
def k_iFil_21 : List fwO := [(.aload_n 0, 0, 0, .null), (.sipush 486, 0, 0, .int 486)]
theorem k_iFil_21_ok : fwChain m_iFil.1.cls m_iFil.2.1 21 k_iFil_21 25 = true := by decide +kernel
theorem d_iFil_25 : decode m_iFil.2.1 25 = .ok (.newarray .boolean, 2) := by decide +kernel
theorem d_iFil_27 : decode m_iFil.2.1 27 = .ok (.putfield 20, 3) := by decide +kernel
def k_iFil_30 : List fwO := [(.aload_n 0, 0, 0, .null), (.bipush 36, 0, 0, .int 36)]
theorem k_iFil_30_ok : fwChain m_iFil.1.cls m_iFil.2.1 30 k_iFil_30 33 = true := by decide +kernel
theorem d_iFil_33 : decode m_iFil.2.1 33 = .ok (.newarray .int, 2) := by decide +kernel
theorem d_iFil_35 : decode m_iFil.2.1 35 = .ok (.putfield 24, 3) := by decide +kernel
def k_iFil_38 : List fwO := [(.aload_n 0, 0, 0, .null), (.bipush 36, 0, 0, .int 36)]
theorem k_iFil_38_ok : fwChain m_iFil.1.cls m_iFil.2.1 38 k_iFil_38 41 = true := by decide +kernel
theorem d_iFil_41 : decode m_iFil.2.1 41 = .ok (.newarray .int, 2) := by decide +kernel
theorem d_iFil_43 : decode m_iFil.2.1 43 = .ok (.putfield 27, 3) := by decide +kernel
def k_iFil_46 : List fwO := [(.aload_n 0, 0, 0, .null), (.getfield 10, 4, 0, .retAddr 42), (.bipush (-27), 0, 0, .int (-27))]
theorem k_iFil_46_ok : fwChain m_iFil.1.cls m_iFil.2.1 46 k_iFil_46 52 = true := by decide +kernel
theorem d_iFil_52 : decode m_iFil.2.1 52 = .ok (.invokestatic 30, 3) := by decide +kernel
def k_iFil_55 : List fwO := [(.iconst 0, 0, 0, .int 0), (.istore_n 1, 0, 0, .null)]
theorem k_iFil_55_ok : fwChain m_iFil.1.cls m_iFil.2.1 55 k_iFil_55 57 = true := by decide +kernel
def k_iFil_57 : List fwO := [(.iload_n 1, 0, 0, .null), (.aload_n 0, 0, 0, .null), (.getfield 16, 4, 1, .retAddr 47), (.arraylength, 0, 0, .null)]
theorem k_iFil_57_ok : fwChain m_iFil.1.cls m_iFil.2.1 57 k_iFil_57 63 = true := by decide +kernel
theorem d_iFil_63 : decode m_iFil.2.1 63 = .ok (.if_icmp .ge 32, 3) := by decide +kernel
def k_iFil_66 : List fwO := [(.aload_n 0, 0, 0, .null), (.getfield 16, 4, 1, .retAddr 47), (.iload_n 1, 0, 0, .null), (.iconst 0, 0, 0, .int 0), (.iconst 2, 0, 0, .int 2), (.iload_n 1, 0, 0, .null), (.bipush 26, 0, 0, .int 26), (.idiv, 0, 0, .null), (.iadd, 0, 0, .null), (.iload_n 1, 0, 0, .null), (.bipush 26, 0, 0, .int 26), (.irem, 0, 0, .null)]
theorem k_iFil_66_ok : fwChain m_iFil.1.cls m_iFil.2.1 66 k_iFil_66 82 = true := by decide +kernel
theorem d_iFil_82 : decode m_iFil.2.1 82 = .ok (.invokestatic 36, 3) := by decide +kernel
theorem d_iFil_85 : decode m_iFil.2.1 85 = .ok (.invokestatic 40, 3) := by decide +kernel
def k_iFil_88 : List fwO := [(.iastore, 0, 0, .null), (.iinc 1 1, 0, 0, .int 1)]
theorem k_iFil_88_ok : fwChain m_iFil.1.cls m_iFil.2.1 88 k_iFil_88 92 = true := by decide +kernel
theorem d_iFil_92 : decode m_iFil.2.1 92 = .ok (.goto (-35), 3) := by decide +kernel
theorem d_iFil_95 : decode m_iFil.2.1 95 = .ok (.return_, 1) := by decide +kernel
/-- MonitorBoard$Monitor.<init>(LMonitorBoard$Processor;LMonitorBoard$Console;LMonitorBoard$Files;)V -/
abbrev m_iMon : fwM := (⟨"MonitorBoard$Monitor", "<init>", "(LMonitorBoard$Processor;LMonitorBoard$Console;LMonitorBoard$Files;)V"⟩, prog_8_method_1_code, 4, (none : Option FieldType))
theorem m_iMon_in : Cond.code m_iMon.1 m_iMon.2.1 m_iMon.2.2.1 m_iMon.2.2.2 ∈ fwT := fwT_mem (List.mem_of_getElem? (i := 490) (by decide +kernel)) rfl
def k_iMon_0 : List fwO := [(.aload_n 0, 0, 0, .null)]
theorem k_iMon_0_ok : fwChain m_iMon.1.cls m_iMon.2.1 0 k_iMon_0 1 = true := by decide +kernel
theorem d_iMon_1 : decode m_iMon.2.1 1 = .ok (.invokespecial 5, 3) := by decide +kernel
def k_iMon_4 : List fwO := [(.aload_n 0, 0, 0, .null), (.aload_n 1, 0, 0, .null)]
theorem k_iMon_4_ok : fwChain m_iMon.1.cls m_iMon.2.1 4 k_iMon_4 6 = true := by decide +kernel
theorem d_iMon_6 : decode m_iMon.2.1 6 = .ok (.putfield 11, 3) := by decide +kernel
def k_iMon_9 : List fwO := [(.aload_n 0, 0, 0, .null), (.aload_n 2, 0, 0, .null)]
theorem k_iMon_9_ok : fwChain m_iMon.1.cls m_iMon.2.1 9 k_iMon_9 11 = true := by decide +kernel
theorem d_iMon_11 : decode m_iMon.2.1 11 = .ok (.putfield 15, 3) := by decide +kernel
def k_iMon_14 : List fwO := [(.aload_n 0, 0, 0, .null), (.aload_n 3, 0, 0, .null)]
theorem k_iMon_14_ok : fwChain m_iMon.1.cls m_iMon.2.1 14 k_iMon_14 16 = true := by decide +kernel
theorem d_iMon_16 : decode m_iMon.2.1 16 = .ok (.putfield 19, 3) := by decide +kernel
theorem d_iMon_19 : decode m_iMon.2.1 19 = .ok (.return_, 1) := by decide +kernel
/-- MonitorBoard$HexText.<init>()V -/
abbrev m_iHex : fwM := (⟨"MonitorBoard$HexText", "<init>", "()V"⟩, prog_6_method_1_code, 1, (none : Option FieldType))
theorem m_iHex_in : Cond.code m_iHex.1 m_iHex.2.1 m_iHex.2.2.1 m_iHex.2.2.2 ∈ fwT := fwT_mem (List.mem_of_getElem? (i := 534) (by decide +kernel)) rfl
def k_iHex_0 : List fwO := [(.aload_n 0, 0, 0, .null)]
theorem k_iHex_0_ok : fwChain m_iHex.1.cls m_iHex.2.1 0 k_iHex_0 1 = true := by decide +kernel
theorem d_iHex_1 : decode m_iHex.2.1 1 = .ok (.invokespecial 3, 3) := by decide +kernel
def k_iHex_4 : List fwO := [(.aload_n 0, 0, 0, .null), (.ldc 9, 4, 0, .int 58112)]
theorem k_iHex_4_ok : fwChain m_iHex.1.cls m_iHex.2.1 4 k_iHex_4 7 = true := by decide +kernel
theorem d_iHex_7 : decode m_iHex.2.1 7 = .ok (.newarray .byte, 2) := by decide +kernel
theorem d_iHex_9 : decode m_iHex.2.1 9 = .ok (.putfield 10, 3) := by decide +kernel
theorem d_iHex_12 : decode m_iHex.2.1 12 = .ok (.return_, 1) := by decide +kernel
/-- MonitorBoard$Reader.<init>(LMonitorBoard$Files;)V -/
abbrev m_iRea : fwM := (⟨"MonitorBoard$Reader", "<init>", "(LMonitorBoard$Files;)V"⟩, prog_10_method_1_code, 2, (none : Option FieldType))
theorem m_iRea_in : Cond.code m_iRea.1 m_iRea.2.1 m_iRea.2.2.1 m_iRea.2.2.2 ∈ fwT := fwT_mem (List.mem_of_getElem? (i := 626) (by decide +kernel)) rfl
def k_iRea_0 : List fwO := [(.aload_n 0, 0, 0, .null)]
theorem k_iRea_0_ok : fwChain m_iRea.1.cls m_iRea.2.1 0 k_iRea_0 1 = true := by decide +kernel
theorem d_iRea_1 : decode m_iRea.2.1 1 = .ok (.invokespecial 3, 3) := by decide +kernel
def k_iRea_4 : List fwO := [(.aload_n 0, 0, 0, .null), (.bipush 36, 0, 0, .int 36)]
theorem k_iRea_4_ok : fwChain m_iRea.1.cls m_iRea.2.1 4 k_iRea_4 7 = true := by decide +kernel
theorem d_iRea_7 : decode m_iRea.2.1 7 = .ok (.newarray .int, 2) := by decide +kernel
theorem d_iRea_9 : decode m_iRea.2.1 9 = .ok (.putfield 9, 3) := by decide +kernel
def k_iRea_12 : List fwO := [(.aload_n 0, 0, 0, .null), (.sipush 128, 0, 0, .int 128)]
theorem k_iRea_12_ok : fwChain m_iRea.1.cls m_iRea.2.1 12 k_iRea_12 16 = true := by decide +kernel
theorem d_iRea_16 : decode m_iRea.2.1 16 = .ok (.newarray .byte, 2) := by decide +kernel
theorem d_iRea_18 : decode m_iRea.2.1 18 = .ok (.putfield 15, 3) := by decide +kernel
def k_iRea_21 : List fwO := [(.aload_n 0, 0, 0, .null), (.aload_n 1, 0, 0, .null)]
theorem k_iRea_21_ok : fwChain m_iRea.1.cls m_iRea.2.1 21 k_iRea_21 23 = true := by decide +kernel
theorem d_iRea_23 : decode m_iRea.2.1 23 = .ok (.putfield 19, 3) := by decide +kernel
theorem d_iRea_26 : decode m_iRea.2.1 26 = .ok (.return_, 1) := by decide +kernel
/-- MonitorBoard.packed(JI)J -/
abbrev m_packed : fwM := (⟨"MonitorBoard", "packed", "(JI)J"⟩, prog_1_method_24_code, 3, (some FieldType.long))
theorem m_packed_in : Cond.code m_packed.1 m_packed.2.1 m_packed.2.2.1 m_packed.2.2.2 ∈ fwT := fwT_mem (List.mem_of_getElem? (i := 620) (by decide +kernel)) rfl
def k_packed_0 : List fwO := [(.lload_n 0, 0, 0, .null), (.ldc2_w 230, 0, 0, .long 128), (.lmul, 0, 0, .null), (.iload_n 2, 0, 0, .null), (.i2l, 0, 0, .null), (.ladd, 0, 0, .null)]
theorem k_packed_0_ok : fwChain m_packed.1.cls m_packed.2.1 0 k_packed_0 8 = true := by decide +kernel
theorem d_packed_8 : decode m_packed.2.1 8 = .ok (.lreturn, 1) := by decide +kernel
/-- MonitorBoard.packedWords(Ljava/lang/String;I)[J -/
abbrev m_packedWords : fwM := (⟨"MonitorBoard", "packedWords", "(Ljava/lang/String;I)[J"⟩, prog_1_method_25_code, 7, (some (FieldType.array FieldType.long)))
theorem m_packedWords_in : Cond.code m_packedWords.1 m_packedWords.2.1 m_packedWords.2.2.1 m_packedWords.2.2.2 ∈ fwT := fwT_mem (List.mem_of_getElem? (i := 569) (by decide +kernel)) rfl
def k_packedWords_0 : List fwO := [(.iload_n 1, 0, 0, .null)]
theorem k_packedWords_0_ok : fwChain m_packedWords.1.cls m_packedWords.2.1 0 k_packedWords_0 1 = true := by decide +kernel
theorem d_packedWords_1 : decode m_packedWords.2.1 1 = .ok (.newarray .long, 2) := by decide +kernel
def k_packedWords_3 : List fwO := [(.astore_n 2, 0, 0, .null), (.iconst 0, 0, 0, .int 0), (.istore_n 3, 0, 0, .null), (.lconst 1, 0, 0, .long 1), (.lstore 4, 0, 0, .null), (.iconst 0, 0, 0, .int 0), (.istore 6, 0, 0, .null)]
theorem k_packedWords_3_ok : fwChain m_packedWords.1.cls m_packedWords.2.1 3 k_packedWords_3 12 = true := by decide +kernel
def k_packedWords_12 : List fwO := [(.iload 6, 0, 0, .null), (.aload_n 0, 0, 0, .null)]
theorem k_packedWords_12_ok : fwChain m_packedWords.1.cls m_packedWords.2.1 12 k_packedWords_12 15 = true := by decide +kernel
theorem d_packedWords_15 : decode m_packedWords.2.1 15 = .ok (.invokevirtual 226, 3) := by decide +kernel
theorem d_packedWords_18 : decode m_packedWords.2.1 18 = .ok (.if_icmp .gt 61, 3) := by decide +kernel
def k_packedWords_21 : List fwO := [(.iload_n 3, 0, 0, .null), (.iload_n 1, 0, 0, .null)]
theorem k_packedWords_21_ok : fwChain m_packedWords.1.cls m_packedWords.2.1 21 k_packedWords_21 23 = true := by decide +kernel
theorem d_packedWords_23 : decode m_packedWords.2.1 23 = .ok (.if_icmp .ge 56, 3) := by decide +kernel
def k_packedWords_26 : List fwO := [(.iload 6, 0, 0, .null), (.aload_n 0, 0, 0, .null)]
theorem k_packedWords_26_ok : fwChain m_packedWords.1.cls m_packedWords.2.1 26 k_packedWords_26 29 = true := by decide +kernel
theorem d_packedWords_29 : decode m_packedWords.2.1 29 = .ok (.invokevirtual 226, 3) := by decide +kernel
theorem d_packedWords_32 : decode m_packedWords.2.1 32 = .ok (.if_icmp .eq 14, 3) := by decide +kernel
def k_packedWords_35 : List fwO := [(.aload_n 0, 0, 0, .null), (.iload 6, 0, 0, .null)]
theorem k_packedWords_35_ok : fwChain m_packedWords.1.cls m_packedWords.2.1 35 k_packedWords_35 38 = true := by decide +kernel
theorem d_packedWords_38 : decode m_packedWords.2.1 38 = .ok (.invokevirtual 217, 3) := by decide +kernel
def k_packedWords_41 : List fwO := [(.bipush 32, 0, 0, .int 32)]
theorem k_packedWords_41_ok : fwChain m_packedWords.1.cls m_packedWords.2.1 41 k_packedWords_41 43 = true := by decide +kernel
theorem d_packedWords_43 : decode m_packedWords.2.1 43 = .ok (.if_icmp .ne 17, 3) := by decide +kernel
def k_packedWords_46 : List fwO := [(.aload_n 2, 0, 0, .null), (.iload_n 3, 0, 0, .null), (.lload 4, 0, 0, .null), (.lastore, 0, 0, .null), (.iinc 3 1, 0, 0, .int 1), (.lconst 1, 0, 0, .long 1), (.lstore 4, 0, 0, .null)]
theorem k_packedWords_46_ok : fwChain m_packedWords.1.cls m_packedWords.2.1 46 k_packedWords_46 57 = true := by decide +kernel
theorem d_packedWords_57 : decode m_packedWords.2.1 57 = .ok (.goto 16, 3) := by decide +kernel
def k_packedWords_60 : List fwO := [(.lload 4, 0, 0, .null), (.aload_n 0, 0, 0, .null), (.iload 6, 0, 0, .null)]
theorem k_packedWords_60_ok : fwChain m_packedWords.1.cls m_packedWords.2.1 60 k_packedWords_60 65 = true := by decide +kernel
theorem d_packedWords_65 : decode m_packedWords.2.1 65 = .ok (.invokevirtual 217, 3) := by decide +kernel
theorem d_packedWords_68 : decode m_packedWords.2.1 68 = .ok (.invokestatic 232, 3) := by decide +kernel
def k_packedWords_71 : List fwO := [(.lstore 4, 0, 0, .null)]
theorem k_packedWords_71_ok : fwChain m_packedWords.1.cls m_packedWords.2.1 71 k_packedWords_71 73 = true := by decide +kernel
def k_packedWords_73 : List fwO := [(.iinc 6 1, 0, 0, .int 1)]
theorem k_packedWords_73_ok : fwChain m_packedWords.1.cls m_packedWords.2.1 73 k_packedWords_73 76 = true := by decide +kernel
theorem d_packedWords_76 : decode m_packedWords.2.1 76 = .ok (.goto (-64), 3) := by decide +kernel
def k_packedWords_79 : List fwO := [(.aload_n 2, 0, 0, .null)]
theorem k_packedWords_79_ok : fwChain m_packedWords.1.cls m_packedWords.2.1 79 k_packedWords_79 80 = true := by decide +kernel
theorem d_packedWords_80 : decode m_packedWords.2.1 80 = .ok (.areturn, 1) := by decide +kernel
/-- MonitorBoard$Shell.<init>(LMonitorBoard$Monitor;)V -/
abbrev m_iShe : fwM := (⟨"MonitorBoard$Shell", "<init>", "(LMonitorBoard$Monitor;)V"⟩, prog_11_method_1_code, 2, (none : Option FieldType))
theorem m_iShe_in : Cond.code m_iShe.1 m_iShe.2.1 m_iShe.2.2.1 m_iShe.2.2.2 ∈ fwT := fwT_mem (List.mem_of_getElem? (i := 528) (by decide +kernel)) rfl
def k_iShe_0 : List fwO := [(.aload_n 0, 0, 0, .null)]
theorem k_iShe_0_ok : fwChain m_iShe.1.cls m_iShe.2.1 0 k_iShe_0 1 = true := by decide +kernel
theorem d_iShe_1 : decode m_iShe.2.1 1 = .ok (.invokespecial 3, 3) := by decide +kernel
def k_iShe_4 : List fwO := [(.aload_n 0, 0, 0, .null)]
theorem k_iShe_4_ok : fwChain m_iShe.1.cls m_iShe.2.1 4 k_iShe_4 5 = true := by decide +kernel
theorem d_iShe_5 : decode m_iShe.2.1 5 = .ok (.new 9, 3) := by decide +kernel
def k_iShe_8 : List fwO := [(.dup, 0, 0, .null)]
theorem k_iShe_8_ok : fwChain m_iShe.1.cls m_iShe.2.1 8 k_iShe_8 9 = true := by decide +kernel
theorem d_iShe_9 : decode m_iShe.2.1 9 = .ok (.invokespecial 11, 3) := by decide +kernel
theorem d_iShe_12 : decode m_iShe.2.1 12 = .ok (.putfield 12, 3) := by decide +kernel
def k_iShe_15 : List fwO := [(.aload_n 0, 0, 0, .null), (.ldc 18, 0, 0, .retAddr 0), (.bipush 10, 0, 0, .int 10)]
theorem k_iShe_15_ok : fwChain m_iShe.1.cls m_iShe.2.1 15 k_iShe_15 20 = true := by decide +kernel
theorem d_iShe_20 : decode m_iShe.2.1 20 = .ok (.invokestatic 20, 3) := by decide +kernel
theorem d_iShe_23 : decode m_iShe.2.1 23 = .ok (.putfield 24, 3) := by decide +kernel
def k_iShe_26 : List fwO := [(.aload_n 0, 0, 0, .null), (.bipush 127, 0, 0, .int 127)]
theorem k_iShe_26_ok : fwChain m_iShe.1.cls m_iShe.2.1 26 k_iShe_26 29 = true := by decide +kernel
theorem d_iShe_29 : decode m_iShe.2.1 29 = .ok (.newarray .int, 2) := by decide +kernel
theorem d_iShe_31 : decode m_iShe.2.1 31 = .ok (.putfield 28, 3) := by decide +kernel
def k_iShe_34 : List fwO := [(.aload_n 0, 0, 0, .null), (.iconst 2, 0, 0, .int 2)]
theorem k_iShe_34_ok : fwChain m_iShe.1.cls m_iShe.2.1 34 k_iShe_34 36 = true := by decide +kernel
theorem d_iShe_36 : decode m_iShe.2.1 36 = .ok (.newarray .int, 2) := by decide +kernel
theorem d_iShe_38 : decode m_iShe.2.1 38 = .ok (.putfield 32, 3) := by decide +kernel
def k_iShe_41 : List fwO := [(.aload_n 0, 0, 0, .null), (.iconst 2, 0, 0, .int 2)]
theorem k_iShe_41_ok : fwChain m_iShe.1.cls m_iShe.2.1 41 k_iShe_41 43 = true := by decide +kernel
theorem d_iShe_43 : decode m_iShe.2.1 43 = .ok (.newarray .int, 2) := by decide +kernel
theorem d_iShe_45 : decode m_iShe.2.1 45 = .ok (.putfield 35, 3) := by decide +kernel
def k_iShe_48 : List fwO := [(.aload_n 0, 0, 0, .null), (.bipush 36, 0, 0, .int 36)]
theorem k_iShe_48_ok : fwChain m_iShe.1.cls m_iShe.2.1 48 k_iShe_48 51 = true := by decide +kernel
theorem d_iShe_51 : decode m_iShe.2.1 51 = .ok (.newarray .int, 2) := by decide +kernel
theorem d_iShe_53 : decode m_iShe.2.1 53 = .ok (.putfield 38, 3) := by decide +kernel
def k_iShe_56 : List fwO := [(.aload_n 0, 0, 0, .null), (.bipush 36, 0, 0, .int 36)]
theorem k_iShe_56_ok : fwChain m_iShe.1.cls m_iShe.2.1 56 k_iShe_56 59 = true := by decide +kernel
theorem d_iShe_59 : decode m_iShe.2.1 59 = .ok (.newarray .int, 2) := by decide +kernel
theorem d_iShe_61 : decode m_iShe.2.1 61 = .ok (.putfield 41, 3) := by decide +kernel
def k_iShe_64 : List fwO := [(.aload_n 0, 0, 0, .null), (.aload_n 1, 0, 0, .null)]
theorem k_iShe_64_ok : fwChain m_iShe.1.cls m_iShe.2.1 64 k_iShe_64 66 = true := by decide +kernel
theorem d_iShe_66 : decode m_iShe.2.1 66 = .ok (.putfield 44, 3) := by decide +kernel
def k_iShe_69 : List fwO := [(.aload_n 0, 0, 0, .null), (.aload_n 1, 0, 0, .null), (.getfield 48, 7, 0, .retAddr 75)]
theorem k_iShe_69_ok : fwChain m_iShe.1.cls m_iShe.2.1 69 k_iShe_69 74 = true := by decide +kernel
theorem d_iShe_74 : decode m_iShe.2.1 74 = .ok (.putfield 54, 3) := by decide +kernel
def k_iShe_77 : List fwO := [(.aload_n 0, 0, 0, .null), (.aload_n 1, 0, 0, .null), (.getfield 55, 7, 1, .retAddr 77)]
theorem k_iShe_77_ok : fwChain m_iShe.1.cls m_iShe.2.1 77 k_iShe_77 82 = true := by decide +kernel
theorem d_iShe_82 : decode m_iShe.2.1 82 = .ok (.putfield 59, 3) := by decide +kernel
def k_iShe_85 : List fwO := [(.aload_n 0, 0, 0, .null), (.aload_n 1, 0, 0, .null), (.getfield 60, 7, 2, .retAddr 79)]
theorem k_iShe_85_ok : fwChain m_iShe.1.cls m_iShe.2.1 85 k_iShe_85 90 = true := by decide +kernel
theorem d_iShe_90 : decode m_iShe.2.1 90 = .ok (.putfield 64, 3) := by decide +kernel
def k_iShe_93 : List fwO := [(.aload_n 0, 0, 0, .null)]
theorem k_iShe_93_ok : fwChain m_iShe.1.cls m_iShe.2.1 93 k_iShe_93 94 = true := by decide +kernel
theorem d_iShe_94 : decode m_iShe.2.1 94 = .ok (.new 65, 3) := by decide +kernel
def k_iShe_97 : List fwO := [(.dup, 0, 0, .null), (.aload_n 0, 0, 0, .null), (.getfield 64, 10, 3, .retAddr 111)]
theorem k_iShe_97_ok : fwChain m_iShe.1.cls m_iShe.2.1 97 k_iShe_97 102 = true := by decide +kernel
theorem d_iShe_102 : decode m_iShe.2.1 102 = .ok (.invokespecial 67, 3) := by decide +kernel
theorem d_iShe_105 : decode m_iShe.2.1 105 = .ok (.putfield 70, 3) := by decide +kernel
theorem d_iShe_108 : decode m_iShe.2.1 108 = .ok (.return_, 1) := by decide +kernel
/-- MonitorBoard.capital(I)I -/
abbrev m_capital : fwM := (⟨"MonitorBoard", "capital", "(I)I"⟩, prog_1_method_27_code, 1, (some FieldType.int))
theorem m_capital_in : Cond.code m_capital.1 m_capital.2.1 m_capital.2.2.1 m_capital.2.2.2 ∈ fwT := fwT_mem (List.mem_of_getElem? (i := 723) (by decide +kernel)) rfl
def k_capital_0 : List fwO := [(.iload_n 0, 0, 0, .null), (.bipush 97, 0, 0, .int 97)]
theorem k_capital_0_ok : fwChain m_capital.1.cls m_capital.2.1 0 k_capital_0 3 = true := by decide +kernel
theorem d_capital_3 : decode m_capital.2.1 3 = .ok (.if_icmp .lt 16, 3) := by decide +kernel
def k_capital_6 : List fwO := [(.iload_n 0, 0, 0, .null), (.bipush 122, 0, 0, .int 122)]
theorem k_capital_6_ok : fwChain m_capital.1.cls m_capital.2.1 6 k_capital_6 9 = true := by decide +kernel
theorem d_capital_9 : decode m_capital.2.1 9 = .ok (.if_icmp .gt 10, 3) := by decide +kernel
def k_capital_12 : List fwO := [(.iload_n 0, 0, 0, .null), (.bipush 32, 0, 0, .int 32), (.isub, 0, 0, .null)]
theorem k_capital_12_ok : fwChain m_capital.1.cls m_capital.2.1 12 k_capital_12 16 = true := by decide +kernel
theorem d_capital_16 : decode m_capital.2.1 16 = .ok (.goto 4, 3) := by decide +kernel
def k_capital_19 : List fwO := [(.iload_n 0, 0, 0, .null)]
theorem k_capital_19_ok : fwChain m_capital.1.cls m_capital.2.1 19 k_capital_19 20 = true := by decide +kernel
theorem d_capital_20 : decode m_capital.2.1 20 = .ok (.ireturn, 1) := by decide +kernel
/-- MonitorBoard$Assembler.<init>([B[B)V -/
abbrev m_iAsm : fwM := (⟨"MonitorBoard$Assembler", "<init>", "([B[B)V"⟩, prog_2_method_1_code, 5, (none : Option FieldType))
theorem m_iAsm_in : Cond.code m_iAsm.1 m_iAsm.2.1 m_iAsm.2.2.1 m_iAsm.2.2.2 ∈ fwT := fwT_mem (List.mem_of_getElem? (i := 717) (by decide +kernel)) rfl
def k_iAsm_0 : List fwO := [(.aload_n 0, 0, 0, .null)]
theorem k_iAsm_0_ok : fwChain m_iAsm.1.cls m_iAsm.2.1 0 k_iAsm_0 1 = true := by decide +kernel
theorem d_iAsm_1 : decode m_iAsm.2.1 1 = .ok (.invokespecial 3, 3) := by decide +kernel
def k_iAsm_4 : List fwO := [(.aload_n 0, 0, 0, .null), (.ldc 11, 1, 0, .retAddr 1), (.bipush 84, 0, 0, .int 84)]
theorem k_iAsm_4_ok : fwChain m_iAsm.1.cls m_iAsm.2.1 4 k_iAsm_4 9 = true := by decide +kernel
theorem d_iAsm_9 : decode m_iAsm.2.1 9 = .ok (.invokestatic 13, 3) := by decide +kernel
theorem d_iAsm_12 : decode m_iAsm.2.1 12 = .ok (.putfield 17, 3) := by decide +kernel
def k_iAsm_15 : List fwO := [(.aload_n 0, 0, 0, .null), (.sipush 256, 0, 0, .int 256)]
theorem k_iAsm_15_ok : fwChain m_iAsm.1.cls m_iAsm.2.1 15 k_iAsm_15 19 = true := by decide +kernel
theorem d_iAsm_19 : decode m_iAsm.2.1 19 = .ok (.newarray .int, 2) := by decide +kernel
theorem d_iAsm_21 : decode m_iAsm.2.1 21 = .ok (.putfield 23, 3) := by decide +kernel
def k_iAsm_24 : List fwO := [(.aload_n 0, 0, 0, .null), (.bipush 100, 0, 0, .int 100)]
theorem k_iAsm_24_ok : fwChain m_iAsm.1.cls m_iAsm.2.1 24 k_iAsm_24 27 = true := by decide +kernel
theorem d_iAsm_27 : decode m_iAsm.2.1 27 = .ok (.newarray .long, 2) := by decide +kernel
theorem d_iAsm_29 : decode m_iAsm.2.1 29 = .ok (.putfield 27, 3) := by decide +kernel
def k_iAsm_32 : List fwO := [(.aload_n 0, 0, 0, .null), (.bipush 100, 0, 0, .int 100)]
theorem k_iAsm_32_ok : fwChain m_iAsm.1.cls m_iAsm.2.1 32 k_iAsm_32 35 = true := by decide +kernel
theorem d_iAsm_35 : decode m_iAsm.2.1 35 = .ok (.newarray .int, 2) := by decide +kernel
theorem d_iAsm_37 : decode m_iAsm.2.1 37 = .ok (.putfield 30, 3) := by decide +kernel
def k_iAsm_40 : List fwO := [(.aload_n 0, 0, 0, .null), (.sipush 300, 0, 0, .int 300)]
theorem k_iAsm_40_ok : fwChain m_iAsm.1.cls m_iAsm.2.1 40 k_iAsm_40 44 = true := by decide +kernel
theorem d_iAsm_44 : decode m_iAsm.2.1 44 = .ok (.newarray .int, 2) := by decide +kernel
theorem d_iAsm_46 : decode m_iAsm.2.1 46 = .ok (.putfield 33, 3) := by decide +kernel
def k_iAsm_49 : List fwO := [(.aload_n 0, 0, 0, .null), (.aload_n 1, 0, 0, .null)]
theorem k_iAsm_49_ok : fwChain m_iAsm.1.cls m_iAsm.2.1 49 k_iAsm_49 51 = true := by decide +kernel
theorem d_iAsm_51 : decode m_iAsm.2.1 51 = .ok (.putfield 36, 3) := by decide +kernel
def k_iAsm_54 : List fwO := [(.aload_n 0, 0, 0, .null), (.aload_n 2, 0, 0, .null)]
theorem k_iAsm_54_ok : fwChain m_iAsm.1.cls m_iAsm.2.1 54 k_iAsm_54 56 = true := by decide +kernel
theorem d_iAsm_56 : decode m_iAsm.2.1 56 = .ok (.putfield 40, 3) := by decide +kernel
def k_iAsm_59 : List fwO := [(.bipush 48, 0, 0, .int 48), (.istore_n 3, 0, 0, .null)]
theorem k_iAsm_59_ok : fwChain m_iAsm.1.cls m_iAsm.2.1 59 k_iAsm_59 62 = true := by decide +kernel
def k_iAsm_62 : List fwO := [(.iload_n 3, 0, 0, .null), (.bipush 122, 0, 0, .int 122)]
theorem k_iAsm_62_ok : fwChain m_iAsm.1.cls m_iAsm.2.1 62 k_iAsm_62 65 = true := by decide +kernel
theorem d_iAsm_65 : decode m_iAsm.2.1 65 = .ok (.if_icmp .gt 47, 3) := by decide +kernel
def k_iAsm_68 : List fwO := [(.iload_n 3, 0, 0, .null)]
theorem k_iAsm_68_ok : fwChain m_iAsm.1.cls m_iAsm.2.1 68 k_iAsm_68 69 = true := by decide +kernel
theorem d_iAsm_69 : decode m_iAsm.2.1 69 = .ok (.invokestatic 43, 3) := by decide +kernel
def k_iAsm_72 : List fwO := [(.istore 4, 0, 0, .null), (.aload_n 0, 0, 0, .null), (.getfield 23, 2, 3, .retAddr 130), (.iload_n 3, 0, 0, .null), (.iload_n 3, 0, 0, .null), (.bipush 57, 0, 0, .int 57)]
theorem k_iAsm_72_ok : fwChain m_iAsm.1.cls m_iAsm.2.1 72 k_iAsm_72 82 = true := by decide +kernel
theorem d_iAsm_82 : decode m_iAsm.2.1 82 = .ok (.if_icmp .le 17, 3) := by decide +kernel
def k_iAsm_85 : List fwO := [(.iload 4, 0, 0, .null), (.bipush 65, 0, 0, .int 65)]
theorem k_iAsm_85_ok : fwChain m_iAsm.1.cls m_iAsm.2.1 85 k_iAsm_85 89 = true := by decide +kernel
theorem d_iAsm_89 : decode m_iAsm.2.1 89 = .ok (.if_icmp .lt 15, 3) := by decide +kernel
def k_iAsm_92 : List fwO := [(.iload 4, 0, 0, .null), (.bipush 90, 0, 0, .int 90)]
theorem k_iAsm_92_ok : fwChain m_iAsm.1.cls m_iAsm.2.1 92 k_iAsm_92 96 = true := by decide +kernel
theorem d_iAsm_96 : decode m_iAsm.2.1 96 = .ok (.if_icmp .gt 8, 3) := by decide +kernel
def k_iAsm_99 : List fwO := [(.iload 4, 0, 0, .null)]
theorem k_iAsm_99_ok : fwChain m_iAsm.1.cls m_iAsm.2.1 99 k_iAsm_99 101 = true := by decide +kernel
theorem d_iAsm_101 : decode m_iAsm.2.1 101 = .ok (.goto 4, 3) := by decide +kernel
def k_iAsm_104 : List fwO := [(.iconst 0, 0, 0, .int 0)]
theorem k_iAsm_104_ok : fwChain m_iAsm.1.cls m_iAsm.2.1 104 k_iAsm_104 105 = true := by decide +kernel
def k_iAsm_105 : List fwO := [(.iastore, 0, 0, .null), (.iinc 3 1, 0, 0, .int 1)]
theorem k_iAsm_105_ok : fwChain m_iAsm.1.cls m_iAsm.2.1 105 k_iAsm_105 109 = true := by decide +kernel
theorem d_iAsm_109 : decode m_iAsm.2.1 109 = .ok (.goto (-47), 3) := by decide +kernel
theorem d_iAsm_112 : decode m_iAsm.2.1 112 = .ok (.return_, 1) := by decide +kernel
/-- MonitorBoard$Lister.<init>([B[B)V -/
abbrev m_iLis : fwM := (⟨"MonitorBoard$Lister", "<init>", "([B[B)V"⟩, prog_7_method_1_code, 3, (none : Option FieldType))
theorem m_iLis_in : Cond.code m_iLis.1 m_iLis.2.1 m_iLis.2.2.1 m_iLis.2.2.2 ∈ fwT := fwT_mem (List.mem_of_getElem? (i := 792) (by decide +kernel)) rfl
def k_iLis_0 : List fwO := [(.aload_n 0, 0, 0, .null)]
theorem k_iLis_0_ok : fwChain m_iLis.1.cls m_iLis.2.1 0 k_iLis_0 1 = true := by decide +kernel
theorem d_iLis_1 : decode m_iLis.2.1 1 = .ok (.invokespecial 3, 3) := by decide +kernel
def k_iLis_4 : List fwO := [(.aload_n 0, 0, 0, .null), (.aload_n 1, 0, 0, .null)]
theorem k_iLis_4_ok : fwChain m_iLis.1.cls m_iLis.2.1 4 k_iLis_4 6 = true := by decide +kernel
theorem d_iLis_6 : decode m_iLis.2.1 6 = .ok (.putfield 9, 3) := by decide +kernel
def k_iLis_9 : List fwO := [(.aload_n 0, 0, 0, .null), (.aload_n 2, 0, 0, .null)]
theorem k_iLis_9_ok : fwChain m_iLis.1.cls m_iLis.2.1 9 k_iLis_9 11 = true := by decide +kernel
theorem d_iLis_11 : decode m_iLis.2.1 11 = .ok (.putfield 15, 3) := by decide +kernel
theorem d_iLis_14 : decode m_iLis.2.1 14 = .ok (.return_, 1) := by decide +kernel
/-- MonitorBoard.<init>()V -/
abbrev m_iMB : fwM := (⟨"MonitorBoard", "<init>", "()V"⟩, prog_1_method_1_code, 1, (none : Option FieldType))
theorem m_iMB_in : Cond.code m_iMB.1 m_iMB.2.1 m_iMB.2.2.1 m_iMB.2.2.2 ∈ fwT := fwT_mem (List.mem_of_getElem? (i := 307) (by decide +kernel)) rfl
def k_iMB_0 : List fwO := [(.aload_n 0, 0, 0, .null)]
theorem k_iMB_0_ok : fwChain m_iMB.1.cls m_iMB.2.1 0 k_iMB_0 1 = true := by decide +kernel
theorem d_iMB_1 : decode m_iMB.2.1 1 = .ok (.invokespecial 3, 3) := by decide +kernel
def k_iMB_4 : List fwO := [(.aload_n 0, 0, 0, .null), (.sipush 4000, 0, 0, .int 4000)]
theorem k_iMB_4_ok : fwChain m_iMB.1.cls m_iMB.2.1 4 k_iMB_4 8 = true := by decide +kernel
theorem d_iMB_8 : decode m_iMB.2.1 8 = .ok (.newarray .byte, 2) := by decide +kernel
theorem d_iMB_10 : decode m_iMB.2.1 10 = .ok (.putfield 9, 3) := by decide +kernel
def k_iMB_13 : List fwO := [(.aload_n 0, 0, 0, .null), (.ldc 13, 0, 0, .int 58112)]
theorem k_iMB_13_ok : fwChain m_iMB.1.cls m_iMB.2.1 13 k_iMB_13 16 = true := by decide +kernel
theorem d_iMB_16 : decode m_iMB.2.1 16 = .ok (.newarray .byte, 2) := by decide +kernel
theorem d_iMB_18 : decode m_iMB.2.1 18 = .ok (.putfield 14, 3) := by decide +kernel
def k_iMB_21 : List fwO := [(.aload_n 0, 0, 0, .null), (.sipush 2000, 0, 0, .int 2000)]
theorem k_iMB_21_ok : fwChain m_iMB.1.cls m_iMB.2.1 21 k_iMB_21 25 = true := by decide +kernel
theorem d_iMB_25 : decode m_iMB.2.1 25 = .ok (.newarray .byte, 2) := by decide +kernel
theorem d_iMB_27 : decode m_iMB.2.1 27 = .ok (.putfield 17, 3) := by decide +kernel
def k_iMB_30 : List fwO := [(.aload_n 0, 0, 0, .null)]
theorem k_iMB_30_ok : fwChain m_iMB.1.cls m_iMB.2.1 30 k_iMB_30 31 = true := by decide +kernel
theorem d_iMB_31 : decode m_iMB.2.1 31 = .ok (.new 20, 3) := by decide +kernel
def k_iMB_34 : List fwO := [(.dup, 0, 0, .null)]
theorem k_iMB_34_ok : fwChain m_iMB.1.cls m_iMB.2.1 34 k_iMB_34 35 = true := by decide +kernel
theorem d_iMB_35 : decode m_iMB.2.1 35 = .ok (.invokespecial 22, 3) := by decide +kernel
theorem d_iMB_38 : decode m_iMB.2.1 38 = .ok (.putfield 23, 3) := by decide +kernel
def k_iMB_41 : List fwO := [(.aload_n 0, 0, 0, .null)]
theorem k_iMB_41_ok : fwChain m_iMB.1.cls m_iMB.2.1 41 k_iMB_41 42 = true := by decide +kernel
theorem d_iMB_42 : decode m_iMB.2.1 42 = .ok (.new 27, 3) := by decide +kernel
def k_iMB_45 : List fwO := [(.dup, 0, 0, .null), (.aload_n 0, 0, 0, .null), (.getfield 23, 0, 3, .retAddr 154)]
theorem k_iMB_45_ok : fwChain m_iMB.1.cls m_iMB.2.1 45 k_iMB_45 50 = true := by decide +kernel
theorem d_iMB_50 : decode m_iMB.2.1 50 = .ok (.invokespecial 29, 3) := by decide +kernel
theorem d_iMB_53 : decode m_iMB.2.1 53 = .ok (.putfield 32, 3) := by decide +kernel
def k_iMB_56 : List fwO := [(.aload_n 0, 0, 0, .null)]
theorem k_iMB_56_ok : fwChain m_iMB.1.cls m_iMB.2.1 56 k_iMB_56 57 = true := by decide +kernel
theorem d_iMB_57 : decode m_iMB.2.1 57 = .ok (.new 36, 3) := by decide +kernel
def k_iMB_60 : List fwO := [(.dup, 0, 0, .null)]
theorem k_iMB_60_ok : fwChain m_iMB.1.cls m_iMB.2.1 60 k_iMB_60 61 = true := by decide +kernel
theorem d_iMB_61 : decode m_iMB.2.1 61 = .ok (.invokespecial 38, 3) := by decide +kernel
theorem d_iMB_64 : decode m_iMB.2.1 64 = .ok (.putfield 39, 3) := by decide +kernel
def k_iMB_67 : List fwO := [(.aload_n 0, 0, 0, .null)]
theorem k_iMB_67_ok : fwChain m_iMB.1.cls m_iMB.2.1 67 k_iMB_67 68 = true := by decide +kernel
theorem d_iMB_68 : decode m_iMB.2.1 68 = .ok (.new 43, 3) := by decide +kernel
def k_iMB_71 : List fwO := [(.dup, 0, 0, .null), (.aload_n 0, 0, 0, .null), (.getfield 32, 0, 4, .retAddr 155), (.aload_n 0, 0, 0, .null), (.getfield 23, 0, 3, .retAddr 154), (.aload_n 0, 0, 0, .null), (.getfield 39, 0, 5, .retAddr 156)]
theorem k_iMB_71_ok : fwChain m_iMB.1.cls m_iMB.2.1 71 k_iMB_71 84 = true := by decide +kernel
theorem d_iMB_84 : decode m_iMB.2.1 84 = .ok (.invokespecial 45, 3) := by decide +kernel
theorem d_iMB_87 : decode m_iMB.2.1 87 = .ok (.putfield 48, 3) := by decide +kernel
def k_iMB_90 : List fwO := [(.aload_n 0, 0, 0, .null)]
theorem k_iMB_90_ok : fwChain m_iMB.1.cls m_iMB.2.1 90 k_iMB_90 91 = true := by decide +kernel
theorem d_iMB_91 : decode m_iMB.2.1 91 = .ok (.new 52, 3) := by decide +kernel
def k_iMB_94 : List fwO := [(.dup, 0, 0, .null), (.aload_n 0, 0, 0, .null), (.getfield 48, 0, 6, .retAddr 157)]
theorem k_iMB_94_ok : fwChain m_iMB.1.cls m_iMB.2.1 94 k_iMB_94 99 = true := by decide +kernel
theorem d_iMB_99 : decode m_iMB.2.1 99 = .ok (.invokespecial 54, 3) := by decide +kernel
theorem d_iMB_102 : decode m_iMB.2.1 102 = .ok (.putfield 57, 3) := by decide +kernel
def k_iMB_105 : List fwO := [(.aload_n 0, 0, 0, .null)]
theorem k_iMB_105_ok : fwChain m_iMB.1.cls m_iMB.2.1 105 k_iMB_105 106 = true := by decide +kernel
theorem d_iMB_106 : decode m_iMB.2.1 106 = .ok (.new 61, 3) := by decide +kernel
def k_iMB_109 : List fwO := [(.dup, 0, 0, .null), (.aload_n 0, 0, 0, .null), (.getfield 9, 0, 0, .retAddr 151), (.aload_n 0, 0, 0, .null), (.getfield 14, 0, 1, .retAddr 152)]
theorem k_iMB_109_ok : fwChain m_iMB.1.cls m_iMB.2.1 109 k_iMB_109 118 = true := by decide +kernel
theorem d_iMB_118 : decode m_iMB.2.1 118 = .ok (.invokespecial 63, 3) := by decide +kernel
theorem d_iMB_121 : decode m_iMB.2.1 121 = .ok (.putfield 66, 3) := by decide +kernel
def k_iMB_124 : List fwO := [(.aload_n 0, 0, 0, .null)]
theorem k_iMB_124_ok : fwChain m_iMB.1.cls m_iMB.2.1 124 k_iMB_124 125 = true := by decide +kernel
theorem d_iMB_125 : decode m_iMB.2.1 125 = .ok (.new 70, 3) := by decide +kernel
def k_iMB_128 : List fwO := [(.dup, 0, 0, .null), (.aload_n 0, 0, 0, .null), (.getfield 32, 0, 4, .retAddr 155), (.getfield 72, 8, 0, .retAddr 19), (.aload_n 0, 0, 0, .null), (.getfield 14, 0, 1, .retAddr 152)]
theorem k_iMB_128_ok : fwChain m_iMB.1.cls m_iMB.2.1 128 k_iMB_128 140 = true := by decide +kernel
theorem d_iMB_140 : decode m_iMB.2.1 140 = .ok (.invokespecial 75, 3) := by decide +kernel
theorem d_iMB_143 : decode m_iMB.2.1 143 = .ok (.putfield 76, 3) := by decide +kernel
def k_iMB_146 : List fwO := [(.aload_n 0, 0, 0, .null), (.getfield 48, 0, 6, .retAddr 157)]
theorem k_iMB_146_ok : fwChain m_iMB.1.cls m_iMB.2.1 146 k_iMB_146 150 = true := by decide +kernel
theorem d_iMB_150 : decode m_iMB.2.1 150 = .ok (.invokevirtual 80, 3) := by decide +kernel
theorem d_iMB_153 : decode m_iMB.2.1 153 = .ok (.return_, 1) := by decide +kernel
theorem c_iCon_1 : ∀ w ∈ ([(Cond.methodLink "MonitorBoard$Console" (3 : Nat) ({ cls := "java/lang/Object", name := "<init>", desc := "()V" } : MethodName)), (Cond.instanceMethod ({ cls := "java/lang/Object", name := "<init>", desc := "()V" } : MethodName)), (Cond.code ({ cls := "java/lang/Object", name := "<init>", desc := "()V" } : MethodName) object_method_1_code (1 : Nat) (Option.none : Option FieldType))] : List Cond), w ∈ fwT := fwT_all [317, 309, 310] (by decide +kernel) (by decide +kernel)
theorem c_iPro_1 : ∀ w ∈ ([(Cond.methodLink "MonitorBoard$Processor" (3 : Nat) ({ cls := "java/lang/Object", name := "<init>", desc := "()V" } : MethodName)), (Cond.instanceMethod ({ cls := "java/lang/Object", name := "<init>", desc := "()V" } : MethodName)), (Cond.code ({ cls := "java/lang/Object", name := "<init>", desc := "()V" } : MethodName) object_method_1_code (1 : Nat) (Option.none : Option FieldType))] : List Cond), w ∈ fwT := fwT_all [364, 309, 310] (by decide +kernel) (by decide +kernel)
theorem c_iFil_1 : ∀ w ∈ ([(Cond.methodLink "MonitorBoard$Files" (3 : Nat) ({ cls := "java/lang/Object", name := "<init>", desc := "()V" } : MethodName)), (Cond.instanceMethod ({ cls := "java/lang/Object", name := "<init>", desc := "()V" } : MethodName)), (Cond.code ({ cls := "java/lang/Object", name := "<init>", desc := "()V" } : MethodName) object_method_1_code (1 : Nat) (Option.none : Option FieldType))] : List Cond), w ∈ fwT := fwT_all [412, 309, 310] (by decide +kernel) (by decide +kernel)
theorem c_iFil_52 : ∀ w ∈ ([(Cond.methodLink "MonitorBoard$Files" (30 : Nat) ({ cls := "java/util/Arrays", name := "fill", desc := "([BB)V" } : MethodName)), (Cond.static ({ cls := "java/util/Arrays", name := "fill", desc := "([BB)V" } : MethodName)), (Cond.initialized "java/util/Arrays")] : List Cond), w ∈ fwT := fwT_all [414, 415, 286] (by decide +kernel) (by decide +kernel)
theorem c_iFil_82 : ∀ w ∈ ([(Cond.methodLink "MonitorBoard$Files" (36 : Nat) ({ cls := "MonitorBoard$Files", name := "sectorOf", desc := "(I)I" } : MethodName)), (Cond.static ({ cls := "MonitorBoard$Files", name := "sectorOf", desc := "(I)I" } : MethodName)), (Cond.initialized "MonitorBoard$Files")] : List Cond), w ∈ fwT := fwT_all [417, 418, 285] (by decide +kernel) (by decide +kernel)
theorem c_iFil_85 : ∀ w ∈ ([(Cond.methodLink "MonitorBoard$Files" (40 : Nat) ({ cls := "MonitorBoard$Files", name := "sectorPlace", desc := "(III)I" } : MethodName)), (Cond.static ({ cls := "MonitorBoard$Files", name := "sectorPlace", desc := "(III)I" } : MethodName)), (Cond.initialized "MonitorBoard$Files")] : List Cond), w ∈ fwT := fwT_all [420, 421, 285] (by decide +kernel) (by decide +kernel)
theorem c_iMon_1 : ∀ w ∈ ([(Cond.methodLink "MonitorBoard$Monitor" (5 : Nat) ({ cls := "java/lang/Object", name := "<init>", desc := "()V" } : MethodName)), (Cond.instanceMethod ({ cls := "java/lang/Object", name := "<init>", desc := "()V" } : MethodName)), (Cond.code ({ cls := "java/lang/Object", name := "<init>", desc := "()V" } : MethodName) object_method_1_code (1 : Nat) (Option.none : Option FieldType))] : List Cond), w ∈ fwT := fwT_all [491, 309, 310] (by decide +kernel) (by decide +kernel)
theorem c_iHex_1 : ∀ w ∈ ([(Cond.methodLink "MonitorBoard$HexText" (3 : Nat) ({ cls := "java/lang/Object", name := "<init>", desc := "()V" } : MethodName)), (Cond.instanceMethod ({ cls := "java/lang/Object", name := "<init>", desc := "()V" } : MethodName)), (Cond.code ({ cls := "java/lang/Object", name := "<init>", desc := "()V" } : MethodName) object_method_1_code (1 : Nat) (Option.none : Option FieldType))] : List Cond), w ∈ fwT := fwT_all [535, 309, 310] (by decide +kernel) (by decide +kernel)
theorem c_iRea_1 : ∀ w ∈ ([(Cond.methodLink "MonitorBoard$Reader" (3 : Nat) ({ cls := "java/lang/Object", name := "<init>", desc := "()V" } : MethodName)), (Cond.instanceMethod ({ cls := "java/lang/Object", name := "<init>", desc := "()V" } : MethodName)), (Cond.code ({ cls := "java/lang/Object", name := "<init>", desc := "()V" } : MethodName) object_method_1_code (1 : Nat) (Option.none : Option FieldType))] : List Cond), w ∈ fwT := fwT_all [627, 309, 310] (by decide +kernel) (by decide +kernel)
theorem c_packedWords_15 : ∀ w ∈ ([(Cond.methodLink "MonitorBoard" (226 : Nat) ({ cls := "java/lang/String", name := "length", desc := "()I" } : MethodName)), (Cond.instanceMethod ({ cls := "java/lang/String", name := "length", desc := "()I" } : MethodName)), (Cond.selects "java/lang/String" ({ cls := "java/lang/String", name := "length", desc := "()I" } : MethodName) ({ cls := "java/lang/String", name := "length", desc := "()I" } : MethodName)), (Cond.initialized "java/lang/String")] : List Cond), w ∈ fwT := fwT_all [570, 571, 572, 290] (by decide +kernel) (by decide +kernel)
theorem c_packedWords_29 : ∀ w ∈ ([(Cond.methodLink "MonitorBoard" (226 : Nat) ({ cls := "java/lang/String", name := "length", desc := "()I" } : MethodName)), (Cond.instanceMethod ({ cls := "java/lang/String", name := "length", desc := "()I" } : MethodName)), (Cond.selects "java/lang/String" ({ cls := "java/lang/String", name := "length", desc := "()I" } : MethodName) ({ cls := "java/lang/String", name := "length", desc := "()I" } : MethodName)), (Cond.initialized "java/lang/String")] : List Cond), w ∈ fwT := c_packedWords_15
theorem c_packedWords_38 : ∀ w ∈ ([(Cond.methodLink "MonitorBoard" (217 : Nat) ({ cls := "java/lang/String", name := "charAt", desc := "(I)C" } : MethodName)), (Cond.instanceMethod ({ cls := "java/lang/String", name := "charAt", desc := "(I)C" } : MethodName)), (Cond.selects "java/lang/String" ({ cls := "java/lang/String", name := "charAt", desc := "(I)C" } : MethodName) ({ cls := "java/lang/String", name := "charAt", desc := "(I)C" } : MethodName)), (Cond.initialized "java/lang/String")] : List Cond), w ∈ fwT := fwT_all [580, 581, 582, 290] (by decide +kernel) (by decide +kernel)
theorem c_packedWords_65 : ∀ w ∈ ([(Cond.methodLink "MonitorBoard" (217 : Nat) ({ cls := "java/lang/String", name := "charAt", desc := "(I)C" } : MethodName)), (Cond.instanceMethod ({ cls := "java/lang/String", name := "charAt", desc := "(I)C" } : MethodName)), (Cond.selects "java/lang/String" ({ cls := "java/lang/String", name := "charAt", desc := "(I)C" } : MethodName) ({ cls := "java/lang/String", name := "charAt", desc := "(I)C" } : MethodName)), (Cond.initialized "java/lang/String")] : List Cond), w ∈ fwT := c_packedWords_38
theorem c_packedWords_68 : ∀ w ∈ ([(Cond.methodLink "MonitorBoard" (232 : Nat) ({ cls := "MonitorBoard", name := "packed", desc := "(JI)J" } : MethodName)), (Cond.static ({ cls := "MonitorBoard", name := "packed", desc := "(JI)J" } : MethodName)), (Cond.initialized "MonitorBoard")] : List Cond), w ∈ fwT := fwT_all [618, 619, 282] (by decide +kernel) (by decide +kernel)
theorem c_iShe_1 : ∀ w ∈ ([(Cond.methodLink "MonitorBoard$Shell" (3 : Nat) ({ cls := "java/lang/Object", name := "<init>", desc := "()V" } : MethodName)), (Cond.instanceMethod ({ cls := "java/lang/Object", name := "<init>", desc := "()V" } : MethodName)), (Cond.code ({ cls := "java/lang/Object", name := "<init>", desc := "()V" } : MethodName) object_method_1_code (1 : Nat) (Option.none : Option FieldType))] : List Cond), w ∈ fwT := fwT_all [529, 309, 310] (by decide +kernel) (by decide +kernel)
theorem c_iShe_5 : ∀ w ∈ ([(Cond.classLink "MonitorBoard$Shell" (9 : Nat) "MonitorBoard$HexText"), (Cond.instantiable "MonitorBoard$HexText" (9 : Nat)), (Cond.initialized "MonitorBoard$HexText")] : List Cond), w ∈ fwT := fwT_all [530, 531, 289] (by decide +kernel) (by decide +kernel)
theorem c_iShe_9 : ∀ w ∈ ([(Cond.instanceMethod ({ cls := "MonitorBoard$HexText", name := "<init>", desc := "()V" } : MethodName)), (Cond.initialized "MonitorBoard$HexText")] : List Cond), w ∈ fwT := fwT_all [533, 289] (by decide +kernel) (by decide +kernel)
theorem c_iShe_20 : ∀ w ∈ ([(Cond.static ({ cls := "MonitorBoard", name := "packedWords", desc := "(Ljava/lang/String;I)[J" } : MethodName)), (Cond.initialized "MonitorBoard")] : List Cond), w ∈ fwT := fwT_all [568, 282] (by decide +kernel) (by decide +kernel)
theorem c_iShe_94 : ∀ w ∈ ([(Cond.classLink "MonitorBoard$Shell" (65 : Nat) "MonitorBoard$Reader"), (Cond.instantiable "MonitorBoard$Reader" (8 : Nat)), (Cond.initialized "MonitorBoard$Reader")] : List Cond), w ∈ fwT := fwT_all [622, 623, 294] (by decide +kernel) (by decide +kernel)
theorem c_iShe_102 : ∀ w ∈ ([(Cond.methodLink "MonitorBoard$Shell" (67 : Nat) ({ cls := "MonitorBoard$Reader", name := "<init>", desc := "(LMonitorBoard$Files;)V" } : MethodName)), (Cond.instanceMethod ({ cls := "MonitorBoard$Reader", name := "<init>", desc := "(LMonitorBoard$Files;)V" } : MethodName)), (Cond.initialized "MonitorBoard$Reader")] : List Cond), w ∈ fwT := fwT_all [624, 625, 294] (by decide +kernel) (by decide +kernel)
theorem c_iAsm_1 : ∀ w ∈ ([(Cond.methodLink "MonitorBoard$Assembler" (3 : Nat) ({ cls := "java/lang/Object", name := "<init>", desc := "()V" } : MethodName)), (Cond.instanceMethod ({ cls := "java/lang/Object", name := "<init>", desc := "()V" } : MethodName)), (Cond.code ({ cls := "java/lang/Object", name := "<init>", desc := "()V" } : MethodName) object_method_1_code (1 : Nat) (Option.none : Option FieldType))] : List Cond), w ∈ fwT := fwT_all [718, 309, 310] (by decide +kernel) (by decide +kernel)
theorem c_iAsm_9 : ∀ w ∈ ([(Cond.static ({ cls := "MonitorBoard", name := "packedWords", desc := "(Ljava/lang/String;I)[J" } : MethodName)), (Cond.initialized "MonitorBoard")] : List Cond), w ∈ fwT := c_iShe_20
theorem c_iAsm_69 : ∀ w ∈ ([(Cond.static ({ cls := "MonitorBoard", name := "capital", desc := "(I)I" } : MethodName)), (Cond.initialized "MonitorBoard")] : List Cond), w ∈ fwT := fwT_all [722, 282] (by decide +kernel) (by decide +kernel)
theorem c_iLis_1 : ∀ w ∈ ([(Cond.methodLink "MonitorBoard$Lister" (3 : Nat) ({ cls := "java/lang/Object", name := "<init>", desc := "()V" } : MethodName)), (Cond.instanceMethod ({ cls := "java/lang/Object", name := "<init>", desc := "()V" } : MethodName)), (Cond.code ({ cls := "java/lang/Object", name := "<init>", desc := "()V" } : MethodName) object_method_1_code (1 : Nat) (Option.none : Option FieldType))] : List Cond), w ∈ fwT := fwT_all [793, 309, 310] (by decide +kernel) (by decide +kernel)
theorem c_iMB_1 : ∀ w ∈ ([(Cond.methodLink "MonitorBoard" (3 : Nat) ({ cls := "java/lang/Object", name := "<init>", desc := "()V" } : MethodName)), (Cond.instanceMethod ({ cls := "java/lang/Object", name := "<init>", desc := "()V" } : MethodName)), (Cond.code ({ cls := "java/lang/Object", name := "<init>", desc := "()V" } : MethodName) object_method_1_code (1 : Nat) (Option.none : Option FieldType))] : List Cond), w ∈ fwT := fwT_all [308, 309, 310] (by decide +kernel) (by decide +kernel)
theorem c_iMB_31 : ∀ w ∈ ([(Cond.classLink "MonitorBoard" (20 : Nat) "MonitorBoard$Console"), (Cond.instantiable "MonitorBoard$Console" (10 : Nat)), (Cond.initialized "MonitorBoard$Console")] : List Cond), w ∈ fwT := fwT_all [312, 313, 283] (by decide +kernel) (by decide +kernel)
theorem c_iMB_35 : ∀ w ∈ ([(Cond.instanceMethod ({ cls := "MonitorBoard$Console", name := "<init>", desc := "()V" } : MethodName)), (Cond.initialized "MonitorBoard$Console")] : List Cond), w ∈ fwT := fwT_all [315, 283] (by decide +kernel) (by decide +kernel)
theorem c_iMB_42 : ∀ w ∈ ([(Cond.classLink "MonitorBoard" (27 : Nat) "MonitorBoard$Processor"), (Cond.instantiable "MonitorBoard$Processor" (8 : Nat)), (Cond.initialized "MonitorBoard$Processor")] : List Cond), w ∈ fwT := fwT_all [359, 360, 284] (by decide +kernel) (by decide +kernel)
theorem c_iMB_50 : ∀ w ∈ ([(Cond.methodLink "MonitorBoard" (29 : Nat) ({ cls := "MonitorBoard$Processor", name := "<init>", desc := "(LMonitorBoard$Console;)V" } : MethodName)), (Cond.instanceMethod ({ cls := "MonitorBoard$Processor", name := "<init>", desc := "(LMonitorBoard$Console;)V" } : MethodName)), (Cond.initialized "MonitorBoard$Processor")] : List Cond), w ∈ fwT := fwT_all [361, 362, 284] (by decide +kernel) (by decide +kernel)
theorem c_iMB_57 : ∀ w ∈ ([(Cond.classLink "MonitorBoard" (36 : Nat) "MonitorBoard$Files"), (Cond.instantiable "MonitorBoard$Files" (14 : Nat)), (Cond.initialized "MonitorBoard$Files")] : List Cond), w ∈ fwT := fwT_all [407, 408, 285] (by decide +kernel) (by decide +kernel)
theorem c_iMB_61 : ∀ w ∈ ([(Cond.methodLink "MonitorBoard" (38 : Nat) ({ cls := "MonitorBoard$Files", name := "<init>", desc := "()V" } : MethodName)), (Cond.instanceMethod ({ cls := "MonitorBoard$Files", name := "<init>", desc := "()V" } : MethodName)), (Cond.initialized "MonitorBoard$Files")] : List Cond), w ∈ fwT := fwT_all [409, 410, 285] (by decide +kernel) (by decide +kernel)
theorem c_iMB_68 : ∀ w ∈ ([(Cond.classLink "MonitorBoard" (43 : Nat) "MonitorBoard$Monitor"), (Cond.instantiable "MonitorBoard$Monitor" (8 : Nat)), (Cond.initialized "MonitorBoard$Monitor")] : List Cond), w ∈ fwT := fwT_all [486, 487, 287] (by decide +kernel) (by decide +kernel)
theorem c_iMB_84 : ∀ w ∈ ([(Cond.methodLink "MonitorBoard" (45 : Nat) ({ cls := "MonitorBoard$Monitor", name := "<init>", desc := "(LMonitorBoard$Processor;LMonitorBoard$Console;LMonitorBoard$Files;)V" } : MethodName)), (Cond.instanceMethod ({ cls := "MonitorBoard$Monitor", name := "<init>", desc := "(LMonitorBoard$Processor;LMonitorBoard$Console;LMonitorBoard$Files;)V" } : MethodName)), (Cond.initialized "MonitorBoard$Monitor")] : List Cond), w ∈ fwT := fwT_all [488, 489, 287] (by decide +kernel) (by decide +kernel)
theorem c_iMB_91 : ∀ w ∈ ([(Cond.classLink "MonitorBoard" (52 : Nat) "MonitorBoard$Shell"), (Cond.instantiable "MonitorBoard$Shell" (19 : Nat)), (Cond.initialized "MonitorBoard$Shell")] : List Cond), w ∈ fwT := fwT_all [524, 525, 288] (by decide +kernel) (by decide +kernel)
theorem c_iMB_99 : ∀ w ∈ ([(Cond.methodLink "MonitorBoard" (54 : Nat) ({ cls := "MonitorBoard$Shell", name := "<init>", desc := "(LMonitorBoard$Monitor;)V" } : MethodName)), (Cond.instanceMethod ({ cls := "MonitorBoard$Shell", name := "<init>", desc := "(LMonitorBoard$Monitor;)V" } : MethodName)), (Cond.initialized "MonitorBoard$Shell")] : List Cond), w ∈ fwT := fwT_all [526, 527, 288] (by decide +kernel) (by decide +kernel)
theorem c_iMB_106 : ∀ w ∈ ([(Cond.classLink "MonitorBoard" (61 : Nat) "MonitorBoard$Assembler"), (Cond.instantiable "MonitorBoard$Assembler" (21 : Nat)), (Cond.initialized "MonitorBoard$Assembler")] : List Cond), w ∈ fwT := fwT_all [713, 714, 295] (by decide +kernel) (by decide +kernel)
theorem c_iMB_118 : ∀ w ∈ ([(Cond.methodLink "MonitorBoard" (63 : Nat) ({ cls := "MonitorBoard$Assembler", name := "<init>", desc := "([B[B)V" } : MethodName)), (Cond.instanceMethod ({ cls := "MonitorBoard$Assembler", name := "<init>", desc := "([B[B)V" } : MethodName)), (Cond.initialized "MonitorBoard$Assembler")] : List Cond), w ∈ fwT := fwT_all [715, 716, 295] (by decide +kernel) (by decide +kernel)
theorem c_iMB_125 : ∀ w ∈ ([(Cond.classLink "MonitorBoard" (70 : Nat) "MonitorBoard$Lister"), (Cond.instantiable "MonitorBoard$Lister" (3 : Nat)), (Cond.initialized "MonitorBoard$Lister")] : List Cond), w ∈ fwT := fwT_all [788, 789, 296] (by decide +kernel) (by decide +kernel)
theorem c_iMB_140 : ∀ w ∈ ([(Cond.methodLink "MonitorBoard" (75 : Nat) ({ cls := "MonitorBoard$Lister", name := "<init>", desc := "([B[B)V" } : MethodName)), (Cond.instanceMethod ({ cls := "MonitorBoard$Lister", name := "<init>", desc := "([B[B)V" } : MethodName)), (Cond.initialized "MonitorBoard$Lister")] : List Cond), w ∈ fwT := fwT_all [790, 791, 296] (by decide +kernel) (by decide +kernel)
theorem c_iMB_150 : ∀ w ∈ ([(Cond.methodLink "MonitorBoard" (80 : Nat) ({ cls := "MonitorBoard$Monitor", name := "bootCold", desc := "()V" } : MethodName)), (Cond.instanceMethod ({ cls := "MonitorBoard$Monitor", name := "bootCold", desc := "()V" } : MethodName)), (Cond.selects "MonitorBoard$Monitor" ({ cls := "MonitorBoard$Monitor", name := "bootCold", desc := "()V" } : MethodName) ({ cls := "MonitorBoard$Monitor", name := "bootCold", desc := "()V" } : MethodName)), (Cond.initialized "MonitorBoard$Monitor")] : List Cond), w ∈ fwT := fwT_all [804, 805, 806, 287] (by decide +kernel) (by decide +kernel)
