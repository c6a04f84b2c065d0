/-! methods, their instructions, by program (wip/whole/methods.py) -/
/-- MonitorBoard$Lister.tell(I)V -/
abbrev m_lTell : fwM := (⟨"MonitorBoard$Lister", "tell", "(I)V"⟩, prog_7_method_4_code, 2, (none : Option FieldType))
theorem m_lTell_in : Cond.code m_lTell.1 m_lTell.2.1 m_lTell.2.2.1 m_lTell.2.2.2 ∈ fwT := fwT_mem (List.mem_of_getElem? (i := 1882) (by decide +kernel)) rfl
def k_lTell_0 : List fwO := [(.aload_n 0, 0, 0, .null), (.getfield 18, 6, 2, .retAddr 150), (.aload_n 0, 0, 0, .null), (.getfield 15, 6, 1, .retAddr 149), (.arraylength, 0, 0, .null)]
theorem k_lTell_0_ok : fwChain m_lTell.1.cls m_lTell.2.1 0 k_lTell_0 9 = true := by decide +kernel
theorem d_lTell_9 : decode m_lTell.2.1 9 = .ok (.if_icmp .ge 24, 3) := by decide +kernel
def k_lTell_12 : List fwO := [(.aload_n 0, 0, 0, .null), (.getfield 15, 6, 1, .retAddr 149), (.aload_n 0, 0, 0, .null), (.getfield 18, 6, 2, .retAddr 150), (.iload_n 1, 0, 0, .null), (.i2b, 0, 0, .null), (.bastore, 0, 0, .null), (.aload_n 0, 0, 0, .null), (.dup, 0, 0, .null), (.getfield 18, 6, 2, .retAddr 150), (.iconst 1, 0, 0, .int 1), (.iadd, 0, 0, .null), (.putfield 18, 6, 2, .retAddr 150)]
theorem k_lTell_12_ok : fwChain m_lTell.1.cls m_lTell.2.1 12 k_lTell_12 33 = true := by decide +kernel
theorem d_lTell_33 : decode m_lTell.2.1 33 = .ok (.return_, 1) := by decide +kernel
/-- MonitorBoard$Lister.peek(I)I -/
abbrev m_lPeek : fwM := (⟨"MonitorBoard$Lister", "peek", "(I)I"⟩, prog_7_method_3_code, 2, (some FieldType.int))
theorem m_lPeek_in : Cond.code m_lPeek.1 m_lPeek.2.1 m_lPeek.2.2.1 m_lPeek.2.2.2 ∈ fwT := fwT_mem (List.mem_of_getElem? (i := 1862) (by decide +kernel)) rfl
def k_lPeek_0 : List fwO := [(.aload_n 0, 0, 0, .null), (.getfield 9, 6, 0, .retAddr 148), (.iload_n 1, 0, 0, .null), (.ldc 46, 32, 0, .int 65535), (.iand, 0, 0, .null), (.baload, 0, 0, .null), (.sipush 255, 0, 0, .int 255), (.iand, 0, 0, .null)]
theorem k_lPeek_0_ok : fwChain m_lPeek.1.cls m_lPeek.2.1 0 k_lPeek_0 13 = true := by decide +kernel
theorem d_lPeek_13 : decode m_lPeek.2.1 13 = .ok (.ireturn, 1) := by decide +kernel
/-- MonitorBoard$Lister.tellNameAt(I)V -/
abbrev m_lNameAt : fwM := (⟨"MonitorBoard$Lister", "tellNameAt", "(I)V"⟩, prog_7_method_7_code, 4, (none : Option FieldType))
theorem m_lNameAt_in : Cond.code m_lNameAt.1 m_lNameAt.2.1 m_lNameAt.2.2.1 m_lNameAt.2.2.2 ∈ fwT := fwT_mem (List.mem_of_getElem? (i := 1875) (by decide +kernel)) rfl
def k_lNameAt_0 : List fwO := [(.iconst 0, 0, 0, .int 0), (.istore_n 2, 0, 0, .null), (.iconst 0, 0, 0, .int 0), (.istore_n 3, 0, 0, .null)]
theorem k_lNameAt_0_ok : fwChain m_lNameAt.1.cls m_lNameAt.2.1 0 k_lNameAt_0 4 = true := by decide +kernel
def k_lNameAt_4 : List fwO := [(.iload_n 3, 0, 0, .null), (.iload_n 1, 0, 0, .null)]
theorem k_lNameAt_4_ok : fwChain m_lNameAt.1.cls m_lNameAt.2.1 4 k_lNameAt_4 6 = true := by decide +kernel
theorem d_lNameAt_6 : decode m_lNameAt.2.1 6 = .ok (.if_icmp .ge 37, 3) := by decide +kernel
def k_lNameAt_9 : List fwO := [(.iload_n 2, 0, 0, .null), (.ldc 78, 23, 0, .retAddr 1)]
theorem k_lNameAt_9_ok : fwChain m_lNameAt.1.cls m_lNameAt.2.1 9 k_lNameAt_9 12 = true := by decide +kernel
theorem d_lNameAt_12 : decode m_lNameAt.2.1 12 = .ok (.invokevirtual 47, 3) := by decide +kernel
theorem d_lNameAt_15 : decode m_lNameAt.2.1 15 = .ok (.if_icmp .ge 28, 3) := by decide +kernel
def k_lNameAt_18 : List fwO := [(.iload_n 3, 0, 0, .null), (.ldc 78, 23, 0, .retAddr 1), (.iload_n 2, 0, 0, .null)]
theorem k_lNameAt_18_ok : fwChain m_lNameAt.1.cls m_lNameAt.2.1 18 k_lNameAt_18 22 = true := by decide +kernel
theorem d_lNameAt_22 : decode m_lNameAt.2.1 22 = .ok (.invokevirtual 53, 3) := by decide +kernel
def k_lNameAt_25 : List fwO := [(.bipush 32, 0, 0, .int 32)]
theorem k_lNameAt_25_ok : fwChain m_lNameAt.1.cls m_lNameAt.2.1 25 k_lNameAt_25 27 = true := by decide +kernel
theorem d_lNameAt_27 : decode m_lNameAt.2.1 27 = .ok (.if_icmp .ne 7, 3) := by decide +kernel
def k_lNameAt_30 : List fwO := [(.iconst 1, 0, 0, .int 1)]
theorem k_lNameAt_30_ok : fwChain m_lNameAt.1.cls m_lNameAt.2.1 30 k_lNameAt_30 31 = true := by decide +kernel
theorem d_lNameAt_31 : decode m_lNameAt.2.1 31 = .ok (.goto 4, 3) := by decide +kernel
def k_lNameAt_34 : List fwO := [(.iconst 0, 0, 0, .int 0)]
theorem k_lNameAt_34_ok : fwChain m_lNameAt.1.cls m_lNameAt.2.1 34 k_lNameAt_34 35 = true := by decide +kernel
def k_lNameAt_35 : List fwO := [(.iadd, 0, 0, .null), (.istore_n 3, 0, 0, .null), (.iinc 2 1, 0, 0, .int 1)]
theorem k_lNameAt_35_ok : fwChain m_lNameAt.1.cls m_lNameAt.2.1 35 k_lNameAt_35 40 = true := by decide +kernel
theorem d_lNameAt_40 : decode m_lNameAt.2.1 40 = .ok (.goto (-36), 3) := by decide +kernel
def k_lNameAt_43 : List fwO := [(.iload_n 2, 0, 0, .null), (.ldc 78, 23, 0, .retAddr 1)]
theorem k_lNameAt_43_ok : fwChain m_lNameAt.1.cls m_lNameAt.2.1 43 k_lNameAt_43 46 = true := by decide +kernel
theorem d_lNameAt_46 : decode m_lNameAt.2.1 46 = .ok (.invokevirtual 47, 3) := by decide +kernel
theorem d_lNameAt_49 : decode m_lNameAt.2.1 49 = .ok (.if_icmp .ge 30, 3) := by decide +kernel
def k_lNameAt_52 : List fwO := [(.ldc 78, 23, 0, .retAddr 1), (.iload_n 2, 0, 0, .null)]
theorem k_lNameAt_52_ok : fwChain m_lNameAt.1.cls m_lNameAt.2.1 52 k_lNameAt_52 55 = true := by decide +kernel
theorem d_lNameAt_55 : decode m_lNameAt.2.1 55 = .ok (.invokevirtual 53, 3) := by decide +kernel
def k_lNameAt_58 : List fwO := [(.bipush 32, 0, 0, .int 32)]
theorem k_lNameAt_58_ok : fwChain m_lNameAt.1.cls m_lNameAt.2.1 58 k_lNameAt_58 60 = true := by decide +kernel
theorem d_lNameAt_60 : decode m_lNameAt.2.1 60 = .ok (.if_icmp .eq 19, 3) := by decide +kernel
def k_lNameAt_63 : List fwO := [(.aload_n 0, 0, 0, .null), (.ldc 78, 23, 0, .retAddr 1), (.iload_n 2, 0, 0, .null)]
theorem k_lNameAt_63_ok : fwChain m_lNameAt.1.cls m_lNameAt.2.1 63 k_lNameAt_63 67 = true := by decide +kernel
theorem d_lNameAt_67 : decode m_lNameAt.2.1 67 = .ok (.invokevirtual 53, 3) := by decide +kernel
theorem d_lNameAt_70 : decode m_lNameAt.2.1 70 = .ok (.invokevirtual 33, 3) := by decide +kernel
def k_lNameAt_73 : List fwO := [(.iinc 2 1, 0, 0, .int 1)]
theorem k_lNameAt_73_ok : fwChain m_lNameAt.1.cls m_lNameAt.2.1 73 k_lNameAt_73 76 = true := by decide +kernel
theorem d_lNameAt_76 : decode m_lNameAt.2.1 76 = .ok (.goto (-33), 3) := by decide +kernel
theorem d_lNameAt_79 : decode m_lNameAt.2.1 79 = .ok (.return_, 1) := by decide +kernel
/-- MonitorBoard$Lister.tellName(I)I -/
abbrev m_lName : fwM := (⟨"MonitorBoard$Lister", "tellName", "(I)I"⟩, prog_7_method_6_code, 4, (some FieldType.int))
theorem m_lName_in : Cond.code m_lName.1 m_lName.2.1 m_lName.2.2.1 m_lName.2.2.2 ∈ fwT := fwT_mem (List.mem_of_getElem? (i := 1867) (by decide +kernel)) rfl
def k_lName_0 : List fwO := [(.iconst 0, 0, 0, .int 0), (.istore_n 2, 0, 0, .null)]
theorem k_lName_0_ok : fwChain m_lName.1.cls m_lName.2.1 0 k_lName_0 2 = true := by decide +kernel
def k_lName_2 : List fwO := [(.iload_n 2, 0, 0, .null), (.bipush 84, 0, 0, .int 84)]
theorem k_lName_2_ok : fwChain m_lName.1.cls m_lName.2.1 2 k_lName_2 5 = true := by decide +kernel
theorem d_lName_5 : decode m_lName.2.1 5 = .ok (.if_icmp .ge 57, 3) := by decide +kernel
def k_lName_8 : List fwO := [(.getstatic 59, 4, 1, .retAddr 52), (.iload_n 2, 0, 0, .null), (.iaload, 0, 0, .null), (.bipush 12, 0, 0, .int 12)]
theorem k_lName_8_ok : fwChain m_lName.1.cls m_lName.2.1 8 k_lName_8 15 = true := by decide +kernel
theorem d_lName_15 : decode m_lName.2.1 15 = .ok (.if_icmp .ge 47, 3) := by decide +kernel
def k_lName_18 : List fwO := [(.getstatic 59, 4, 1, .retAddr 52), (.iload_n 2, 0, 0, .null), (.iaload, 0, 0, .null), (.istore_n 3, 0, 0, .null), (.iload_n 1, 0, 0, .null), (.getstatic 63, 5, 2, .retAddr 53), (.iload_n 3, 0, 0, .null), (.iaload, 0, 0, .null), (.iand, 0, 0, .null), (.getstatic 66, 6, 0, .retAddr 51), (.iload_n 2, 0, 0, .null), (.iaload, 0, 0, .null)]
theorem k_lName_18_ok : fwChain m_lName.1.cls m_lName.2.1 18 k_lName_18 36 = true := by decide +kernel
theorem d_lName_36 : decode m_lName.2.1 36 = .ok (.if_icmp .ne 20, 3) := by decide +kernel
def k_lName_39 : List fwO := [(.aload_n 0, 0, 0, .null), (.iload_n 2, 0, 0, .null)]
theorem k_lName_39_ok : fwChain m_lName.1.cls m_lName.2.1 39 k_lName_39 41 = true := by decide +kernel
theorem d_lName_41 : decode m_lName.2.1 41 = .ok (.invokevirtual 69, 3) := by decide +kernel
def k_lName_44 : List fwO := [(.iload_n 3, 0, 0, .null)]
theorem k_lName_44_ok : fwChain m_lName.1.cls m_lName.2.1 44 k_lName_44 45 = true := by decide +kernel
theorem d_lName_45 : decode m_lName.2.1 45 = .ok (.ifCond .eq 9, 3) := by decide +kernel
def k_lName_48 : List fwO := [(.aload_n 0, 0, 0, .null), (.bipush 32, 0, 0, .int 32)]
theorem k_lName_48_ok : fwChain m_lName.1.cls m_lName.2.1 48 k_lName_48 51 = true := by decide +kernel
theorem d_lName_51 : decode m_lName.2.1 51 = .ok (.invokevirtual 33, 3) := by decide +kernel
def k_lName_54 : List fwO := [(.iload_n 3, 0, 0, .null)]
theorem k_lName_54_ok : fwChain m_lName.1.cls m_lName.2.1 54 k_lName_54 55 = true := by decide +kernel
theorem d_lName_55 : decode m_lName.2.1 55 = .ok (.ireturn, 1) := by decide +kernel
def k_lName_56 : List fwO := [(.iinc 2 1, 0, 0, .int 1)]
theorem k_lName_56_ok : fwChain m_lName.1.cls m_lName.2.1 56 k_lName_56 59 = true := by decide +kernel
theorem d_lName_59 : decode m_lName.2.1 59 = .ok (.goto (-57), 3) := by decide +kernel
def k_lName_62 : List fwO := [(.aload_n 0, 0, 0, .null), (.ldc 72, 24, 0, .retAddr 21)]
theorem k_lName_62_ok : fwChain m_lName.1.cls m_lName.2.1 62 k_lName_62 65 = true := by decide +kernel
theorem d_lName_65 : decode m_lName.2.1 65 = .ok (.invokevirtual 74, 3) := by decide +kernel
def k_lName_68 : List fwO := [(.bipush 14, 0, 0, .int 14)]
theorem k_lName_68_ok : fwChain m_lName.1.cls m_lName.2.1 68 k_lName_68 70 = true := by decide +kernel
theorem d_lName_70 : decode m_lName.2.1 70 = .ok (.ireturn, 1) := by decide +kernel
/-- MonitorBoard$Lister.tellRegister(I)V -/
abbrev m_lReg : fwM := (⟨"MonitorBoard$Lister", "tellRegister", "(I)V"⟩, prog_7_method_8_code, 2, (none : Option FieldType))
theorem m_lReg_in : Cond.code m_lReg.1 m_lReg.2.1 m_lReg.2.2.1 m_lReg.2.2.2 ∈ fwT := fwT_mem (List.mem_of_getElem? (i := 1891) (by decide +kernel)) rfl
def k_lReg_0 : List fwO := [(.aload_n 0, 0, 0, .null), (.ldc 80, 25, 0, .retAddr 19), (.iload_n 1, 0, 0, .null), (.bipush 7, 0, 0, .int 7), (.iand, 0, 0, .null)]
theorem k_lReg_0_ok : fwChain m_lReg.1.cls m_lReg.2.1 0 k_lReg_0 7 = true := by decide +kernel
theorem d_lReg_7 : decode m_lReg.2.1 7 = .ok (.invokevirtual 53, 3) := by decide +kernel
theorem d_lReg_10 : decode m_lReg.2.1 10 = .ok (.invokevirtual 33, 3) := by decide +kernel
theorem d_lReg_13 : decode m_lReg.2.1 13 = .ok (.return_, 1) := by decide +kernel
/-- MonitorBoard$Lister.tellPair(II)V -/
abbrev m_lPair : fwM := (⟨"MonitorBoard$Lister", "tellPair", "(II)V"⟩, prog_7_method_9_code, 3, (none : Option FieldType))
theorem m_lPair_in : Cond.code m_lPair.1 m_lPair.2.1 m_lPair.2.2.1 m_lPair.2.2.2 ∈ fwT := fwT_mem (List.mem_of_getElem? (i := 1905) (by decide +kernel)) rfl
def k_lPair_0 : List fwO := [(.iload_n 2, 0, 0, .null), (.iconst 3, 0, 0, .int 3)]
theorem k_lPair_0_ok : fwChain m_lPair.1.cls m_lPair.2.1 0 k_lPair_0 2 = true := by decide +kernel
theorem d_lPair_2 : decode m_lPair.2.1 2 = .ok (.if_icmp .ge 16, 3) := by decide +kernel
def k_lPair_5 : List fwO := [(.aload_n 0, 0, 0, .null), (.ldc 82, 27, 0, .retAddr 20), (.iload_n 2, 0, 0, .null)]
theorem k_lPair_5_ok : fwChain m_lPair.1.cls m_lPair.2.1 5 k_lPair_5 9 = true := by decide +kernel
theorem d_lPair_9 : decode m_lPair.2.1 9 = .ok (.invokevirtual 53, 3) := by decide +kernel
theorem d_lPair_12 : decode m_lPair.2.1 12 = .ok (.invokevirtual 33, 3) := by decide +kernel
theorem d_lPair_15 : decode m_lPair.2.1 15 = .ok (.goto 20, 3) := by decide +kernel
def k_lPair_18 : List fwO := [(.aload_n 0, 0, 0, .null), (.iload_n 1, 0, 0, .null), (.bipush 11, 0, 0, .int 11)]
theorem k_lPair_18_ok : fwChain m_lPair.1.cls m_lPair.2.1 18 k_lPair_18 22 = true := by decide +kernel
theorem d_lPair_22 : decode m_lPair.2.1 22 = .ok (.if_icmp .ne 8, 3) := by decide +kernel
def k_lPair_25 : List fwO := [(.ldc 84, 28, 0, .retAddr 22)]
theorem k_lPair_25_ok : fwChain m_lPair.1.cls m_lPair.2.1 25 k_lPair_25 27 = true := by decide +kernel
theorem d_lPair_27 : decode m_lPair.2.1 27 = .ok (.goto 5, 3) := by decide +kernel
def k_lPair_30 : List fwO := [(.ldc 86, 29, 0, .retAddr 23)]
theorem k_lPair_30_ok : fwChain m_lPair.1.cls m_lPair.2.1 30 k_lPair_30 32 = true := by decide +kernel
theorem d_lPair_32 : decode m_lPair.2.1 32 = .ok (.invokevirtual 74, 3) := by decide +kernel
theorem d_lPair_35 : decode m_lPair.2.1 35 = .ok (.return_, 1) := by decide +kernel
/-- MonitorBoard$Lister.tellHex(II)V -/
abbrev m_lHex : fwM := (⟨"MonitorBoard$Lister", "tellHex", "(II)V"⟩, prog_7_method_12_code, 4, (none : Option FieldType))
theorem m_lHex_in : Cond.code m_lHex.1 m_lHex.2.1 m_lHex.2.2.1 m_lHex.2.2.2 ∈ fwT := fwT_mem (List.mem_of_getElem? (i := 1900) (by decide +kernel)) rfl
def k_lHex_0 : List fwO := [(.iload_n 1, 0, 0, .null), (.iload_n 2, 0, 0, .null), (.ishr, 0, 0, .null), (.bipush 15, 0, 0, .int 15), (.iand, 0, 0, .null), (.bipush 9, 0, 0, .int 9)]
theorem k_lHex_0_ok : fwChain m_lHex.1.cls m_lHex.2.1 0 k_lHex_0 8 = true := by decide +kernel
theorem d_lHex_8 : decode m_lHex.2.1 8 = .ok (.if_icmp .le 9, 3) := by decide +kernel
def k_lHex_11 : List fwO := [(.aload_n 0, 0, 0, .null), (.bipush 48, 0, 0, .int 48)]
theorem k_lHex_11_ok : fwChain m_lHex.1.cls m_lHex.2.1 11 k_lHex_11 14 = true := by decide +kernel
theorem d_lHex_14 : decode m_lHex.2.1 14 = .ok (.invokevirtual 33, 3) := by decide +kernel
def k_lHex_17 : List fwO := [(.iload_n 2, 0, 0, .null), (.istore_n 3, 0, 0, .null)]
theorem k_lHex_17_ok : fwChain m_lHex.1.cls m_lHex.2.1 17 k_lHex_17 19 = true := by decide +kernel
def k_lHex_19 : List fwO := [(.iload_n 3, 0, 0, .null)]
theorem k_lHex_19_ok : fwChain m_lHex.1.cls m_lHex.2.1 19 k_lHex_19 20 = true := by decide +kernel
theorem d_lHex_20 : decode m_lHex.2.1 20 = .ok (.ifCond .lt 24, 3) := by decide +kernel
def k_lHex_23 : List fwO := [(.aload_n 0, 0, 0, .null), (.ldc 91, 26, 0, .retAddr 7), (.iload_n 1, 0, 0, .null), (.iload_n 3, 0, 0, .null), (.ishr, 0, 0, .null), (.bipush 15, 0, 0, .int 15), (.iand, 0, 0, .null)]
theorem k_lHex_23_ok : fwChain m_lHex.1.cls m_lHex.2.1 23 k_lHex_23 32 = true := by decide +kernel
theorem d_lHex_32 : decode m_lHex.2.1 32 = .ok (.invokevirtual 53, 3) := by decide +kernel
theorem d_lHex_35 : decode m_lHex.2.1 35 = .ok (.invokevirtual 33, 3) := by decide +kernel
def k_lHex_38 : List fwO := [(.iinc 3 (-4), 0, 0, .int (-4))]
theorem k_lHex_38_ok : fwChain m_lHex.1.cls m_lHex.2.1 38 k_lHex_38 41 = true := by decide +kernel
theorem d_lHex_41 : decode m_lHex.2.1 41 = .ok (.goto (-22), 3) := by decide +kernel
def k_lHex_44 : List fwO := [(.aload_n 0, 0, 0, .null), (.bipush 72, 0, 0, .int 72)]
theorem k_lHex_44_ok : fwChain m_lHex.1.cls m_lHex.2.1 44 k_lHex_44 47 = true := by decide +kernel
theorem d_lHex_47 : decode m_lHex.2.1 47 = .ok (.invokevirtual 33, 3) := by decide +kernel
theorem d_lHex_50 : decode m_lHex.2.1 50 = .ok (.return_, 1) := by decide +kernel
/-- MonitorBoard$Lister.tellByte(I)V -/
abbrev m_lByte : fwM := (⟨"MonitorBoard$Lister", "tellByte", "(I)V"⟩, prog_7_method_10_code, 2, (none : Option FieldType))
theorem m_lByte_in : Cond.code m_lByte.1 m_lByte.2.1 m_lByte.2.2.1 m_lByte.2.2.2 ∈ fwT := fwT_mem (List.mem_of_getElem? (i := 1896) (by decide +kernel)) rfl
def k_lByte_0 : List fwO := [(.aload_n 0, 0, 0, .null), (.iload_n 1, 0, 0, .null), (.iconst 4, 0, 0, .int 4)]
theorem k_lByte_0_ok : fwChain m_lByte.1.cls m_lByte.2.1 0 k_lByte_0 3 = true := by decide +kernel
theorem d_lByte_3 : decode m_lByte.2.1 3 = .ok (.invokevirtual 88, 3) := by decide +kernel
theorem d_lByte_6 : decode m_lByte.2.1 6 = .ok (.return_, 1) := by decide +kernel
/-- MonitorBoard$Lister.tellWord(I)V -/
abbrev m_lWord : fwM := (⟨"MonitorBoard$Lister", "tellWord", "(I)V"⟩, prog_7_method_11_code, 2, (none : Option FieldType))
theorem m_lWord_in : Cond.code m_lWord.1 m_lWord.2.1 m_lWord.2.2.1 m_lWord.2.2.2 ∈ fwT := fwT_mem (List.mem_of_getElem? (i := 1912) (by decide +kernel)) rfl
def k_lWord_0 : List fwO := [(.aload_n 0, 0, 0, .null), (.aload_n 0, 0, 0, .null), (.iload_n 1, 0, 0, .null)]
theorem k_lWord_0_ok : fwChain m_lWord.1.cls m_lWord.2.1 0 k_lWord_0 3 = true := by decide +kernel
theorem d_lWord_3 : decode m_lWord.2.1 3 = .ok (.invokevirtual 22, 3) := by decide +kernel
def k_lWord_6 : List fwO := [(.aload_n 0, 0, 0, .null), (.iload_n 1, 0, 0, .null), (.iconst 1, 0, 0, .int 1), (.iadd, 0, 0, .null)]
theorem k_lWord_6_ok : fwChain m_lWord.1.cls m_lWord.2.1 6 k_lWord_6 10 = true := by decide +kernel
theorem d_lWord_10 : decode m_lWord.2.1 10 = .ok (.invokevirtual 22, 3) := by decide +kernel
def k_lWord_13 : List fwO := [(.bipush 8, 0, 0, .int 8), (.ishl, 0, 0, .null), (.ior, 0, 0, .null), (.bipush 12, 0, 0, .int 12)]
theorem k_lWord_13_ok : fwChain m_lWord.1.cls m_lWord.2.1 13 k_lWord_13 19 = true := by decide +kernel
theorem d_lWord_19 : decode m_lWord.2.1 19 = .ok (.invokevirtual 88, 3) := by decide +kernel
theorem d_lWord_22 : decode m_lWord.2.1 22 = .ok (.return_, 1) := by decide +kernel
/-- MonitorBoard$Lister.tellCode(I)I -/
abbrev m_lCode : fwM := (⟨"MonitorBoard$Lister", "tellCode", "(I)I"⟩, prog_7_method_2_code, 4, (some FieldType.int))
theorem m_lCode_in : Cond.code m_lCode.1 m_lCode.2.1 m_lCode.2.2.1 m_lCode.2.2.2 ∈ fwT := fwT_mem (List.mem_of_getElem? (i := 1858) (by decide +kernel)) rfl
def k_lCode_0 : List fwO := [(.aload_n 0, 0, 0, .null), (.iconst 0, 0, 0, .int 0), (.putfield 18, 6, 2, .retAddr 150), (.aload_n 0, 0, 0, .null), (.iload_n 1, 0, 0, .null)]
theorem k_lCode_0_ok : fwChain m_lCode.1.cls m_lCode.2.1 0 k_lCode_0 7 = true := by decide +kernel
theorem d_lCode_7 : decode m_lCode.2.1 7 = .ok (.invokevirtual 22, 3) := by decide +kernel
def k_lCode_10 : List fwO := [(.istore_n 2, 0, 0, .null), (.aload_n 0, 0, 0, .null), (.iload_n 2, 0, 0, .null)]
theorem k_lCode_10_ok : fwChain m_lCode.1.cls m_lCode.2.1 10 k_lCode_10 13 = true := by decide +kernel
theorem d_lCode_13 : decode m_lCode.2.1 13 = .ok (.invokevirtual 26, 3) := by decide +kernel
def k_lCode_16 : List fwO := [(.istore_n 3, 0, 0, .null), (.iload_n 3, 0, 0, .null)]
theorem k_lCode_16_ok : fwChain m_lCode.1.cls m_lCode.2.1 16 k_lCode_16 18 = true := by decide +kernel
theorem d_lCode_18 : decode m_lCode.2.1 18 = .ok (.tableswitch 223 1 14 #[70, 91, 118, 144, 144, 157, 167, 177, 185, 199, 144, 223, 223, 215], 70) := by decide +kernel
def k_lCode_88 : List fwO := [(.aload_n 0, 0, 0, .null), (.iload_n 2, 0, 0, .null), (.iconst 3, 0, 0, .int 3), (.ishr, 0, 0, .null)]
theorem k_lCode_88_ok : fwChain m_lCode.1.cls m_lCode.2.1 88 k_lCode_88 92 = true := by decide +kernel
theorem d_lCode_92 : decode m_lCode.2.1 92 = .ok (.invokevirtual 29, 3) := by decide +kernel
def k_lCode_95 : List fwO := [(.aload_n 0, 0, 0, .null), (.bipush 44, 0, 0, .int 44)]
theorem k_lCode_95_ok : fwChain m_lCode.1.cls m_lCode.2.1 95 k_lCode_95 98 = true := by decide +kernel
theorem d_lCode_98 : decode m_lCode.2.1 98 = .ok (.invokevirtual 33, 3) := by decide +kernel
def k_lCode_101 : List fwO := [(.aload_n 0, 0, 0, .null), (.iload_n 2, 0, 0, .null)]
theorem k_lCode_101_ok : fwChain m_lCode.1.cls m_lCode.2.1 101 k_lCode_101 103 = true := by decide +kernel
theorem d_lCode_103 : decode m_lCode.2.1 103 = .ok (.invokevirtual 29, 3) := by decide +kernel
theorem d_lCode_106 : decode m_lCode.2.1 106 = .ok (.goto 135, 3) := by decide +kernel
def k_lCode_109 : List fwO := [(.aload_n 0, 0, 0, .null), (.iload_n 2, 0, 0, .null), (.iconst 3, 0, 0, .int 3), (.ishr, 0, 0, .null)]
theorem k_lCode_109_ok : fwChain m_lCode.1.cls m_lCode.2.1 109 k_lCode_109 113 = true := by decide +kernel
theorem d_lCode_113 : decode m_lCode.2.1 113 = .ok (.invokevirtual 29, 3) := by decide +kernel
def k_lCode_116 : List fwO := [(.aload_n 0, 0, 0, .null), (.bipush 44, 0, 0, .int 44)]
theorem k_lCode_116_ok : fwChain m_lCode.1.cls m_lCode.2.1 116 k_lCode_116 119 = true := by decide +kernel
theorem d_lCode_119 : decode m_lCode.2.1 119 = .ok (.invokevirtual 33, 3) := by decide +kernel
def k_lCode_122 : List fwO := [(.aload_n 0, 0, 0, .null), (.aload_n 0, 0, 0, .null), (.iload_n 1, 0, 0, .null), (.iconst 1, 0, 0, .int 1), (.iadd, 0, 0, .null)]
theorem k_lCode_122_ok : fwChain m_lCode.1.cls m_lCode.2.1 122 k_lCode_122 127 = true := by decide +kernel
theorem d_lCode_127 : decode m_lCode.2.1 127 = .ok (.invokevirtual 22, 3) := by decide +kernel
theorem d_lCode_130 : decode m_lCode.2.1 130 = .ok (.invokevirtual 36, 3) := by decide +kernel
theorem d_lCode_133 : decode m_lCode.2.1 133 = .ok (.goto 108, 3) := by decide +kernel
def k_lCode_136 : List fwO := [(.aload_n 0, 0, 0, .null), (.iload_n 3, 0, 0, .null), (.iload_n 2, 0, 0, .null), (.iconst 4, 0, 0, .int 4), (.ishr, 0, 0, .null), (.iconst 3, 0, 0, .int 3), (.iand, 0, 0, .null)]
theorem k_lCode_136_ok : fwChain m_lCode.1.cls m_lCode.2.1 136 k_lCode_136 143 = true := by decide +kernel
theorem d_lCode_143 : decode m_lCode.2.1 143 = .ok (.invokevirtual 39, 3) := by decide +kernel
def k_lCode_146 : List fwO := [(.aload_n 0, 0, 0, .null), (.bipush 44, 0, 0, .int 44)]
theorem k_lCode_146_ok : fwChain m_lCode.1.cls m_lCode.2.1 146 k_lCode_146 149 = true := by decide +kernel
theorem d_lCode_149 : decode m_lCode.2.1 149 = .ok (.invokevirtual 33, 3) := by decide +kernel
def k_lCode_152 : List fwO := [(.aload_n 0, 0, 0, .null), (.iload_n 1, 0, 0, .null), (.iconst 1, 0, 0, .int 1), (.iadd, 0, 0, .null)]
theorem k_lCode_152_ok : fwChain m_lCode.1.cls m_lCode.2.1 152 k_lCode_152 156 = true := by decide +kernel
theorem d_lCode_156 : decode m_lCode.2.1 156 = .ok (.invokevirtual 43, 3) := by decide +kernel
theorem d_lCode_159 : decode m_lCode.2.1 159 = .ok (.goto 82, 3) := by decide +kernel
def k_lCode_162 : List fwO := [(.aload_n 0, 0, 0, .null), (.iload_n 3, 0, 0, .null), (.iload_n 2, 0, 0, .null), (.iconst 4, 0, 0, .int 4), (.ishr, 0, 0, .null), (.iconst 3, 0, 0, .int 3), (.iand, 0, 0, .null)]
theorem k_lCode_162_ok : fwChain m_lCode.1.cls m_lCode.2.1 162 k_lCode_162 169 = true := by decide +kernel
theorem d_lCode_169 : decode m_lCode.2.1 169 = .ok (.invokevirtual 39, 3) := by decide +kernel
theorem d_lCode_172 : decode m_lCode.2.1 172 = .ok (.goto 69, 3) := by decide +kernel
def k_lCode_175 : List fwO := [(.aload_n 0, 0, 0, .null), (.iload_n 1, 0, 0, .null), (.iconst 1, 0, 0, .int 1), (.iadd, 0, 0, .null)]
theorem k_lCode_175_ok : fwChain m_lCode.1.cls m_lCode.2.1 175 k_lCode_175 179 = true := by decide +kernel
theorem d_lCode_179 : decode m_lCode.2.1 179 = .ok (.invokevirtual 43, 3) := by decide +kernel
theorem d_lCode_182 : decode m_lCode.2.1 182 = .ok (.goto 59, 3) := by decide +kernel
def k_lCode_185 : List fwO := [(.aload_n 0, 0, 0, .null), (.iload_n 2, 0, 0, .null), (.iconst 3, 0, 0, .int 3), (.ishr, 0, 0, .null)]
theorem k_lCode_185_ok : fwChain m_lCode.1.cls m_lCode.2.1 185 k_lCode_185 189 = true := by decide +kernel
theorem d_lCode_189 : decode m_lCode.2.1 189 = .ok (.invokevirtual 29, 3) := by decide +kernel
theorem d_lCode_192 : decode m_lCode.2.1 192 = .ok (.goto 49, 3) := by decide +kernel
def k_lCode_195 : List fwO := [(.aload_n 0, 0, 0, .null), (.iload_n 2, 0, 0, .null)]
theorem k_lCode_195_ok : fwChain m_lCode.1.cls m_lCode.2.1 195 k_lCode_195 197 = true := by decide +kernel
theorem d_lCode_197 : decode m_lCode.2.1 197 = .ok (.invokevirtual 29, 3) := by decide +kernel
theorem d_lCode_200 : decode m_lCode.2.1 200 = .ok (.goto 41, 3) := by decide +kernel
def k_lCode_203 : List fwO := [(.aload_n 0, 0, 0, .null), (.aload_n 0, 0, 0, .null), (.iload_n 1, 0, 0, .null), (.iconst 1, 0, 0, .int 1), (.iadd, 0, 0, .null)]
theorem k_lCode_203_ok : fwChain m_lCode.1.cls m_lCode.2.1 203 k_lCode_203 208 = true := by decide +kernel
theorem d_lCode_208 : decode m_lCode.2.1 208 = .ok (.invokevirtual 22, 3) := by decide +kernel
theorem d_lCode_211 : decode m_lCode.2.1 211 = .ok (.invokevirtual 36, 3) := by decide +kernel
theorem d_lCode_214 : decode m_lCode.2.1 214 = .ok (.goto 27, 3) := by decide +kernel
def k_lCode_217 : List fwO := [(.aload_n 0, 0, 0, .null), (.bipush 48, 0, 0, .int 48), (.iload_n 2, 0, 0, .null), (.iconst 3, 0, 0, .int 3), (.ishr, 0, 0, .null), (.bipush 7, 0, 0, .int 7), (.iand, 0, 0, .null), (.iadd, 0, 0, .null)]
theorem k_lCode_217_ok : fwChain m_lCode.1.cls m_lCode.2.1 217 k_lCode_217 227 = true := by decide +kernel
theorem d_lCode_227 : decode m_lCode.2.1 227 = .ok (.invokevirtual 33, 3) := by decide +kernel
theorem d_lCode_230 : decode m_lCode.2.1 230 = .ok (.goto 11, 3) := by decide +kernel
def k_lCode_233 : List fwO := [(.aload_n 0, 0, 0, .null), (.iload_n 2, 0, 0, .null)]
theorem k_lCode_233_ok : fwChain m_lCode.1.cls m_lCode.2.1 233 k_lCode_233 235 = true := by decide +kernel
theorem d_lCode_235 : decode m_lCode.2.1 235 = .ok (.invokevirtual 36, 3) := by decide +kernel
theorem d_lCode_238 : decode m_lCode.2.1 238 = .ok (.goto 3, 3) := by decide +kernel
def k_lCode_241 : List fwO := [(.aload_n 0, 0, 0, .null), (.getfield 18, 6, 2, .retAddr 150)]
theorem k_lCode_241_ok : fwChain m_lCode.1.cls m_lCode.2.1 241 k_lCode_241 245 = true := by decide +kernel
theorem d_lCode_245 : decode m_lCode.2.1 245 = .ok (.ireturn, 1) := by decide +kernel
/-- MonitorBoard.list(I)I -/
abbrev m_list : fwM := (⟨"MonitorBoard", "list", "(I)I"⟩, prog_1_method_18_code, 2, (some FieldType.int))
theorem m_list_in : Cond.code m_list.1 m_list.2.1 m_list.2.2.1 m_list.2.2.2 ∈ fwT := fwT_mem (List.mem_of_getElem? (i := 1854) (by decide +kernel)) rfl
def k_list_0 : List fwO := [(.aload_n 0, 0, 0, .null), (.aload_n 0, 0, 0, .null), (.getfield 76, 0, 9, .retAddr 160), (.iload_n 1, 0, 0, .null)]
theorem k_list_0_ok : fwChain m_list.1.cls m_list.2.1 0 k_list_0 6 = true := by decide +kernel
theorem d_list_6 : decode m_list.2.1 6 = .ok (.invokevirtual 196, 3) := by decide +kernel
def k_list_9 : List fwO := [(.putfield 164, 0, 11, .retAddr 162), (.aload_n 0, 0, 0, .null), (.getfield 164, 0, 11, .retAddr 162)]
theorem k_list_9_ok : fwChain m_list.1.cls m_list.2.1 9 k_list_9 16 = true := by decide +kernel
theorem d_list_16 : decode m_list.2.1 16 = .ok (.ireturn, 1) := by decide +kernel
theorem c_lNameAt_12 : ∀ w ∈ ([(Cond.methodLink "MonitorBoard$Lister" (47 : Nat) ({ cls := "java/lang/String", name := "length", desc := "()I" } : MethodName)), (Cond.instanceMethod ({ cls := "java/lang/String", name := "length", desc := "()I" } : MethodName)), (Cond.selects "java/lang/String" ({ cls := "java/lang/String", name := "length", desc := "()I" } : MethodName) ({ cls := "java/lang/String", name := "length", desc := "()I" } : MethodName)), (Cond.initialized "java/lang/String")] : List Cond), w ∈ fwT := fwT_all [1877, 571, 572, 290] (by decide +kernel) (by decide +kernel)
theorem c_lNameAt_22 : ∀ w ∈ ([(Cond.methodLink "MonitorBoard$Lister" (53 : Nat) ({ cls := "java/lang/String", name := "charAt", desc := "(I)C" } : MethodName)), (Cond.instanceMethod ({ cls := "java/lang/String", name := "charAt", desc := "(I)C" } : MethodName)), (Cond.selects "java/lang/String" ({ cls := "java/lang/String", name := "charAt", desc := "(I)C" } : MethodName) ({ cls := "java/lang/String", name := "charAt", desc := "(I)C" } : MethodName)), (Cond.initialized "java/lang/String")] : List Cond), w ∈ fwT := fwT_all [1878, 581, 582, 290] (by decide +kernel) (by decide +kernel)
theorem c_lNameAt_46 : ∀ w ∈ ([(Cond.methodLink "MonitorBoard$Lister" (47 : Nat) ({ cls := "java/lang/String", name := "length", desc := "()I" } : MethodName)), (Cond.instanceMethod ({ cls := "java/lang/String", name := "length", desc := "()I" } : MethodName)), (Cond.selects "java/lang/String" ({ cls := "java/lang/String", name := "length", desc := "()I" } : MethodName) ({ cls := "java/lang/String", name := "length", desc := "()I" } : MethodName)), (Cond.initialized "java/lang/String")] : List Cond), w ∈ fwT := c_lNameAt_12
theorem c_lNameAt_55 : ∀ w ∈ ([(Cond.methodLink "MonitorBoard$Lister" (53 : Nat) ({ cls := "java/lang/String", name := "charAt", desc := "(I)C" } : MethodName)), (Cond.instanceMethod ({ cls := "java/lang/String", name := "charAt", desc := "(I)C" } : MethodName)), (Cond.selects "java/lang/String" ({ cls := "java/lang/String", name := "charAt", desc := "(I)C" } : MethodName) ({ cls := "java/lang/String", name := "charAt", desc := "(I)C" } : MethodName)), (Cond.initialized "java/lang/String")] : List Cond), w ∈ fwT := c_lNameAt_22
theorem c_lNameAt_67 : ∀ w ∈ ([(Cond.methodLink "MonitorBoard$Lister" (53 : Nat) ({ cls := "java/lang/String", name := "charAt", desc := "(I)C" } : MethodName)), (Cond.instanceMethod ({ cls := "java/lang/String", name := "charAt", desc := "(I)C" } : MethodName)), (Cond.selects "java/lang/String" ({ cls := "java/lang/String", name := "charAt", desc := "(I)C" } : MethodName) ({ cls := "java/lang/String", name := "charAt", desc := "(I)C" } : MethodName)), (Cond.initialized "java/lang/String")] : List Cond), w ∈ fwT := c_lNameAt_22
theorem c_lNameAt_70 : ∀ w ∈ ([(Cond.methodLink "MonitorBoard$Lister" (33 : Nat) ({ cls := "MonitorBoard$Lister", name := "tell", desc := "(I)V" } : MethodName)), (Cond.instanceMethod ({ cls := "MonitorBoard$Lister", name := "tell", desc := "(I)V" } : MethodName)), (Cond.selects "MonitorBoard$Lister" ({ cls := "MonitorBoard$Lister", name := "tell", desc := "(I)V" } : MethodName) ({ cls := "MonitorBoard$Lister", name := "tell", desc := "(I)V" } : MethodName)), (Cond.initialized "MonitorBoard$Lister")] : List Cond), w ∈ fwT := fwT_all [1879, 1881, 135, 296] (by decide +kernel) (by decide +kernel)
theorem c_lName_41 : ∀ w ∈ ([(Cond.methodLink "MonitorBoard$Lister" (69 : Nat) ({ cls := "MonitorBoard$Lister", name := "tellNameAt", desc := "(I)V" } : MethodName)), (Cond.instanceMethod ({ cls := "MonitorBoard$Lister", name := "tellNameAt", desc := "(I)V" } : MethodName)), (Cond.selects "MonitorBoard$Lister" ({ cls := "MonitorBoard$Lister", name := "tellNameAt", desc := "(I)V" } : MethodName) ({ cls := "MonitorBoard$Lister", name := "tellNameAt", desc := "(I)V" } : MethodName)), (Cond.initialized "MonitorBoard$Lister")] : List Cond), w ∈ fwT := fwT_all [1872, 1874, 134, 296] (by decide +kernel) (by decide +kernel)
theorem c_lName_51 : ∀ w ∈ ([(Cond.methodLink "MonitorBoard$Lister" (33 : Nat) ({ cls := "MonitorBoard$Lister", name := "tell", desc := "(I)V" } : MethodName)), (Cond.instanceMethod ({ cls := "MonitorBoard$Lister", name := "tell", desc := "(I)V" } : MethodName)), (Cond.selects "MonitorBoard$Lister" ({ cls := "MonitorBoard$Lister", name := "tell", desc := "(I)V" } : MethodName) ({ cls := "MonitorBoard$Lister", name := "tell", desc := "(I)V" } : MethodName)), (Cond.initialized "MonitorBoard$Lister")] : List Cond), w ∈ fwT := c_lNameAt_70
theorem c_lName_65 : ∀ w ∈ ([(Cond.methodLink "MonitorBoard$Lister" (74 : Nat) ({ cls := "MonitorBoard$Lister", name := "tellText", desc := "(Ljava/lang/String;)V" } : MethodName)), (Cond.instanceMethod ({ cls := "MonitorBoard$Lister", name := "tellText", desc := "(Ljava/lang/String;)V" } : MethodName)), (Cond.selects "MonitorBoard$Lister" ({ cls := "MonitorBoard$Lister", name := "tellText", desc := "(Ljava/lang/String;)V" } : MethodName) ({ cls := "MonitorBoard$Lister", name := "tellText", desc := "(Ljava/lang/String;)V" } : MethodName)), (Cond.initialized "MonitorBoard$Lister")] : List Cond), w ∈ fwT := fwT_all [1884, 1886, 136, 296] (by decide +kernel) (by decide +kernel)
theorem c_lReg_7 : ∀ w ∈ ([(Cond.methodLink "MonitorBoard$Lister" (53 : Nat) ({ cls := "java/lang/String", name := "charAt", desc := "(I)C" } : MethodName)), (Cond.instanceMethod ({ cls := "java/lang/String", name := "charAt", desc := "(I)C" } : MethodName)), (Cond.selects "java/lang/String" ({ cls := "java/lang/String", name := "charAt", desc := "(I)C" } : MethodName) ({ cls := "java/lang/String", name := "charAt", desc := "(I)C" } : MethodName)), (Cond.initialized "java/lang/String")] : List Cond), w ∈ fwT := c_lNameAt_22
theorem c_lReg_10 : ∀ w ∈ ([(Cond.methodLink "MonitorBoard$Lister" (33 : Nat) ({ cls := "MonitorBoard$Lister", name := "tell", desc := "(I)V" } : MethodName)), (Cond.instanceMethod ({ cls := "MonitorBoard$Lister", name := "tell", desc := "(I)V" } : MethodName)), (Cond.selects "MonitorBoard$Lister" ({ cls := "MonitorBoard$Lister", name := "tell", desc := "(I)V" } : MethodName) ({ cls := "MonitorBoard$Lister", name := "tell", desc := "(I)V" } : MethodName)), (Cond.initialized "MonitorBoard$Lister")] : List Cond), w ∈ fwT := c_lNameAt_70
theorem c_lPair_9 : ∀ w ∈ ([(Cond.methodLink "MonitorBoard$Lister" (53 : Nat) ({ cls := "java/lang/String", name := "charAt", desc := "(I)C" } : MethodName)), (Cond.instanceMethod ({ cls := "java/lang/String", name := "charAt", desc := "(I)C" } : MethodName)), (Cond.selects "java/lang/String" ({ cls := "java/lang/String", name := "charAt", desc := "(I)C" } : MethodName) ({ cls := "java/lang/String", name := "charAt", desc := "(I)C" } : MethodName)), (Cond.initialized "java/lang/String")] : List Cond), w ∈ fwT := c_lNameAt_22
theorem c_lPair_12 : ∀ w ∈ ([(Cond.methodLink "MonitorBoard$Lister" (33 : Nat) ({ cls := "MonitorBoard$Lister", name := "tell", desc := "(I)V" } : MethodName)), (Cond.instanceMethod ({ cls := "MonitorBoard$Lister", name := "tell", desc := "(I)V" } : MethodName)), (Cond.selects "MonitorBoard$Lister" ({ cls := "MonitorBoard$Lister", name := "tell", desc := "(I)V" } : MethodName) ({ cls := "MonitorBoard$Lister", name := "tell", desc := "(I)V" } : MethodName)), (Cond.initialized "MonitorBoard$Lister")] : List Cond), w ∈ fwT := c_lNameAt_70
theorem c_lPair_32 : ∀ w ∈ ([(Cond.methodLink "MonitorBoard$Lister" (74 : Nat) ({ cls := "MonitorBoard$Lister", name := "tellText", desc := "(Ljava/lang/String;)V" } : MethodName)), (Cond.instanceMethod ({ cls := "MonitorBoard$Lister", name := "tellText", desc := "(Ljava/lang/String;)V" } : MethodName)), (Cond.selects "MonitorBoard$Lister" ({ cls := "MonitorBoard$Lister", name := "tellText", desc := "(Ljava/lang/String;)V" } : MethodName) ({ cls := "MonitorBoard$Lister", name := "tellText", desc := "(Ljava/lang/String;)V" } : MethodName)), (Cond.initialized "MonitorBoard$Lister")] : List Cond), w ∈ fwT := c_lName_65
theorem c_lHex_14 : ∀ w ∈ ([(Cond.methodLink "MonitorBoard$Lister" (33 : Nat) ({ cls := "MonitorBoard$Lister", name := "tell", desc := "(I)V" } : MethodName)), (Cond.instanceMethod ({ cls := "MonitorBoard$Lister", name := "tell", desc := "(I)V" } : MethodName)), (Cond.selects "MonitorBoard$Lister" ({ cls := "MonitorBoard$Lister", name := "tell", desc := "(I)V" } : MethodName) ({ cls := "MonitorBoard$Lister", name := "tell", desc := "(I)V" } : MethodName)), (Cond.initialized "MonitorBoard$Lister")] : List Cond), w ∈ fwT := c_lNameAt_70
theorem c_lHex_32 : ∀ w ∈ ([(Cond.methodLink "MonitorBoard$Lister" (53 : Nat) ({ cls := "java/lang/String", name := "charAt", desc := "(I)C" } : MethodName)), (Cond.instanceMethod ({ cls := "java/lang/String", name := "charAt", desc := "(I)C" } : MethodName)), (Cond.selects "java/lang/String" ({ cls := "java/lang/String", name := "charAt", desc := "(I)C" } : MethodName) ({ cls := "java/lang/String", name := "charAt", desc := "(I)C" } : MethodName)), (Cond.initialized "java/lang/String")] : List Cond), w ∈ fwT := c_lNameAt_22
theorem c_lHex_35 : ∀ w ∈ ([(Cond.methodLink "MonitorBoard$Lister" (33 : Nat) ({ cls := "MonitorBoard$Lister", name := "tell", desc := "(I)V" } : MethodName)), (Cond.instanceMethod ({ cls := "MonitorBoard$Lister", name := "tell", desc := "(I)V" } : MethodName)), (Cond.selects "MonitorBoard$Lister" ({ cls := "MonitorBoard$Lister", name := "tell", desc := "(I)V" } : MethodName) ({ cls := "MonitorBoard$Lister", name := "tell", desc := "(I)V" } : MethodName)), (Cond.initialized "MonitorBoard$Lister")] : List Cond), w ∈ fwT := c_lNameAt_70
theorem c_lHex_47 : ∀ w ∈ ([(Cond.methodLink "MonitorBoard$Lister" (33 : Nat) ({ cls := "MonitorBoard$Lister", name := "tell", desc := "(I)V" } : MethodName)), (Cond.instanceMethod ({ cls := "MonitorBoard$Lister", name := "tell", desc := "(I)V" } : MethodName)), (Cond.selects "MonitorBoard$Lister" ({ cls := "MonitorBoard$Lister", name := "tell", desc := "(I)V" } : MethodName) ({ cls := "MonitorBoard$Lister", name := "tell", desc := "(I)V" } : MethodName)), (Cond.initialized "MonitorBoard$Lister")] : List Cond), w ∈ fwT := c_lNameAt_70
theorem c_lByte_3 : ∀ w ∈ ([(Cond.methodLink "MonitorBoard$Lister" (88 : Nat) ({ cls := "MonitorBoard$Lister", name := "tellHex", desc := "(II)V" } : MethodName)), (Cond.instanceMethod ({ cls := "MonitorBoard$Lister", name := "tellHex", desc := "(II)V" } : MethodName)), (Cond.selects "MonitorBoard$Lister" ({ cls := "MonitorBoard$Lister", name := "tellHex", desc := "(II)V" } : MethodName) ({ cls := "MonitorBoard$Lister", name := "tellHex", desc := "(II)V" } : MethodName)), (Cond.initialized "MonitorBoard$Lister")] : List Cond), w ∈ fwT := fwT_all [1897, 1899, 139, 296] (by decide +kernel) (by decide +kernel)
theorem c_lWord_3 : ∀ w ∈ ([(Cond.methodLink "MonitorBoard$Lister" (22 : Nat) ({ cls := "MonitorBoard$Lister", name := "peek", desc := "(I)I" } : MethodName)), (Cond.instanceMethod ({ cls := "MonitorBoard$Lister", name := "peek", desc := "(I)I" } : MethodName)), (Cond.selects "MonitorBoard$Lister" ({ cls := "MonitorBoard$Lister", name := "peek", desc := "(I)I" } : MethodName) ({ cls := "MonitorBoard$Lister", name := "peek", desc := "(I)I" } : MethodName)), (Cond.initialized "MonitorBoard$Lister")] : List Cond), w ∈ fwT := fwT_all [1859, 1861, 132, 296] (by decide +kernel) (by decide +kernel)
theorem c_lWord_10 : ∀ w ∈ ([(Cond.methodLink "MonitorBoard$Lister" (22 : Nat) ({ cls := "MonitorBoard$Lister", name := "peek", desc := "(I)I" } : MethodName)), (Cond.instanceMethod ({ cls := "MonitorBoard$Lister", name := "peek", desc := "(I)I" } : MethodName)), (Cond.selects "MonitorBoard$Lister" ({ cls := "MonitorBoard$Lister", name := "peek", desc := "(I)I" } : MethodName) ({ cls := "MonitorBoard$Lister", name := "peek", desc := "(I)I" } : MethodName)), (Cond.initialized "MonitorBoard$Lister")] : List Cond), w ∈ fwT := c_lWord_3
theorem c_lWord_19 : ∀ w ∈ ([(Cond.methodLink "MonitorBoard$Lister" (88 : Nat) ({ cls := "MonitorBoard$Lister", name := "tellHex", desc := "(II)V" } : MethodName)), (Cond.instanceMethod ({ cls := "MonitorBoard$Lister", name := "tellHex", desc := "(II)V" } : MethodName)), (Cond.selects "MonitorBoard$Lister" ({ cls := "MonitorBoard$Lister", name := "tellHex", desc := "(II)V" } : MethodName) ({ cls := "MonitorBoard$Lister", name := "tellHex", desc := "(II)V" } : MethodName)), (Cond.initialized "MonitorBoard$Lister")] : List Cond), w ∈ fwT := c_lByte_3
theorem c_lCode_7 : ∀ w ∈ ([(Cond.methodLink "MonitorBoard$Lister" (22 : Nat) ({ cls := "MonitorBoard$Lister", name := "peek", desc := "(I)I" } : MethodName)), (Cond.instanceMethod ({ cls := "MonitorBoard$Lister", name := "peek", desc := "(I)I" } : MethodName)), (Cond.selects "MonitorBoard$Lister" ({ cls := "MonitorBoard$Lister", name := "peek", desc := "(I)I" } : MethodName) ({ cls := "MonitorBoard$Lister", name := "peek", desc := "(I)I" } : MethodName)), (Cond.initialized "MonitorBoard$Lister")] : List Cond), w ∈ fwT := c_lWord_3
theorem c_lCode_13 : ∀ w ∈ ([(Cond.methodLink "MonitorBoard$Lister" (26 : Nat) ({ cls := "MonitorBoard$Lister", name := "tellName", desc := "(I)I" } : MethodName)), (Cond.instanceMethod ({ cls := "MonitorBoard$Lister", name := "tellName", desc := "(I)I" } : MethodName)), (Cond.selects "MonitorBoard$Lister" ({ cls := "MonitorBoard$Lister", name := "tellName", desc := "(I)I" } : MethodName) ({ cls := "MonitorBoard$Lister", name := "tellName", desc := "(I)I" } : MethodName)), (Cond.initialized "MonitorBoard$Lister")] : List Cond), w ∈ fwT := fwT_all [1864, 1866, 133, 296] (by decide +kernel) (by decide +kernel)
theorem c_lCode_92 : ∀ w ∈ ([(Cond.methodLink "MonitorBoard$Lister" (29 : Nat) ({ cls := "MonitorBoard$Lister", name := "tellRegister", desc := "(I)V" } : MethodName)), (Cond.instanceMethod ({ cls := "MonitorBoard$Lister", name := "tellRegister", desc := "(I)V" } : MethodName)), (Cond.selects "MonitorBoard$Lister" ({ cls := "MonitorBoard$Lister", name := "tellRegister", desc := "(I)V" } : MethodName) ({ cls := "MonitorBoard$Lister", name := "tellRegister", desc := "(I)V" } : MethodName)), (Cond.initialized "MonitorBoard$Lister")] : List Cond), w ∈ fwT := fwT_all [1888, 1890, 137, 296] (by decide +kernel) (by decide +kernel)
theorem c_lCode_98 : ∀ w ∈ ([(Cond.methodLink "MonitorBoard$Lister" (33 : Nat) ({ cls := "MonitorBoard$Lister", name := "tell", desc := "(I)V" } : MethodName)), (Cond.instanceMethod ({ cls := "MonitorBoard$Lister", name := "tell", desc := "(I)V" } : MethodName)), (Cond.selects "MonitorBoard$Lister" ({ cls := "MonitorBoard$Lister", name := "tell", desc := "(I)V" } : MethodName) ({ cls := "MonitorBoard$Lister", name := "tell", desc := "(I)V" } : MethodName)), (Cond.initialized "MonitorBoard$Lister")] : List Cond), w ∈ fwT := c_lNameAt_70
theorem c_lCode_103 : ∀ w ∈ ([(Cond.methodLink "MonitorBoard$Lister" (29 : Nat) ({ cls := "MonitorBoard$Lister", name := "tellRegister", desc := "(I)V" } : MethodName)), (Cond.instanceMethod ({ cls := "MonitorBoard$Lister", name := "tellRegister", desc := "(I)V" } : MethodName)), (Cond.selects "MonitorBoard$Lister" ({ cls := "MonitorBoard$Lister", name := "tellRegister", desc := "(I)V" } : MethodName) ({ cls := "MonitorBoard$Lister", name := "tellRegister", desc := "(I)V" } : MethodName)), (Cond.initialized "MonitorBoard$Lister")] : List Cond), w ∈ fwT := c_lCode_92
theorem c_lCode_113 : ∀ w ∈ ([(Cond.methodLink "MonitorBoard$Lister" (29 : Nat) ({ cls := "MonitorBoard$Lister", name := "tellRegister", desc := "(I)V" } : MethodName)), (Cond.instanceMethod ({ cls := "MonitorBoard$Lister", name := "tellRegister", desc := "(I)V" } : MethodName)), (Cond.selects "MonitorBoard$Lister" ({ cls := "MonitorBoard$Lister", name := "tellRegister", desc := "(I)V" } : MethodName) ({ cls := "MonitorBoard$Lister", name := "tellRegister", desc := "(I)V" } : MethodName)), (Cond.initialized "MonitorBoard$Lister")] : List Cond), w ∈ fwT := c_lCode_92
theorem c_lCode_119 : ∀ w ∈ ([(Cond.methodLink "MonitorBoard$Lister" (33 : Nat) ({ cls := "MonitorBoard$Lister", name := "tell", desc := "(I)V" } : MethodName)), (Cond.instanceMethod ({ cls := "MonitorBoard$Lister", name := "tell", desc := "(I)V" } : MethodName)), (Cond.selects "MonitorBoard$Lister" ({ cls := "MonitorBoard$Lister", name := "tell", desc := "(I)V" } : MethodName) ({ cls := "MonitorBoard$Lister", name := "tell", desc := "(I)V" } : MethodName)), (Cond.initialized "MonitorBoard$Lister")] : List Cond), w ∈ fwT := c_lNameAt_70
theorem c_lCode_127 : ∀ w ∈ ([(Cond.methodLink "MonitorBoard$Lister" (22 : Nat) ({ cls := "MonitorBoard$Lister", name := "peek", desc := "(I)I" } : MethodName)), (Cond.instanceMethod ({ cls := "MonitorBoard$Lister", name := "peek", desc := "(I)I" } : MethodName)), (Cond.selects "MonitorBoard$Lister" ({ cls := "MonitorBoard$Lister", name := "peek", desc := "(I)I" } : MethodName) ({ cls := "MonitorBoard$Lister", name := "peek", desc := "(I)I" } : MethodName)), (Cond.initialized "MonitorBoard$Lister")] : List Cond), w ∈ fwT := c_lWord_3
theorem c_lCode_130 : ∀ w ∈ ([(Cond.methodLink "MonitorBoard$Lister" (36 : Nat) ({ cls := "MonitorBoard$Lister", name := "tellByte", desc := "(I)V" } : MethodName)), (Cond.instanceMethod ({ cls := "MonitorBoard$Lister", name := "tellByte", desc := "(I)V" } : MethodName)), (Cond.selects "MonitorBoard$Lister" ({ cls := "MonitorBoard$Lister", name := "tellByte", desc := "(I)V" } : MethodName) ({ cls := "MonitorBoard$Lister", name := "tellByte", desc := "(I)V" } : MethodName)), (Cond.initialized "MonitorBoard$Lister")] : List Cond), w ∈ fwT := fwT_all [1893, 1895, 138, 296] (by decide +kernel) (by decide +kernel)
theorem c_lCode_143 : ∀ w ∈ ([(Cond.methodLink "MonitorBoard$Lister" (39 : Nat) ({ cls := "MonitorBoard$Lister", name := "tellPair", desc := "(II)V" } : MethodName)), (Cond.instanceMethod ({ cls := "MonitorBoard$Lister", name := "tellPair", desc := "(II)V" } : MethodName)), (Cond.selects "MonitorBoard$Lister" ({ cls := "MonitorBoard$Lister", name := "tellPair", desc := "(II)V" } : MethodName) ({ cls := "MonitorBoard$Lister", name := "tellPair", desc := "(II)V" } : MethodName)), (Cond.initialized "MonitorBoard$Lister")] : List Cond), w ∈ fwT := fwT_all [1902, 1904, 140, 296] (by decide +kernel) (by decide +kernel)
theorem c_lCode_149 : ∀ w ∈ ([(Cond.methodLink "MonitorBoard$Lister" (33 : Nat) ({ cls := "MonitorBoard$Lister", name := "tell", desc := "(I)V" } : MethodName)), (Cond.instanceMethod ({ cls := "MonitorBoard$Lister", name := "tell", desc := "(I)V" } : MethodName)), (Cond.selects "MonitorBoard$Lister" ({ cls := "MonitorBoard$Lister", name := "tell", desc := "(I)V" } : MethodName) ({ cls := "MonitorBoard$Lister", name := "tell", desc := "(I)V" } : MethodName)), (Cond.initialized "MonitorBoard$Lister")] : List Cond), w ∈ fwT := c_lNameAt_70
theorem c_lCode_156 : ∀ w ∈ ([(Cond.methodLink "MonitorBoard$Lister" (43 : Nat) ({ cls := "MonitorBoard$Lister", name := "tellWord", desc := "(I)V" } : MethodName)), (Cond.instanceMethod ({ cls := "MonitorBoard$Lister", name := "tellWord", desc := "(I)V" } : MethodName)), (Cond.selects "MonitorBoard$Lister" ({ cls := "MonitorBoard$Lister", name := "tellWord", desc := "(I)V" } : MethodName) ({ cls := "MonitorBoard$Lister", name := "tellWord", desc := "(I)V" } : MethodName)), (Cond.initialized "MonitorBoard$Lister")] : List Cond), w ∈ fwT := fwT_all [1909, 1911, 141, 296] (by decide +kernel) (by decide +kernel)
theorem c_lCode_169 : ∀ w ∈ ([(Cond.methodLink "MonitorBoard$Lister" (39 : Nat) ({ cls := "MonitorBoard$Lister", name := "tellPair", desc := "(II)V" } : MethodName)), (Cond.instanceMethod ({ cls := "MonitorBoard$Lister", name := "tellPair", desc := "(II)V" } : MethodName)), (Cond.selects "MonitorBoard$Lister" ({ cls := "MonitorBoard$Lister", name := "tellPair", desc := "(II)V" } : MethodName) ({ cls := "MonitorBoard$Lister", name := "tellPair", desc := "(II)V" } : MethodName)), (Cond.initialized "MonitorBoard$Lister")] : List Cond), w ∈ fwT := c_lCode_143
theorem c_lCode_179 : ∀ w ∈ ([(Cond.methodLink "MonitorBoard$Lister" (43 : Nat) ({ cls := "MonitorBoard$Lister", name := "tellWord", desc := "(I)V" } : MethodName)), (Cond.instanceMethod ({ cls := "MonitorBoard$Lister", name := "tellWord", desc := "(I)V" } : MethodName)), (Cond.selects "MonitorBoard$Lister" ({ cls := "MonitorBoard$Lister", name := "tellWord", desc := "(I)V" } : MethodName) ({ cls := "MonitorBoard$Lister", name := "tellWord", desc := "(I)V" } : MethodName)), (Cond.initialized "MonitorBoard$Lister")] : List Cond), w ∈ fwT := c_lCode_156
theorem c_lCode_189 : ∀ w ∈ ([(Cond.methodLink "MonitorBoard$Lister" (29 : Nat) ({ cls := "MonitorBoard$Lister", name := "tellRegister", desc := "(I)V" } : MethodName)), (Cond.instanceMethod ({ cls := "MonitorBoard$Lister", name := "tellRegister", desc := "(I)V" } : MethodName)), (Cond.selects "MonitorBoard$Lister" ({ cls := "MonitorBoard$Lister", name := "tellRegister", desc := "(I)V" } : MethodName) ({ cls := "MonitorBoard$Lister", name := "tellRegister", desc := "(I)V" } : MethodName)), (Cond.initialized "MonitorBoard$Lister")] : List Cond), w ∈ fwT := c_lCode_92
theorem c_lCode_197 : ∀ w ∈ ([(Cond.methodLink "MonitorBoard$Lister" (29 : Nat) ({ cls := "MonitorBoard$Lister", name := "tellRegister", desc := "(I)V" } : MethodName)), (Cond.instanceMethod ({ cls := "MonitorBoard$Lister", name := "tellRegister", desc := "(I)V" } : MethodName)), (Cond.selects "MonitorBoard$Lister" ({ cls := "MonitorBoard$Lister", name := "tellRegister", desc := "(I)V" } : MethodName) ({ cls := "MonitorBoard$Lister", name := "tellRegister", desc := "(I)V" } : MethodName)), (Cond.initialized "MonitorBoard$Lister")] : List Cond), w ∈ fwT := c_lCode_92
theorem c_lCode_208 : ∀ w ∈ ([(Cond.methodLink "MonitorBoard$Lister" (22 : Nat) ({ cls := "MonitorBoard$Lister", name := "peek", desc := "(I)I" } : MethodName)), (Cond.instanceMethod ({ cls := "MonitorBoard$Lister", name := "peek", desc := "(I)I" } : MethodName)), (Cond.selects "MonitorBoard$Lister" ({ cls := "MonitorBoard$Lister", name := "peek", desc := "(I)I" } : MethodName) ({ cls := "MonitorBoard$Lister", name := "peek", desc := "(I)I" } : MethodName)), (Cond.initialized "MonitorBoard$Lister")] : List Cond), w ∈ fwT := c_lWord_3
theorem c_lCode_211 : ∀ w ∈ ([(Cond.methodLink "MonitorBoard$Lister" (36 : Nat) ({ cls := "MonitorBoard$Lister", name := "tellByte", desc := "(I)V" } : MethodName)), (Cond.instanceMethod ({ cls := "MonitorBoard$Lister", name := "tellByte", desc := "(I)V" } : MethodName)), (Cond.selects "MonitorBoard$Lister" ({ cls := "MonitorBoard$Lister", name := "tellByte", desc := "(I)V" } : MethodName) ({ cls := "MonitorBoard$Lister", name := "tellByte", desc := "(I)V" } : MethodName)), (Cond.initialized "MonitorBoard$Lister")] : List Cond), w ∈ fwT := c_lCode_130
theorem c_lCode_227 : ∀ w ∈ ([(Cond.methodLink "MonitorBoard$Lister" (33 : Nat) ({ cls := "MonitorBoard$Lister", name := "tell", desc := "(I)V" } : MethodName)), (Cond.instanceMethod ({ cls := "MonitorBoard$Lister", name := "tell", desc := "(I)V" } : MethodName)), (Cond.selects "MonitorBoard$Lister" ({ cls := "MonitorBoard$Lister", name := "tell", desc := "(I)V" } : MethodName) ({ cls := "MonitorBoard$Lister", name := "tell", desc := "(I)V" } : MethodName)), (Cond.initialized "MonitorBoard$Lister")] : List Cond), w ∈ fwT := c_lNameAt_70
theorem c_lCode_235 : ∀ w ∈ ([(Cond.methodLink "MonitorBoard$Lister" (36 : Nat) ({ cls := "MonitorBoard$Lister", name := "tellByte", desc := "(I)V" } : MethodName)), (Cond.instanceMethod ({ cls := "MonitorBoard$Lister", name := "tellByte", desc := "(I)V" } : MethodName)), (Cond.selects "MonitorBoard$Lister" ({ cls := "MonitorBoard$Lister", name := "tellByte", desc := "(I)V" } : MethodName) ({ cls := "MonitorBoard$Lister", name := "tellByte", desc := "(I)V" } : MethodName)), (Cond.initialized "MonitorBoard$Lister")] : List Cond), w ∈ fwT := c_lCode_130
theorem c_list_6 : ∀ w ∈ ([(Cond.methodLink "MonitorBoard" (196 : Nat) ({ cls := "MonitorBoard$Lister", name := "tellCode", desc := "(I)I" } : MethodName)), (Cond.instanceMethod ({ cls := "MonitorBoard$Lister", name := "tellCode", desc := "(I)I" } : MethodName)), (Cond.selects "MonitorBoard$Lister" ({ cls := "MonitorBoard$Lister", name := "tellCode", desc := "(I)I" } : MethodName) ({ cls := "MonitorBoard$Lister", name := "tellCode", desc := "(I)I" } : MethodName)), (Cond.initialized "MonitorBoard$Lister")] : List Cond), w ∈ fwT := fwT_all [1855, 1856, 1857, 296] (by decide +kernel) (by decide +kernel)
/-! the class's list on a new object (laid by wip/whole/t19.py) -/
def lnCnt : Nat → Nat
  | 0 => 0
  | j + 1 => lnCnt j + if fwCh 1 j = 32 then 1 else 0
theorem pk_andS (x : Int32) {q : Nat} (hq : q < 65536) (h : x &&& 65535 = nI q) : (x + 1) &&& 65535 = nI ((q + 1) % 65536) := by
  rw [pk_and x 16 (by decide)] at h
  rw [pk_and (x + 1) 16 (by decide)]
  have h1 : x.toBitVec.toNat % 2 ^ 16 < 2 ^ 16 := Nat.mod_lt _ (by decide)
  have h2 : x.toBitVec.toNat % 2 ^ 16 = q := (nI_eq (by omega) (by omega)).mp h
  congr 1
  rw [Int32.toBitVec_add, BitVec.toNat_add]
  show (x.toBitVec.toNat + 1) % 2 ^ 32 % 2 ^ 16 = _
  omega
theorem pk_and15 (x : Int32) : ∃ j, j < 16 ∧ x &&& 15 = nI j := pk_andE x 4 (by decide)
/-- the answer of list on a new object -/
def aLst (a : Int32) : Int32 := if a &&& 65535 = 0 ∨ a &&& 65535 = 5 ∨ a &&& 65535 = 6 then 10 else if a &&& 65535 = 1 then 5 else if a &&& 65535 = 2 then 9 else if a &&& 65535 = 7 then 7 else 3
section LST
variable {l : Launch} {Z : fwZ} {re : List fwE} {σ : fwS}
theorem ct_lTell {x : Int32} {t : Nat} (h : σ.1 36 2 = nI t) (ht : t < 58112) : fwC l Z m_lTell 1 0 0 [.ref 36, .int x] (shMB re) σ (fun w sh' σ' => w = none ∧ sh' = shMB re ∧ σ'.1 36 2 = nI (t + 1) ∧ fwSame [2, 36] σ σ') := by
  refine fwC_of (ls := [some (.ref 36), some (.int x)]) (by decide +kernel) rfl (by rw [fw_sl1]; exact Nat.le_refl 2) ?_
  refine fwRun_ok k_lTell_0_ok rfl trivial ?_
  refine fwg_cmp 33 d_lTell_9 (by decide) (fun q => absurd (show nI 58112 ≤ nI t from h ▸ q) (nI_ge ht (by decide))) (fun _ => ?_)
  refine fwRun_ok k_lTell_12_ok rfl (by show vp_in (σ.1 36 2) 58112; rw [h]; exact vp_in_nI ht (by decide)) ?_
  refine fwg_vret rfl (Nat.le_refl _) (Nat.le_refl _) ⟨rfl, rfl, ?_, (fwSame_I (by decide)).tr (fwSame_I (by decide))⟩ d_lTell_33
  show (fwI _ 36 2 _).1 36 2 = _
  rw [fwI_eq, fwI_ne (by decide), h]
  exact nI_1 t
theorem ct_lPeek {a : Int32} : fwC l Z m_lPeek 1 0 0 [.ref 36, .int a] (shMB re) σ (fwPure (.int (σ.1 9 (a &&& 65535).toNatClampNeg &&& 255)) (shMB re) σ) := by
  refine fwC_of (ls := [some (.ref 36), some (.int a)]) (by decide +kernel) rfl (by rw [fw_sl1]; exact Nat.le_refl 2) ?_
  refine fwRun_ok k_lPeek_0_ok rfl (pk_andIn a 16 (by decide) (by decide)) ?_
  exact fwg_iret rfl (Nat.le_refl _) (Nat.le_refl _) ⟨rfl, rfl, rfl⟩ d_lPeek_13
theorem lna_1 {i0 P : Nat} (hP : ∀ j, j < P → lnCnt j < i0) (hP2 : lnCnt P = i0) (hl : P ≤ 327) (hi : i0 < 1000) {Post : fwPost} (k : fwG l Z m_lNameAt 5 0 0 Post 0 0 43 [some (.ref 36), some (.int (nI i0)), some (.int (nI P)), some (.int (nI i0))] [] (shMB re) σ) : ∀ (q j : Nat), j + q = P → fwG l Z m_lNameAt 5 0 0 Post 0 0 4 [some (.ref 36), some (.int (nI i0)), some (.int (nI j)), some (.int (nI (lnCnt j)))] [] (shMB re) σ := by
  intro q
  induction q with
  | zero =>
    intro j hj
    obtain rfl : j = P := by omega
    rw [hP2]
    refine fwRun_ok k_lNameAt_4_ok rfl trivial ?_
    exact fwg_cmp 43 d_lNameAt_6 (by decide) (fun _ => k) (fun q => absurd (nI_le (Nat.le_refl i0) (by omega)) q)
  | succ q ih =>
    intro j hj
    have hc := hP j (by omega)
    refine fwRun_ok k_lNameAt_4_ok rfl trivial ?_
    refine fwg_cmp 43 d_lNameAt_6 (by decide) (fun q => absurd (show nI i0 ≤ nI (lnCnt j) from q) (nI_ge hc (by omega))) (fun _ => ?_)
    refine fwRun_ok k_lNameAt_9_ok rfl trivial ?_
    refine fwg_callK (n := 0) (as := []) (r := [.int (nI j)]) (ct_slen (c := 1) (by decide)) ⟨by decide, by decide, by decide +kernel⟩ rfl m_slen_in c_lNameAt_12 (by decide) rfl rfl (Nat.le_of_ble_eq_true rfl) d_lNameAt_12 ⟨Nat.le_of_ble_eq_true rfl, Nat.le_of_ble_eq_true rfl⟩ ⟨Nat.le_refl _, Nat.le_refl _⟩ (fun v sh' σ1 hq => ?_)
    obtain ⟨rfl, rfl, rfl⟩ := hq
    refine fwg_cmp 43 d_lNameAt_15 (by decide) (fun q => absurd (show nI 327 ≤ nI j from q) (nI_ge (by omega) (by decide))) (fun _ => ?_)
    refine fwRun_ok k_lNameAt_18_ok rfl trivial ?_
    refine fwg_callK (n := 1) (as := [.int (nI j)]) (r := [.int (nI (lnCnt j))]) (ct_schar (c := 1) (j := j) (by decide) (show j < 327 by omega)) ⟨by decide, by decide, by decide +kernel⟩ rfl m_schar_in c_lNameAt_22 (by decide) rfl rfl (Nat.le_of_ble_eq_true rfl) d_lNameAt_22 ⟨Nat.le_of_ble_eq_true rfl, Nat.le_of_ble_eq_true rfl⟩ ⟨Nat.le_refl _, Nat.le_refl _⟩ (fun v sh' σ2 hq => ?_)
    obtain ⟨rfl, rfl, rfl⟩ := hq
    refine fwRun_ok k_lNameAt_25_ok rfl trivial ?_
    refine fwg_cmp 34 d_lNameAt_27 (by decide) (fun q => ?_) (fun q => ?_)
    · have e : lnCnt (j + 1) = lnCnt j := by show lnCnt j + (if fwCh 1 j = 32 then 1 else 0) = _; rw [if_neg q, Nat.add_zero]
      refine fwRun_ok k_lNameAt_34_ok rfl trivial ?_
      refine fwRun_ok k_lNameAt_35_ok rfl trivial ?_
      refine fwg_goto 4 d_lNameAt_40 (by decide) ?_
      have := ih (j + 1) (by omega)
      rw [e, ← nI_1] at this
      have e0 : nI (lnCnt j) + 0 = nI (lnCnt j) := by rw [← nI_0, nI_add, Nat.add_zero]
      show fwG l Z m_lNameAt _ _ _ _ _ _ 4 [some (.ref 36), some (.int (nI i0)), some (.int (nI j + 1)), some (.int (nI (lnCnt j) + 0))] [] _ _
      rw [e0]
      exact this
    · have q' : fwCh 1 j = 32 := Decidable.of_not_not q
      have e : lnCnt (j + 1) = lnCnt j + 1 := by show lnCnt j + (if fwCh 1 j = 32 then 1 else 0) = _; rw [if_pos q']
      refine fwRun_ok k_lNameAt_30_ok rfl trivial ?_
      refine fwg_goto 35 d_lNameAt_31 (by decide) ?_
      refine fwRun_ok k_lNameAt_35_ok rfl trivial ?_
      refine fwg_goto 4 d_lNameAt_40 (by decide) ?_
      have := ih (j + 1) (by omega)
      rw [e, ← nI_1, ← nI_1] at this
      exact this
theorem lna_2 {i0 E : Nat} (hE : E < 327) (hE2 : fwCh 1 E = 32) {Post : fwPost} : ∀ (q j t : Nat) (σ : fwS), j + q = E → (∀ k, j ≤ k → k < E → ¬ fwCh 1 k = 32) → σ.1 36 2 = nI t → t + q ≤ 58112 → (∀ σ' : fwS, σ'.1 36 2 = nI (t + q) → fwSame [2, 36] σ σ' → Post none (shMB re) σ') → fwG l Z m_lNameAt 5 0 0 Post 0 0 43 [some (.ref 36), some (.int (nI i0)), some (.int (nI j)), some (.int (nI i0))] [] (shMB re) σ := by
  intro q
  induction q with
  | zero =>
    intro j t σ hj hn h ht hp
    obtain rfl : j = E := by omega
    refine fwRun_ok k_lNameAt_43_ok rfl trivial ?_
    refine fwg_callK (n := 0) (as := []) (r := [.int (nI j)]) (ct_slen (c := 1) (by decide)) ⟨by decide, by decide, by decide +kernel⟩ rfl m_slen_in c_lNameAt_46 (by decide) rfl rfl (Nat.le_of_ble_eq_true rfl) d_lNameAt_46 ⟨Nat.le_of_ble_eq_true rfl, Nat.le_of_ble_eq_true rfl⟩ ⟨Nat.le_refl _, Nat.le_refl _⟩ (fun v sh' σ1 hq => ?_)
    obtain ⟨rfl, rfl, rfl⟩ := hq
    refine fwg_cmp 79 d_lNameAt_49 (by decide) (fun q => absurd (show nI 327 ≤ nI j from q) (nI_ge (by omega) (by decide))) (fun _ => ?_)
    refine fwRun_ok k_lNameAt_52_ok rfl trivial ?_
    refine fwg_callK (n := 1) (as := [.int (nI j)]) (r := []) (ct_schar (c := 1) (j := j) (by decide) (show j < 327 by omega)) ⟨by decide, by decide, by decide +kernel⟩ rfl m_schar_in c_lNameAt_55 (by decide) rfl rfl (Nat.le_of_ble_eq_true rfl) d_lNameAt_55 ⟨Nat.le_of_ble_eq_true rfl, Nat.le_of_ble_eq_true rfl⟩ ⟨Nat.le_refl _, Nat.le_refl _⟩ (fun v sh' σ2 hq => ?_)
    obtain ⟨rfl, rfl, rfl⟩ := hq
    refine fwRun_ok k_lNameAt_58_ok rfl trivial ?_
    refine fwg_cmp 79 d_lNameAt_60 (by decide) (fun _ => ?_) (fun q => absurd hE2 q)
    exact fwg_vret rfl (Nat.le_refl _) (Nat.le_refl _) (hp σ2 h fwSame.rf) d_lNameAt_79
  | succ q ih =>
    intro j t σ hj hn h ht hp
    refine fwRun_ok k_lNameAt_43_ok rfl trivial ?_
    refine fwg_callK (n := 0) (as := []) (r := [.int (nI j)]) (ct_slen (c := 1) (by decide)) ⟨by decide, by decide, by decide +kernel⟩ rfl m_slen_in c_lNameAt_46 (by decide) rfl rfl (Nat.le_of_ble_eq_true rfl) d_lNameAt_46 ⟨Nat.le_of_ble_eq_true rfl, Nat.le_of_ble_eq_true rfl⟩ ⟨Nat.le_refl _, Nat.le_refl _⟩ (fun v sh' σ1 hq => ?_)
    obtain ⟨rfl, rfl, rfl⟩ := hq
    refine fwg_cmp 79 d_lNameAt_49 (by decide) (fun q => absurd (show nI 327 ≤ nI j from q) (nI_ge (by omega) (by decide))) (fun _ => ?_)
    refine fwRun_ok k_lNameAt_52_ok rfl trivial ?_
    refine fwg_callK (n := 1) (as := [.int (nI j)]) (r := []) (ct_schar (c := 1) (j := j) (by decide) (show j < 327 by omega)) ⟨by decide, by decide, by decide +kernel⟩ rfl m_schar_in c_lNameAt_55 (by decide) rfl rfl (Nat.le_of_ble_eq_true rfl) d_lNameAt_55 ⟨Nat.le_of_ble_eq_true rfl, Nat.le_of_ble_eq_true rfl⟩ ⟨Nat.le_refl _, Nat.le_refl _⟩ (fun v sh' σ2 hq => ?_)
    obtain ⟨rfl, rfl, rfl⟩ := hq
    refine fwRun_ok k_lNameAt_58_ok rfl trivial ?_
    refine fwg_cmp 79 d_lNameAt_60 (by decide) (fun q => absurd q (hn j (Nat.le_refl j) (by omega))) (fun _ => ?_)
    refine fwRun_ok k_lNameAt_63_ok rfl trivial ?_
    refine fwg_callK (n := 1) (as := [.int (nI j)]) (r := [.ref 36]) (ct_schar (c := 1) (j := j) (by decide) (show j < 327 by omega)) ⟨by decide, by decide, by decide +kernel⟩ rfl m_schar_in c_lNameAt_67 (by decide) rfl rfl (Nat.le_of_ble_eq_true rfl) d_lNameAt_67 ⟨Nat.le_of_ble_eq_true rfl, Nat.le_of_ble_eq_true rfl⟩ ⟨Nat.le_refl _, Nat.le_refl _⟩ (fun v sh' σ3 hq => ?_)
    obtain ⟨rfl, rfl, rfl⟩ := hq
    refine fwg_callV (n := 1) (i := 36) (as := [.int (fwCh 1 j)]) (r := []) (ct_lTell h (by omega)) ⟨by decide, by decide, by decide +kernel⟩ m_lTell_in c_lNameAt_70 rfl rfl rfl rfl (Nat.le_of_ble_eq_true rfl) d_lNameAt_70 ⟨Nat.le_of_ble_eq_true rfl, Nat.le_of_ble_eq_true rfl⟩ ⟨Nat.le_refl _, Nat.le_refl _⟩ (fun v sh' σ4 hq => ?_)
    obtain ⟨rfl, rfl, h4, s4⟩ := hq
    refine fwRun_ok k_lNameAt_73_ok rfl trivial ?_
    refine fwg_goto 43 d_lNameAt_76 (by decide) ?_
    have := ih (j + 1) (t + 1) σ4 (by omega) (fun k h1 h2 => hn k (by omega) h2) h4 (by omega) (fun σ' h' s' => hp σ' (by rw [h', show t + 1 + q = t + (q + 1) by omega]) (s4.tr s'))
    rw [← nI_1] at this
    exact this
/-- a word of the names: which one, where it begins and ends -/
def lnW (i0 P E : Nat) : Prop := (∀ j, j < P → lnCnt j < i0) ∧ lnCnt P = i0 ∧ P < E ∧ E < 327 ∧ fwCh 1 E = 32 ∧ i0 < 84 ∧ ∀ k, k < E → P ≤ k → ¬ fwCh 1 k = 32
theorem ct_lNameAt {i0 P E t : Nat} (hW : lnW i0 P E) (h : σ.1 36 2 = nI t) (ht : t + 400 ≤ 58112) : fwC l Z m_lNameAt 5 0 0 [.ref 36, .int (nI i0)] (shMB re) σ (fun w sh' σ' => w = none ∧ sh' = shMB re ∧ σ'.1 36 2 = nI (t + (E - P)) ∧ fwSame [2, 36] σ σ') := by
  obtain ⟨w1, w2, w3, w4, w5, w6, w7⟩ := hW
  refine fwC_of (ls := [some (.ref 36), some (.int (nI i0)), none, none]) (by decide +kernel) rfl (by rw [fw_sl1]; exact Nat.le_of_ble_eq_true rfl) ?_
  refine fwRun_ok k_lNameAt_0_ok rfl trivial ?_
  exact lna_1 w1 w2 (by omega) (by omega) (lna_2 w4 w5 (E - P) P t σ (by omega) (fun k h1 h2 => w7 k h2 h1) h (by omega) (fun σ' h' s' => ⟨rfl, rfl, h', s'⟩)) P 0 (by omega)
/-- the code's name is the i0-th, of kind kd -/
def lnK (cd : Int32) (i0 kd : Nat) : Prop := (∀ j, j < i0 → fwTv 52 j < 12 ∧ vp_in (fwTv 52 j) (fwTn 53) ∧ ¬ cd &&& fwTv 53 (fwTv 52 j).toNatClampNeg = fwTv 51 j) ∧ i0 < 84 ∧ fwTv 52 i0 = nI kd ∧ kd < 12 ∧ vp_in (nI kd) (fwTn 53) ∧ cd &&& fwTv 53 kd = fwTv 51 i0
theorem lnm_loop {cd : Int32} {i0 kd P E t : Nat} (hK : lnK cd i0 kd) (hW : lnW i0 P E) (h : σ.1 36 2 = nI t) (ht : t + 500 ≤ 58112) {Post : fwPost} (hp : ∀ σ' : fwS, σ'.1 36 2 = nI (t + (E - P) + if kd = 0 then 0 else 1) → fwSame [2, 36] σ σ' → Post (some (.int (nI kd))) (shMB re) σ') : ∀ (q j : Nat) (l3 : Option Value), j + q = i0 → fwG l Z m_lName 6 0 0 Post 0 0 2 [some (.ref 36), some (.int cd), some (.int (nI j)), l3] [] (shMB re) σ := by
  obtain ⟨g1, g2, g3, g4, g5, g6⟩ := hK
  have n84 : fwTn 52 = 84 ∧ fwTn 51 = 84 := by decide +kernel
  intro q
  induction q with
  | zero =>
    intro j l3 hj
    obtain rfl : j = i0 := by omega
    have e : (nI j).toNatClampNeg = j := nI_clamp (by omega)
    have ek : (nI kd).toNatClampNeg = kd := nI_clamp (by omega)
    refine fwRun_ok k_lName_2_ok rfl trivial ?_
    refine fwg_cmp 62 d_lName_5 (by decide) (fun q => absurd (show nI 84 ≤ nI j from q) (nI_ge (by omega) (by decide))) (fun _ => ?_)
    refine fwRun_ok k_lName_8_ok rfl (by show vp_in (nI j) (fwTn 52); rw [n84.1]; exact vp_in_nI (by omega) (by decide)) ?_
    refine fwg_cmp 62 d_lName_15 (by decide) (fun q => absurd (show nI 12 ≤ nI kd by have q' : (12 : Int32) ≤ fwTv 52 (nI j).toNatClampNeg := q; rw [e, g3] at q'; exact q') (nI_ge (by omega) (by decide))) (fun _ => ?_)
    refine fwRun_ok k_lName_18_ok rfl ⟨by show vp_in (nI j) (fwTn 52); rw [n84.1]; exact vp_in_nI (by omega) (by decide), by show vp_in (fwTv 52 (nI j).toNatClampNeg) (fwTn 53); rw [e, g3]; exact g5, by show vp_in (nI j) (fwTn 51); rw [n84.2]; exact vp_in_nI (by omega) (by decide)⟩ ?_
    show fwG l Z m_lName _ _ _ _ _ _ 36 [some (.ref 36), some (.int cd), some (.int (nI j)), some (.int (fwTv 52 (nI j).toNatClampNeg))] [.int (fwTv 51 (nI j).toNatClampNeg), .int (cd &&& fwTv 53 (fwTv 52 (nI j).toNatClampNeg).toNatClampNeg)] _ _
    rw [e, g3, ek]
    refine fwg_cmp 56 d_lName_36 (by decide) (fun q => absurd g6 q) (fun _ => ?_)
    refine fwRun_ok k_lName_39_ok rfl trivial ?_
    refine fwg_callV (n := 1) (i := 36) (as := [.int (nI j)]) (r := []) (ct_lNameAt hW h (by omega)) ⟨by decide, by decide, by decide +kernel⟩ m_lNameAt_in c_lName_41 rfl rfl rfl rfl (Nat.le_of_ble_eq_true rfl) d_lName_41 ⟨Nat.le_of_ble_eq_true rfl, Nat.le_of_ble_eq_true rfl⟩ ⟨Nat.le_refl _, Nat.le_refl _⟩ (fun v sh' σ1 hq => ?_)
    obtain ⟨rfl, rfl, h1, s1⟩ := hq
    refine fwRun_ok k_lName_44_ok rfl trivial ?_
    refine fwg_if 54 d_lName_45 (by decide) (fun q => ?_) (fun q => ?_)
    · have k0 : kd = 0 := by
        have q' : nI kd = 0 := q
        have := congrArg Int32.toNatClampNeg q'
        rw [ek] at this
        exact this
      refine fwRun_ok k_lName_54_ok rfl trivial ?_
      refine fwg_iret rfl (Nat.le_refl _) (Nat.le_refl _) (hp σ1 ?_ s1) d_lName_55
      rw [if_pos k0]
      exact h1
    · have k0 : ¬ kd = 0 := fun z => q (by subst z; exact nI_0)
      refine fwRun_ok k_lName_48_ok rfl trivial ?_
      refine fwg_callV (n := 1) (i := 36) (as := [.int 32]) (r := []) (ct_lTell h1 (by have := hW.2.2.2.1; omega)) ⟨by decide, by decide, by decide +kernel⟩ m_lTell_in c_lName_51 rfl rfl rfl rfl (Nat.le_of_ble_eq_true rfl) d_lName_51 ⟨Nat.le_of_ble_eq_true rfl, Nat.le_of_ble_eq_true rfl⟩ ⟨Nat.le_refl _, Nat.le_refl _⟩ (fun v sh' σ2 hq => ?_)
      obtain ⟨rfl, rfl, h2, s2⟩ := hq
      refine fwRun_ok k_lName_54_ok rfl trivial ?_
      refine fwg_iret rfl (Nat.le_refl _) (Nat.le_refl _) (hp σ2 ?_ (s1.tr s2)) d_lName_55
      rw [if_neg k0]
      exact h2
  | succ q ih =>
    intro j l3 hj
    obtain ⟨f1, f2, f3⟩ := g1 j (by omega)
    have e : (nI j).toNatClampNeg = j := nI_clamp (by omega)
    refine fwRun_ok k_lName_2_ok rfl trivial ?_
    refine fwg_cmp 62 d_lName_5 (by decide) (fun q => absurd (show nI 84 ≤ nI j from q) (nI_ge (by omega) (by decide))) (fun _ => ?_)
    refine fwRun_ok k_lName_8_ok rfl (by show vp_in (nI j) (fwTn 52); rw [n84.1]; exact vp_in_nI (by omega) (by decide)) ?_
    refine fwg_cmp 62 d_lName_15 (by decide) (fun q => absurd f1 (by have q' : (12 : Int32) ≤ fwTv 52 (nI j).toNatClampNeg := q; rw [e] at q'; exact Int32.not_lt.mpr q')) (fun _ => ?_)
    refine fwRun_ok k_lName_18_ok rfl ⟨by show vp_in (nI j) (fwTn 52); rw [n84.1]; exact vp_in_nI (by omega) (by decide), by show vp_in (fwTv 52 (nI j).toNatClampNeg) (fwTn 53); rw [e]; exact f2, by show vp_in (nI j) (fwTn 51); rw [n84.2]; exact vp_in_nI (by omega) (by decide)⟩ ?_
    show fwG l Z m_lName _ _ _ _ _ _ 36 [some (.ref 36), some (.int cd), some (.int (nI j)), some (.int (fwTv 52 (nI j).toNatClampNeg))] [.int (fwTv 51 (nI j).toNatClampNeg), .int (cd &&& fwTv 53 (fwTv 52 (nI j).toNatClampNeg).toNatClampNeg)] _ _
    rw [e]
    refine fwg_cmp 56 d_lName_36 (by decide) (fun _ => ?_) (fun q => absurd f3 q)
    refine fwRun_ok k_lName_56_ok rfl trivial ?_
    refine fwg_goto 2 d_lName_59 (by decide) ?_
    have := ih (j + 1) (some (.int (fwTv 52 j))) (by omega)
    rw [← nI_1] at this
    exact this
theorem ct_lName {cd : Int32} {i0 kd P E t : Nat} (hK : lnK cd i0 kd) (hW : lnW i0 P E) (h : σ.1 36 2 = nI t) (ht : t + 500 ≤ 58112) : fwC l Z m_lName 6 0 0 [.ref 36, .int cd] (shMB re) σ (fun w sh' σ' => w = some (.int (nI kd)) ∧ sh' = shMB re ∧ σ'.1 36 2 = nI (t + (E - P) + if kd = 0 then 0 else 1) ∧ fwSame [2, 36] σ σ') := by
  refine fwC_of (ls := [some (.ref 36), some (.int cd), none, none]) (by decide +kernel) rfl (by rw [fw_sl1]; exact Nat.le_of_ble_eq_true rfl) ?_
  refine fwRun_ok k_lName_0_ok rfl trivial ?_
  exact lnm_loop hK hW h ht (fun σ' h' s' => ⟨rfl, rfl, h', s'⟩) i0 0 none (by omega)
theorem ct_lReg {x : Int32} {j t : Nat} (hx : x &&& 7 = nI j) (hj : j < 8) (h : σ.1 36 2 = nI t) (ht : t < 58112) : fwC l Z m_lReg 5 0 0 [.ref 36, .int x] (shMB re) σ (fun w sh' σ' => w = none ∧ sh' = shMB re ∧ σ'.1 36 2 = nI (t + 1) ∧ fwSame [2, 36] σ σ') := by
  refine fwC_of (ls := [some (.ref 36), some (.int x)]) (by decide +kernel) rfl (by rw [fw_sl1]; exact Nat.le_refl 2) ?_
  refine fwRun_ok k_lReg_0_ok rfl trivial ?_
  show fwG l Z m_lReg _ _ _ _ _ _ 7 _ [.int (x &&& 7), .retAddr 19, .ref 36] _ _
  rw [hx]
  refine fwg_callK (n := 1) (as := [.int (nI j)]) (r := [.ref 36]) (ct_schar (c := 19) (j := j) (by decide) (show j < 8 from hj)) ⟨by decide, by decide, by decide +kernel⟩ rfl m_schar_in c_lReg_7 (by decide) rfl rfl (Nat.le_of_ble_eq_true rfl) d_lReg_7 ⟨Nat.le_of_ble_eq_true rfl, Nat.le_of_ble_eq_true rfl⟩ ⟨Nat.le_refl _, Nat.le_refl _⟩ (fun v sh' σ1 hq => ?_)
  obtain ⟨rfl, rfl, rfl⟩ := hq
  refine fwg_callV (n := 1) (i := 36) (as := [.int (fwCh 19 j)]) (r := []) (ct_lTell h ht) ⟨by decide, by decide, by decide +kernel⟩ m_lTell_in c_lReg_10 rfl rfl rfl rfl (Nat.le_of_ble_eq_true rfl) d_lReg_10 ⟨Nat.le_of_ble_eq_true rfl, Nat.le_of_ble_eq_true rfl⟩ ⟨Nat.le_refl _, Nat.le_refl _⟩ (fun v sh' σ2 hq => ?_)
  obtain ⟨rfl, rfl, h2, s2⟩ := hq
  exact fwg_vret rfl (Nat.le_refl _) (Nat.le_refl _) ⟨rfl, rfl, h2, s2⟩ d_lReg_13
theorem ct_lPair {x : Int32} {j t : Nat} (hj : j < 3) (h : σ.1 36 2 = nI t) (ht : t < 58112) : fwC l Z m_lPair 5 0 0 [.ref 36, .int x, .int (nI j)] (shMB re) σ (fun w sh' σ' => w = none ∧ sh' = shMB re ∧ σ'.1 36 2 = nI (t + 1) ∧ fwSame [2, 36] σ σ') := by
  refine fwC_of (ls := [some (.ref 36), some (.int x), some (.int (nI j))]) (by decide +kernel) rfl (by rw [fw_sl1]; exact Nat.le_refl 3) ?_
  refine fwRun_ok k_lPair_0_ok rfl trivial ?_
  refine fwg_cmp 18 d_lPair_2 (by decide) (fun q => absurd (show nI 3 ≤ nI j from q) (nI_ge hj (by decide))) (fun _ => ?_)
  refine fwRun_ok k_lPair_5_ok rfl trivial ?_
  refine fwg_callK (n := 1) (as := [.int (nI j)]) (r := [.ref 36]) (ct_schar (c := 20) (j := j) (by decide) (show j < 3 from hj)) ⟨by decide, by decide, by decide +kernel⟩ rfl m_schar_in c_lPair_9 (by decide) rfl rfl (Nat.le_of_ble_eq_true rfl) d_lPair_9 ⟨Nat.le_of_ble_eq_true rfl, Nat.le_of_ble_eq_true rfl⟩ ⟨Nat.le_refl _, Nat.le_refl _⟩ (fun v sh' σ1 hq => ?_)
  obtain ⟨rfl, rfl, rfl⟩ := hq
  refine fwg_callV (n := 1) (i := 36) (as := [.int (fwCh 20 j)]) (r := []) (ct_lTell h ht) ⟨by decide, by decide, by decide +kernel⟩ m_lTell_in c_lPair_12 rfl rfl rfl rfl (Nat.le_of_ble_eq_true rfl) d_lPair_12 ⟨Nat.le_of_ble_eq_true rfl, Nat.le_of_ble_eq_true rfl⟩ ⟨Nat.le_refl _, Nat.le_refl _⟩ (fun v sh' σ2 hq => ?_)
  obtain ⟨rfl, rfl, h2, s2⟩ := hq
  refine fwg_goto 35 d_lPair_15 (by decide) ?_
  exact fwg_vret rfl (Nat.le_refl _) (Nat.le_refl _) ⟨rfl, rfl, h2, s2⟩ d_lPair_35
theorem lhx_loop {v x : Int32} {Post : fwPost} : ∀ (q t : Nat) (σ : fwS), q ≤ 8 → σ.1 36 2 = nI t → t + q + 1 ≤ 58112 → (∀ σ' : fwS, σ'.1 36 2 = nI (t + q + 1) → fwSame [2, 36] σ σ' → Post none (shMB re) σ') → fwG l Z m_lHex 5 0 0 Post 0 0 19 [some (.ref 36), some (.int v), some (.int x), some (.int (nI (4 * q) - 4))] [] (shMB re) σ := by
  intro q
  induction q with
  | zero =>
    intro t σ hq h ht hp
    refine fwRun_ok k_lHex_19_ok rfl trivial ?_
    refine fwg_if 44 d_lHex_20 (by decide) (fun _ => ?_) (fun q => absurd (show nI (4 * 0) - 4 < 0 by decide) q)
    refine fwRun_ok k_lHex_44_ok rfl trivial ?_
    refine fwg_callV (n := 1) (i := 36) (as := [.int 72]) (r := []) (ct_lTell h (by omega)) ⟨by decide, by decide, by decide +kernel⟩ m_lTell_in c_lHex_47 rfl rfl rfl rfl (Nat.le_of_ble_eq_true rfl) d_lHex_47 ⟨Nat.le_of_ble_eq_true rfl, Nat.le_of_ble_eq_true rfl⟩ ⟨Nat.le_refl _, Nat.le_refl _⟩ (fun v sh' σ1 hq => ?_)
    obtain ⟨rfl, rfl, h1, s1⟩ := hq
    exact fwg_vret rfl (Nat.le_refl _) (Nat.le_refl _) (hp σ1 h1 s1) d_lHex_50
  | succ q ih =>
    intro t σ hq h ht hp
    have e : nI (4 * (q + 1)) - 4 = nI (4 * q) := by
      show nI (4 * (q + 1)) - nI 4 = _
      rw [pk_sub (by omega)]
      congr 1
    rw [e]
    refine fwRun_ok k_lHex_19_ok rfl trivial ?_
    refine fwg_if 44 d_lHex_20 (by decide) (fun z => absurd (show nI (4 * q) < nI 0 from z) (nI_nlt (a := 4 * q) (b := 0) (by omega) (by omega))) (fun _ => ?_)
    refine fwRun_ok k_lHex_23_ok rfl trivial ?_
    obtain ⟨d, hd, ed⟩ := pk_and15 (v >>> (nI (4 * q) &&& 31))
    show fwG l Z m_lHex _ _ _ _ _ _ 32 _ [.int (v >>> (nI (4 * q) &&& 31) &&& 15), .retAddr 7, .ref 36] _ _
    rw [ed]
    refine fwg_callK (n := 1) (as := [.int (nI d)]) (r := [.ref 36]) (ct_schar (c := 7) (j := d) (by decide) (show d < 16 from hd)) ⟨by decide, by decide, by decide +kernel⟩ rfl m_schar_in c_lHex_32 (by decide) rfl rfl (Nat.le_of_ble_eq_true rfl) d_lHex_32 ⟨Nat.le_of_ble_eq_true rfl, Nat.le_of_ble_eq_true rfl⟩ ⟨Nat.le_refl _, Nat.le_refl _⟩ (fun v sh' σ1 hq => ?_)
    obtain ⟨rfl, rfl, rfl⟩ := hq
    refine fwg_callV (n := 1) (i := 36) (as := [.int (fwCh 7 d)]) (r := []) (ct_lTell h (by omega)) ⟨by decide, by decide, by decide +kernel⟩ m_lTell_in c_lHex_35 rfl rfl rfl rfl (Nat.le_of_ble_eq_true rfl) d_lHex_35 ⟨Nat.le_of_ble_eq_true rfl, Nat.le_of_ble_eq_true rfl⟩ ⟨Nat.le_refl _, Nat.le_refl _⟩ (fun v sh' σ2 hq => ?_)
    obtain ⟨rfl, rfl, h2, s2⟩ := hq
    refine fwRun_ok k_lHex_38_ok rfl trivial ?_
    refine fwg_goto 19 d_lHex_41 (by decide) ?_
    have := ih (t + 1) σ2 (by omega) h2 (by omega) (fun σ' h' s' => hp σ' (by rw [h', show t + 1 + q + 1 = t + (q + 1) + 1 by omega]) (s2.tr s'))
    rw [Int32.sub_eq_add_neg] at this
    exact this
theorem ct_lHex {v : Int32} {n t : Nat} (hn : n < 8) (h : σ.1 36 2 = nI t) (ht : t + 20 ≤ 58112) : fwC l Z m_lHex 5 0 0 [.ref 36, .int v, .int (nI (4 * n))] (shMB re) σ (fun w sh' σ' => w = none ∧ sh' = shMB re ∧ σ'.1 36 2 = nI (t + (n + 2) + if 9 < v >>> (nI (4 * n) &&& 31) &&& 15 then 1 else 0) ∧ fwSame [2, 36] σ σ') := by
  refine fwC_of (ls := [some (.ref 36), some (.int v), some (.int (nI (4 * n))), none]) (by decide +kernel) rfl (by rw [fw_sl1]; exact Nat.le_of_ble_eq_true rfl) ?_
  have e : nI (4 * n) = nI (4 * (n + 1)) - 4 := by
    show _ = nI (4 * (n + 1)) - nI 4
    rw [pk_sub (by omega)]
    congr 1
  refine fwRun_ok k_lHex_0_ok rfl trivial ?_
  refine fwg_cmp 17 d_lHex_8 (by decide) (fun q => ?_) (fun q => ?_)
  · have q' : ¬ 9 < v >>> (nI (4 * n) &&& 31) &&& 15 := Int32.not_lt.mpr q
    rw [if_neg q']
    refine fwRun_ok k_lHex_17_ok rfl trivial ?_
    have := lhx_loop (l := l) (Z := Z) (re := re) (v := v) (x := nI (4 * n)) (n + 1) t σ (by omega) h (by omega) (Post := fun w sh' σ' => w = none ∧ sh' = shMB re ∧ σ'.1 36 2 = nI (t + (n + 2) + 0) ∧ fwSame [2, 36] σ σ') (fun σ' h' s' => ⟨rfl, rfl, h', s'⟩)
    rw [← e] at this
    exact this
  · have q' : 9 < v >>> (nI (4 * n) &&& 31) &&& 15 := Int32.not_le.mp q
    rw [if_pos q']
    refine fwRun_ok k_lHex_11_ok rfl trivial ?_
    refine fwg_callV (n := 1) (i := 36) (as := [.int 48]) (r := []) (ct_lTell h (by omega)) ⟨by decide, by decide, by decide +kernel⟩ m_lTell_in c_lHex_14 rfl rfl rfl rfl (Nat.le_of_ble_eq_true rfl) d_lHex_14 ⟨Nat.le_of_ble_eq_true rfl, Nat.le_of_ble_eq_true rfl⟩ ⟨Nat.le_refl _, Nat.le_refl _⟩ (fun v sh' σ1 hq => ?_)
    obtain ⟨rfl, rfl, h1, s1⟩ := hq
    refine fwRun_ok k_lHex_17_ok rfl trivial ?_
    have := lhx_loop (l := l) (Z := Z) (re := re) (v := v) (x := nI (4 * n)) (n + 1) (t + 1) σ1 (by omega) h1 (by omega) (Post := fun w sh' σ' => w = none ∧ sh' = shMB re ∧ σ'.1 36 2 = nI (t + (n + 2) + 1) ∧ fwSame [2, 36] σ σ') (fun σ' h' s' => ⟨rfl, rfl, by rw [h', show t + 1 + (n + 1) + 1 = t + (n + 2) + 1 by omega], s1.tr s'⟩)
    rw [← e] at this
    exact this
theorem ct_lByte {v : Int32} {t : Nat} (h : σ.1 36 2 = nI t) (ht : t + 20 ≤ 58112) : fwC l Z m_lByte 6 0 0 [.ref 36, .int v] (shMB re) σ (fun w sh' σ' => w = none ∧ sh' = shMB re ∧ σ'.1 36 2 = nI (t + 3 + if 9 < v >>> (nI 4 &&& 31) &&& 15 then 1 else 0) ∧ fwSame [2, 36] σ σ') := by
  refine fwC_of (ls := [some (.ref 36), some (.int v)]) (by decide +kernel) rfl (by rw [fw_sl1]; exact Nat.le_refl 2) ?_
  refine fwRun_ok k_lByte_0_ok rfl trivial ?_
  refine fwg_callV (n := 2) (i := 36) (as := [.int v, .int (nI (4 * 1))]) (r := []) (ct_lHex (n := 1) (by decide) h ht) ⟨by decide, by decide, by decide +kernel⟩ m_lHex_in c_lByte_3 rfl rfl rfl rfl (Nat.le_of_ble_eq_true rfl) d_lByte_3 ⟨Nat.le_of_ble_eq_true rfl, Nat.le_of_ble_eq_true rfl⟩ ⟨Nat.le_refl _, Nat.le_refl _⟩ (fun v sh' σ1 hq => ?_)
  obtain ⟨rfl, rfl, h1, s1⟩ := hq
  exact fwg_vret rfl (Nat.le_refl _) (Nat.le_refl _) ⟨rfl, rfl, h1, s1⟩ d_lByte_6
theorem ct_lWord {a x y : Int32} {t : Nat} (hx : σ.1 9 (a &&& 65535).toNatClampNeg &&& 255 = x) (hy : σ.1 9 ((a + 1) &&& 65535).toNatClampNeg &&& 255 = y) (h : σ.1 36 2 = nI t) (ht : t + 20 ≤ 58112) : fwC l Z m_lWord 6 0 0 [.ref 36, .int a] (shMB re) σ (fun w sh' σ' => w = none ∧ sh' = shMB re ∧ σ'.1 36 2 = nI (t + 5 + if 9 < (x ||| y <<< ((8 : Int32) &&& 31)) >>> (nI 12 &&& 31) &&& 15 then 1 else 0) ∧ fwSame [2, 36] σ σ') := by
  refine fwC_of (ls := [some (.ref 36), some (.int a)]) (by decide +kernel) rfl (by rw [fw_sl1]; exact Nat.le_refl 2) ?_
  subst hx
  subst hy
  refine fwRun_ok k_lWord_0_ok rfl trivial ?_
  refine fwg_callV (n := 1) (i := 36) (as := [.int a]) (r := [.ref 36]) (ct_lPeek) ⟨by decide, by decide, by decide +kernel⟩ m_lPeek_in c_lWord_3 rfl rfl rfl rfl (Nat.le_of_ble_eq_true rfl) d_lWord_3 ⟨Nat.le_of_ble_eq_true rfl, Nat.le_of_ble_eq_true rfl⟩ ⟨Nat.le_refl _, Nat.le_refl _⟩ (fun v sh' σ1 hq => ?_)
  obtain ⟨rfl, rfl, rfl⟩ := hq
  refine fwRun_ok k_lWord_6_ok rfl trivial ?_
  refine fwg_callV (n := 1) (i := 36) (as := [.int (a + 1)]) (r := [.int (σ1.1 9 (a &&& 65535).toNatClampNeg &&& 255), .ref 36]) (ct_lPeek) ⟨by decide, by decide, by decide +kernel⟩ m_lPeek_in c_lWord_10 rfl rfl rfl rfl (Nat.le_of_ble_eq_true rfl) d_lWord_10 ⟨Nat.le_of_ble_eq_true rfl, Nat.le_of_ble_eq_true rfl⟩ ⟨Nat.le_refl _, Nat.le_refl _⟩ (fun v sh' σ2 hq => ?_)
  obtain ⟨rfl, rfl, rfl⟩ := hq
  refine fwRun_ok k_lWord_13_ok rfl trivial ?_
  refine fwg_callV (n := 2) (i := 36) (as := [.int (σ2.1 9 (a &&& 65535).toNatClampNeg &&& 255 ||| (σ2.1 9 ((a + 1) &&& 65535).toNatClampNeg &&& 255) <<< ((8 : Int32) &&& 31)), .int (nI (4 * 3))]) (r := []) (ct_lHex (n := 3) (by decide) h ht) ⟨by decide, by decide, by decide +kernel⟩ m_lHex_in c_lWord_19 rfl rfl rfl rfl (Nat.le_of_ble_eq_true rfl) d_lWord_19 ⟨Nat.le_of_ble_eq_true rfl, Nat.le_of_ble_eq_true rfl⟩ ⟨Nat.le_refl _, Nat.le_refl _⟩ (fun v sh' σ3 hq => ?_)
  obtain ⟨rfl, rfl, h1, s1⟩ := hq
  exact fwg_vret rfl (Nat.le_refl _) (Nat.le_refl _) ⟨rfl, rfl, h1, s1⟩ d_lWord_22
end LST
