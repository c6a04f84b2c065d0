/-! methods, their instructions, by program (wip/whole/methods.py) -/
/-- MonitorBoardModel.tell(I)V -/
abbrev m_rTell : fwM := (⟨"MonitorBoardModel", "tell", "(I)V"⟩, prog_13_method_17_code, 2, (none : Option FieldType))
theorem m_rTell_in : Cond.code m_rTell.1 m_rTell.2.1 m_rTell.2.2.1 m_rTell.2.2.2 ∈ fwT := fwT_mem (List.mem_of_getElem? (i := 1958) (by decide +kernel)) rfl
def k_rTell_0 : List fwO := [(.aload_n 0, 0, 0, .null), (.getfield 24, 1, 4, .retAddr 167), (.aload_n 0, 0, 0, .null), (.getfield 132, 1, 9, .retAddr 172), (.aload_n 0, 0, 0, .null), (.getfield 126, 1, 10, .retAddr 173), (.iadd, 0, 0, .null), (.sipush 8000, 0, 0, .int 8000), (.irem, 0, 0, .null), (.iload_n 1, 0, 0, .null), (.i2b, 0, 0, .null), (.bastore, 0, 0, .null), (.aload_n 0, 0, 0, .null), (.getfield 126, 1, 10, .retAddr 173), (.sipush 8000, 0, 0, .int 8000)]
theorem k_rTell_0_ok : fwChain m_rTell.1.cls m_rTell.2.1 0 k_rTell_0 27 = true := by decide +kernel
theorem d_rTell_27 : decode m_rTell.2.1 27 = .ok (.if_icmp .ne 20, 3) := by decide +kernel
def k_rTell_30 : List fwO := [(.aload_n 0, 0, 0, .null), (.aload_n 0, 0, 0, .null), (.getfield 132, 1, 9, .retAddr 172), (.iconst 1, 0, 0, .int 1), (.iadd, 0, 0, .null), (.sipush 8000, 0, 0, .int 8000), (.irem, 0, 0, .null), (.putfield 132, 1, 9, .retAddr 172)]
theorem k_rTell_30_ok : fwChain m_rTell.1.cls m_rTell.2.1 30 k_rTell_30 44 = true := by decide +kernel
theorem d_rTell_44 : decode m_rTell.2.1 44 = .ok (.goto 13, 3) := by decide +kernel
def k_rTell_47 : List fwO := [(.aload_n 0, 0, 0, .null), (.dup, 0, 0, .null), (.getfield 126, 1, 10, .retAddr 173), (.iconst 1, 0, 0, .int 1), (.iadd, 0, 0, .null), (.putfield 126, 1, 10, .retAddr 173)]
theorem k_rTell_47_ok : fwChain m_rTell.1.cls m_rTell.2.1 47 k_rTell_47 57 = true := by decide +kernel
theorem d_rTell_57 : decode m_rTell.2.1 57 = .ok (.return_, 1) := by decide +kernel
/-- MonitorBoardModel.newLine()V -/
abbrev m_rNewLine : fwM := (⟨"MonitorBoardModel", "newLine", "()V"⟩, prog_13_method_19_code, 1, (none : Option FieldType))
theorem m_rNewLine_in : Cond.code m_rNewLine.1 m_rNewLine.2.1 m_rNewLine.2.2.1 m_rNewLine.2.2.2 ∈ fwT := fwT_mem (List.mem_of_getElem? (i := 1954) (by decide +kernel)) rfl
def k_rNewLine_0 : List fwO := [(.aload_n 0, 0, 0, .null), (.bipush 13, 0, 0, .int 13)]
theorem k_rNewLine_0_ok : fwChain m_rNewLine.1.cls m_rNewLine.2.1 0 k_rNewLine_0 3 = true := by decide +kernel
theorem d_rNewLine_3 : decode m_rNewLine.2.1 3 = .ok (.invokevirtual 149, 3) := by decide +kernel
def k_rNewLine_6 : List fwO := [(.aload_n 0, 0, 0, .null), (.bipush 10, 0, 0, .int 10)]
theorem k_rNewLine_6_ok : fwChain m_rNewLine.1.cls m_rNewLine.2.1 6 k_rNewLine_6 9 = true := by decide +kernel
theorem d_rNewLine_9 : decode m_rNewLine.2.1 9 = .ok (.invokevirtual 149, 3) := by decide +kernel
theorem d_rNewLine_12 : decode m_rNewLine.2.1 12 = .ok (.return_, 1) := by decide +kernel
/-- MonitorBoardModel.tellText(Ljava/lang/String;)V -/
abbrev m_rTellText : fwM := (⟨"MonitorBoardModel", "tellText", "(Ljava/lang/String;)V"⟩, prog_13_method_18_code, 3, (none : Option FieldType))
theorem m_rTellText_in : Cond.code m_rTellText.1 m_rTellText.2.1 m_rTellText.2.2.1 m_rTellText.2.2.2 ∈ fwT := fwT_mem (List.mem_of_getElem? (i := 1963) (by decide +kernel)) rfl
def k_rTellText_0 : List fwO := [(.iconst 0, 0, 0, .int 0), (.istore_n 2, 0, 0, .null)]
theorem k_rTellText_0_ok : fwChain m_rTellText.1.cls m_rTellText.2.1 0 k_rTellText_0 2 = true := by decide +kernel
def k_rTellText_2 : List fwO := [(.iload_n 2, 0, 0, .null), (.aload_n 1, 0, 0, .null)]
theorem k_rTellText_2_ok : fwChain m_rTellText.1.cls m_rTellText.2.1 2 k_rTellText_2 4 = true := by decide +kernel
theorem d_rTellText_4 : decode m_rTellText.2.1 4 = .ok (.invokevirtual 140, 3) := by decide +kernel
theorem d_rTellText_7 : decode m_rTellText.2.1 7 = .ok (.if_icmp .ge 18, 3) := by decide +kernel
def k_rTellText_10 : List fwO := [(.aload_n 0, 0, 0, .null), (.aload_n 1, 0, 0, .null), (.iload_n 2, 0, 0, .null)]
theorem k_rTellText_10_ok : fwChain m_rTellText.1.cls m_rTellText.2.1 10 k_rTellText_10 13 = true := by decide +kernel
theorem d_rTellText_13 : decode m_rTellText.2.1 13 = .ok (.invokevirtual 145, 3) := by decide +kernel
theorem d_rTellText_16 : decode m_rTellText.2.1 16 = .ok (.invokevirtual 149, 3) := by decide +kernel
def k_rTellText_19 : List fwO := [(.iinc 2 1, 0, 0, .int 1)]
theorem k_rTellText_19_ok : fwChain m_rTellText.1.cls m_rTellText.2.1 19 k_rTellText_19 22 = true := by decide +kernel
theorem d_rTellText_22 : decode m_rTellText.2.1 22 = .ok (.goto (-20), 3) := by decide +kernel
theorem d_rTellText_25 : decode m_rTellText.2.1 25 = .ok (.return_, 1) := by decide +kernel
/-- MonitorBoardModel.set(II)V -/
abbrev m_rSet : fwM := (⟨"MonitorBoardModel", "set", "(II)V"⟩, prog_13_method_14_code, 3, (none : Option FieldType))
theorem m_rSet_in : Cond.code m_rSet.1 m_rSet.2.1 m_rSet.2.2.1 m_rSet.2.2.2 ∈ fwT := fwT_mem (List.mem_of_getElem? (i := 1973) (by decide +kernel)) rfl
def k_rSet_0 : List fwO := [(.iload_n 1, 0, 0, .null), (.ldc 135, 37, 0, .int 1048576)]
theorem k_rSet_0_ok : fwChain m_rSet.1.cls m_rSet.2.1 0 k_rSet_0 3 = true := by decide +kernel
theorem d_rSet_3 : decode m_rSet.2.1 3 = .ok (.if_icmp .lt 17, 3) := by decide +kernel
def k_rSet_6 : List fwO := [(.aload_n 0, 0, 0, .null), (.getfield 35, 1, 19, .retAddr 182), (.iload_n 1, 0, 0, .null), (.ldc 135, 37, 0, .int 1048576), (.isub, 0, 0, .null), (.iload_n 2, 0, 0, .null), (.i2b, 0, 0, .null), (.bastore, 0, 0, .null)]
theorem k_rSet_6_ok : fwChain m_rSet.1.cls m_rSet.2.1 6 k_rSet_6 17 = true := by decide +kernel
theorem d_rSet_17 : decode m_rSet.2.1 17 = .ok (.goto 14, 3) := by decide +kernel
def k_rSet_20 : List fwO := [(.aload_n 0, 0, 0, .null), (.getfield 10, 1, 0, .retAddr 163), (.iload_n 1, 0, 0, .null), (.ldc 111, 38, 0, .int 65535), (.iand, 0, 0, .null), (.iload_n 2, 0, 0, .null), (.i2b, 0, 0, .null), (.bastore, 0, 0, .null)]
theorem k_rSet_20_ok : fwChain m_rSet.1.cls m_rSet.2.1 20 k_rSet_20 31 = true := by decide +kernel
theorem d_rSet_31 : decode m_rSet.2.1 31 = .ok (.return_, 1) := by decide +kernel
/-- MonitorBoardModel.setWord(II)V -/
abbrev m_rSetWord : fwM := (⟨"MonitorBoardModel", "setWord", "(II)V"⟩, prog_13_method_16_code, 3, (none : Option FieldType))
theorem m_rSetWord_in : Cond.code m_rSetWord.1 m_rSetWord.2.1 m_rSetWord.2.2.1 m_rSetWord.2.2.2 ∈ fwT := fwT_mem (List.mem_of_getElem? (i := 1980) (by decide +kernel)) rfl
def k_rSetWord_0 : List fwO := [(.aload_n 0, 0, 0, .null), (.iload_n 1, 0, 0, .null), (.iload_n 2, 0, 0, .null)]
theorem k_rSetWord_0_ok : fwChain m_rSetWord.1.cls m_rSetWord.2.1 0 k_rSetWord_0 3 = true := by decide +kernel
theorem d_rSetWord_3 : decode m_rSetWord.2.1 3 = .ok (.invokevirtual 112, 3) := by decide +kernel
def k_rSetWord_6 : List fwO := [(.aload_n 0, 0, 0, .null), (.iload_n 1, 0, 0, .null), (.iconst 1, 0, 0, .int 1), (.iadd, 0, 0, .null), (.iload_n 2, 0, 0, .null), (.bipush 8, 0, 0, .int 8), (.ishr, 0, 0, .null)]
theorem k_rSetWord_6_ok : fwChain m_rSetWord.1.cls m_rSetWord.2.1 6 k_rSetWord_6 14 = true := by decide +kernel
theorem d_rSetWord_14 : decode m_rSetWord.2.1 14 = .ok (.invokevirtual 112, 3) := by decide +kernel
theorem d_rSetWord_17 : decode m_rSetWord.2.1 17 = .ok (.return_, 1) := by decide +kernel
/-- MonitorBoardModel.sectorAt(III)I -/
abbrev m_rSectorAt : fwM := (⟨"MonitorBoardModel", "sectorAt", "(III)I"⟩, prog_13_method_46_code, 4, (some FieldType.int))
theorem m_rSectorAt_in : Cond.code m_rSectorAt.1 m_rSectorAt.2.1 m_rSectorAt.2.2.1 m_rSectorAt.2.2.2 ∈ fwT := fwT_mem (List.mem_of_getElem? (i := 2001) (by decide +kernel)) rfl
def k_rSectorAt_0 : List fwO := [(.sipush 128, 0, 0, .int 128), (.bipush 77, 0, 0, .int 77), (.iload_n 1, 0, 0, .null), (.imul, 0, 0, .null), (.iload_n 2, 0, 0, .null), (.iadd, 0, 0, .null), (.bipush 26, 0, 0, .int 26), (.imul, 0, 0, .null), (.iload_n 3, 0, 0, .null), (.iadd, 0, 0, .null), (.iconst 1, 0, 0, .int 1), (.isub, 0, 0, .null), (.imul, 0, 0, .null)]
theorem k_rSectorAt_0_ok : fwChain m_rSectorAt.1.cls m_rSectorAt.2.1 0 k_rSectorAt_0 17 = true := by decide +kernel
theorem d_rSectorAt_17 : decode m_rSectorAt.2.1 17 = .ok (.ireturn, 1) := by decide +kernel
/-- MonitorBoardModel.recordAt(III)I -/
abbrev m_rRecordAt : fwM := (⟨"MonitorBoardModel", "recordAt", "(III)I"⟩, prog_13_method_47_code, 6, (some FieldType.int))
theorem m_rRecordAt_in : Cond.code m_rRecordAt.1 m_rRecordAt.2.1 m_rRecordAt.2.2.1 m_rRecordAt.2.2.2 ∈ fwT := fwT_mem (List.mem_of_getElem? (i := 1997) (by decide +kernel)) rfl
def k_rRecordAt_0 : List fwO := [(.bipush 8, 0, 0, .int 8), (.iload_n 2, 0, 0, .null), (.imul, 0, 0, .null), (.iload_n 3, 0, 0, .null), (.iadd, 0, 0, .null), (.istore 4, 0, 0, .null), (.iload 4, 0, 0, .null), (.bipush 26, 0, 0, .int 26), (.irem, 0, 0, .null), (.istore 5, 0, 0, .null), (.aload_n 0, 0, 0, .null), (.iload_n 1, 0, 0, .null), (.iconst 2, 0, 0, .int 2), (.iload 4, 0, 0, .null), (.bipush 26, 0, 0, .int 26), (.idiv, 0, 0, .null), (.iadd, 0, 0, .null), (.iconst 1, 0, 0, .int 1), (.bipush 6, 0, 0, .int 6), (.iload 5, 0, 0, .null), (.imul, 0, 0, .null), (.iload 5, 0, 0, .null), (.bipush 13, 0, 0, .int 13), (.idiv, 0, 0, .null), (.iadd, 0, 0, .null), (.bipush 26, 0, 0, .int 26), (.irem, 0, 0, .null), (.iadd, 0, 0, .null)]
theorem k_rRecordAt_0_ok : fwChain m_rRecordAt.1.cls m_rRecordAt.2.1 0 k_rRecordAt_0 40 = true := by decide +kernel
theorem d_rRecordAt_40 : decode m_rRecordAt.2.1 40 = .ok (.invokevirtual 284, 3) := by decide +kernel
theorem d_rRecordAt_43 : decode m_rRecordAt.2.1 43 = .ok (.ireturn, 1) := by decide +kernel
/-- MonitorBoardModel.entryAt(III)I -/
abbrev m_rEntryAt : fwM := (⟨"MonitorBoardModel", "entryAt", "(III)I"⟩, prog_13_method_49_code, 4, (some FieldType.int))
theorem m_rEntryAt_in : Cond.code m_rEntryAt.1 m_rEntryAt.2.1 m_rEntryAt.2.2.1 m_rEntryAt.2.2.2 ∈ fwT := fwT_mem (List.mem_of_getElem? (i := 1993) (by decide +kernel)) rfl
def k_rEntryAt_0 : List fwO := [(.aload_n 0, 0, 0, .null), (.iload_n 1, 0, 0, .null), (.iload_n 2, 0, 0, .null), (.bipush 32, 0, 0, .int 32), (.idiv, 0, 0, .null), (.iload_n 2, 0, 0, .null), (.iconst 4, 0, 0, .int 4), (.idiv, 0, 0, .null), (.bipush 8, 0, 0, .int 8), (.irem, 0, 0, .null)]
theorem k_rEntryAt_0_ok : fwChain m_rEntryAt.1.cls m_rEntryAt.2.1 0 k_rEntryAt_0 12 = true := by decide +kernel
theorem d_rEntryAt_12 : decode m_rEntryAt.2.1 12 = .ok (.invokevirtual 287, 3) := by decide +kernel
def k_rEntryAt_15 : List fwO := [(.bipush 32, 0, 0, .int 32), (.iload_n 2, 0, 0, .null), (.iconst 4, 0, 0, .int 4), (.irem, 0, 0, .null), (.imul, 0, 0, .null), (.iadd, 0, 0, .null), (.iload_n 3, 0, 0, .null), (.iadd, 0, 0, .null)]
theorem k_rEntryAt_15_ok : fwChain m_rEntryAt.1.cls m_rEntryAt.2.1 15 k_rEntryAt_15 24 = true := by decide +kernel
theorem d_rEntryAt_24 : decode m_rEntryAt.2.1 24 = .ok (.ireturn, 1) := by decide +kernel
/-- MonitorBoardModel.entry(III)I -/
abbrev m_rEntry : fwM := (⟨"MonitorBoardModel", "entry", "(III)I"⟩, prog_13_method_50_code, 4, (some FieldType.int))
theorem m_rEntry_in : Cond.code m_rEntry.1 m_rEntry.2.1 m_rEntry.2.2.1 m_rEntry.2.2.2 ∈ fwT := fwT_mem (List.mem_of_getElem? (i := 1989) (by decide +kernel)) rfl
def k_rEntry_0 : List fwO := [(.aload_n 0, 0, 0, .null), (.getfield 15, 1, 1, .retAddr 164), (.aload_n 0, 0, 0, .null), (.iload_n 1, 0, 0, .null), (.iload_n 2, 0, 0, .null), (.iload_n 3, 0, 0, .null)]
theorem k_rEntry_0_ok : fwChain m_rEntry.1.cls m_rEntry.2.1 0 k_rEntry_0 8 = true := by decide +kernel
theorem d_rEntry_8 : decode m_rEntry.2.1 8 = .ok (.invokevirtual 290, 3) := by decide +kernel
def k_rEntry_11 : List fwO := [(.baload, 0, 0, .null), (.sipush 255, 0, 0, .int 255), (.iand, 0, 0, .null)]
theorem k_rEntry_11_ok : fwChain m_rEntry.1.cls m_rEntry.2.1 11 k_rEntry_11 16 = true := by decide +kernel
theorem d_rEntry_16 : decode m_rEntry.2.1 16 = .ok (.ireturn, 1) := by decide +kernel
/-- MonitorBoardModel.login(I)V -/
abbrev m_rLogin : fwM := (⟨"MonitorBoardModel", "login", "(I)V"⟩, prog_13_method_52_code, 4, (none : Option FieldType))
theorem m_rLogin_in : Cond.code m_rLogin.1 m_rLogin.2.1 m_rLogin.2.2.1 m_rLogin.2.2.2 ∈ fwT := fwT_mem (List.mem_of_getElem? (i := 1985) (by decide +kernel)) rfl
def k_rLogin_0 : List fwO := [(.aload_n 0, 0, 0, .null), (.getfield 272, 1, 27, .retAddr 190), (.iload_n 1, 0, 0, .null), (.ishr, 0, 0, .null), (.iconst 1, 0, 0, .int 1), (.iand, 0, 0, .null), (.iconst 1, 0, 0, .int 1)]
theorem k_rLogin_0_ok : fwChain m_rLogin.1.cls m_rLogin.2.1 0 k_rLogin_0 9 = true := by decide +kernel
theorem d_rLogin_9 : decode m_rLogin.2.1 9 = .ok (.if_icmp .ne 4, 3) := by decide +kernel
theorem d_rLogin_12 : decode m_rLogin.2.1 12 = .ok (.return_, 1) := by decide +kernel
def k_rLogin_13 : List fwO := [(.aload_n 0, 0, 0, .null), (.dup, 0, 0, .null), (.getfield 272, 1, 27, .retAddr 190), (.iconst 1, 0, 0, .int 1), (.iload_n 1, 0, 0, .null), (.ishl, 0, 0, .null), (.ior, 0, 0, .null), (.putfield 272, 1, 27, .retAddr 190), (.iconst 0, 0, 0, .int 0), (.istore_n 2, 0, 0, .null)]
theorem k_rLogin_13_ok : fwChain m_rLogin.1.cls m_rLogin.2.1 13 k_rLogin_13 27 = true := by decide +kernel
def k_rLogin_27 : List fwO := [(.iload_n 2, 0, 0, .null), (.sipush 243, 0, 0, .int 243)]
theorem k_rLogin_27_ok : fwChain m_rLogin.1.cls m_rLogin.2.1 27 k_rLogin_27 31 = true := by decide +kernel
theorem d_rLogin_31 : decode m_rLogin.2.1 31 = .ok (.if_icmp .ge 31, 3) := by decide +kernel
def k_rLogin_34 : List fwO := [(.aload_n 0, 0, 0, .null), (.getfield 38, 1, 29, .retAddr 192), (.sipush 243, 0, 0, .int 243), (.iload_n 1, 0, 0, .null), (.imul, 0, 0, .null), (.iload_n 2, 0, 0, .null), (.iadd, 0, 0, .null), (.iload_n 2, 0, 0, .null), (.iconst 2, 0, 0, .int 2)]
theorem k_rLogin_34_ok : fwChain m_rLogin.1.cls m_rLogin.2.1 34 k_rLogin_34 47 = true := by decide +kernel
theorem d_rLogin_47 : decode m_rLogin.2.1 47 = .ok (.if_icmp .ge 7, 3) := by decide +kernel
def k_rLogin_50 : List fwO := [(.iconst 1, 0, 0, .int 1)]
theorem k_rLogin_50_ok : fwChain m_rLogin.1.cls m_rLogin.2.1 50 k_rLogin_50 51 = true := by decide +kernel
theorem d_rLogin_51 : decode m_rLogin.2.1 51 = .ok (.goto 4, 3) := by decide +kernel
def k_rLogin_54 : List fwO := [(.iconst 0, 0, 0, .int 0)]
theorem k_rLogin_54_ok : fwChain m_rLogin.1.cls m_rLogin.2.1 54 k_rLogin_54 55 = true := by decide +kernel
def k_rLogin_55 : List fwO := [(.bastore, 0, 0, .null), (.iinc 2 1, 0, 0, .int 1)]
theorem k_rLogin_55_ok : fwChain m_rLogin.1.cls m_rLogin.2.1 55 k_rLogin_55 59 = true := by decide +kernel
theorem d_rLogin_59 : decode m_rLogin.2.1 59 = .ok (.goto (-32), 3) := by decide +kernel
def k_rLogin_62 : List fwO := [(.iconst 0, 0, 0, .int 0), (.istore_n 2, 0, 0, .null)]
theorem k_rLogin_62_ok : fwChain m_rLogin.1.cls m_rLogin.2.1 62 k_rLogin_62 64 = true := by decide +kernel
def k_rLogin_64 : List fwO := [(.iload_n 2, 0, 0, .null), (.bipush 64, 0, 0, .int 64)]
theorem k_rLogin_64_ok : fwChain m_rLogin.1.cls m_rLogin.2.1 64 k_rLogin_64 67 = true := by decide +kernel
theorem d_rLogin_67 : decode m_rLogin.2.1 67 = .ok (.if_icmp .ge 72, 3) := by decide +kernel
def k_rLogin_70 : List fwO := [(.aload_n 0, 0, 0, .null), (.iload_n 1, 0, 0, .null), (.iload_n 2, 0, 0, .null), (.iconst 0, 0, 0, .int 0)]
theorem k_rLogin_70_ok : fwChain m_rLogin.1.cls m_rLogin.2.1 70 k_rLogin_70 74 = true := by decide +kernel
theorem d_rLogin_74 : decode m_rLogin.2.1 74 = .ok (.invokevirtual 293, 3) := by decide +kernel
def k_rLogin_77 : List fwO := [(.sipush 229, 0, 0, .int 229)]
theorem k_rLogin_77_ok : fwChain m_rLogin.1.cls m_rLogin.2.1 77 k_rLogin_77 80 = true := by decide +kernel
theorem d_rLogin_80 : decode m_rLogin.2.1 80 = .ok (.if_icmp .ne 6, 3) := by decide +kernel
theorem d_rLogin_83 : decode m_rLogin.2.1 83 = .ok (.goto 50, 3) := by decide +kernel
def k_rLogin_86 : List fwO := [(.bipush 16, 0, 0, .int 16), (.istore_n 3, 0, 0, .null)]
theorem k_rLogin_86_ok : fwChain m_rLogin.1.cls m_rLogin.2.1 86 k_rLogin_86 89 = true := by decide +kernel
def k_rLogin_89 : List fwO := [(.iload_n 3, 0, 0, .null), (.bipush 32, 0, 0, .int 32)]
theorem k_rLogin_89_ok : fwChain m_rLogin.1.cls m_rLogin.2.1 89 k_rLogin_89 92 = true := by decide +kernel
theorem d_rLogin_92 : decode m_rLogin.2.1 92 = .ok (.if_icmp .ge 41, 3) := by decide +kernel
def k_rLogin_95 : List fwO := [(.aload_n 0, 0, 0, .null), (.iload_n 1, 0, 0, .null), (.iload_n 2, 0, 0, .null), (.iload_n 3, 0, 0, .null)]
theorem k_rLogin_95_ok : fwChain m_rLogin.1.cls m_rLogin.2.1 95 k_rLogin_95 99 = true := by decide +kernel
theorem d_rLogin_99 : decode m_rLogin.2.1 99 = .ok (.invokevirtual 293, 3) := by decide +kernel
def k_rLogin_102 : List fwO := [(.sipush 243, 0, 0, .int 243)]
theorem k_rLogin_102_ok : fwChain m_rLogin.1.cls m_rLogin.2.1 102 k_rLogin_102 105 = true := by decide +kernel
theorem d_rLogin_105 : decode m_rLogin.2.1 105 = .ok (.if_icmp .ge 22, 3) := by decide +kernel
def k_rLogin_108 : List fwO := [(.aload_n 0, 0, 0, .null), (.getfield 38, 1, 29, .retAddr 192), (.sipush 243, 0, 0, .int 243), (.iload_n 1, 0, 0, .null), (.imul, 0, 0, .null), (.aload_n 0, 0, 0, .null), (.iload_n 1, 0, 0, .null), (.iload_n 2, 0, 0, .null), (.iload_n 3, 0, 0, .null)]
theorem k_rLogin_108_ok : fwChain m_rLogin.1.cls m_rLogin.2.1 108 k_rLogin_108 121 = true := by decide +kernel
theorem d_rLogin_121 : decode m_rLogin.2.1 121 = .ok (.invokevirtual 293, 3) := by decide +kernel
def k_rLogin_124 : List fwO := [(.iadd, 0, 0, .null), (.iconst 1, 0, 0, .int 1), (.bastore, 0, 0, .null)]
theorem k_rLogin_124_ok : fwChain m_rLogin.1.cls m_rLogin.2.1 124 k_rLogin_124 127 = true := by decide +kernel
def k_rLogin_127 : List fwO := [(.iinc 3 1, 0, 0, .int 1)]
theorem k_rLogin_127_ok : fwChain m_rLogin.1.cls m_rLogin.2.1 127 k_rLogin_127 130 = true := by decide +kernel
theorem d_rLogin_130 : decode m_rLogin.2.1 130 = .ok (.goto (-41), 3) := by decide +kernel
def k_rLogin_133 : List fwO := [(.iinc 2 1, 0, 0, .int 1)]
theorem k_rLogin_133_ok : fwChain m_rLogin.1.cls m_rLogin.2.1 133 k_rLogin_133 136 = true := by decide +kernel
theorem d_rLogin_136 : decode m_rLogin.2.1 136 = .ok (.goto (-72), 3) := by decide +kernel
theorem d_rLogin_139 : decode m_rLogin.2.1 139 = .ok (.return_, 1) := by decide +kernel
/-- MonitorBoardModel.forget()V -/
abbrev m_rForget : fwM := (⟨"MonitorBoardModel", "forget", "()V"⟩, prog_13_method_55_code, 1, (none : Option FieldType))
theorem m_rForget_in : Cond.code m_rForget.1 m_rForget.2.1 m_rForget.2.2.1 m_rForget.2.2.2 ∈ fwT := fwT_mem (List.mem_of_getElem? (i := 2005) (by decide +kernel)) rfl
def k_rForget_0 : List fwO := [(.aload_n 0, 0, 0, .null), (.iconst (-1), 0, 0, .int (-1)), (.putfield 48, 1, 35, .retAddr 198)]
theorem k_rForget_0_ok : fwChain m_rForget.1.cls m_rForget.2.1 0 k_rForget_0 5 = true := by decide +kernel
theorem d_rForget_5 : decode m_rForget.2.1 5 = .ok (.return_, 1) := by decide +kernel
/-- MonitorBoardModel.prompt()V -/
abbrev m_rPrompt : fwM := (⟨"MonitorBoardModel", "prompt", "()V"⟩, prog_13_method_82_code, 1, (none : Option FieldType))
theorem m_rPrompt_in : Cond.code m_rPrompt.1 m_rPrompt.2.1 m_rPrompt.2.2.1 m_rPrompt.2.2.2 ∈ fwT := fwT_mem (List.mem_of_getElem? (i := 2009) (by decide +kernel)) rfl
def k_rPrompt_0 : List fwO := [(.aload_n 0, 0, 0, .null)]
theorem k_rPrompt_0_ok : fwChain m_rPrompt.1.cls m_rPrompt.2.1 0 k_rPrompt_0 1 = true := by decide +kernel
theorem d_rPrompt_1 : decode m_rPrompt.2.1 1 = .ok (.invokevirtual 259, 3) := by decide +kernel
def k_rPrompt_4 : List fwO := [(.aload_n 0, 0, 0, .null), (.bipush 65, 0, 0, .int 65), (.aload_n 0, 0, 0, .null), (.getfield 102, 1, 21, .retAddr 184), (.iadd, 0, 0, .null)]
theorem k_rPrompt_4_ok : fwChain m_rPrompt.1.cls m_rPrompt.2.1 4 k_rPrompt_4 12 = true := by decide +kernel
theorem d_rPrompt_12 : decode m_rPrompt.2.1 12 = .ok (.invokevirtual 149, 3) := by decide +kernel
def k_rPrompt_15 : List fwO := [(.aload_n 0, 0, 0, .null), (.getfield 105, 1, 22, .retAddr 185)]
theorem k_rPrompt_15_ok : fwChain m_rPrompt.1.cls m_rPrompt.2.1 15 k_rPrompt_15 19 = true := by decide +kernel
theorem d_rPrompt_19 : decode m_rPrompt.2.1 19 = .ok (.ifCond .le 11, 3) := by decide +kernel
def k_rPrompt_22 : List fwO := [(.aload_n 0, 0, 0, .null), (.aload_n 0, 0, 0, .null), (.getfield 105, 1, 22, .retAddr 185)]
theorem k_rPrompt_22_ok : fwChain m_rPrompt.1.cls m_rPrompt.2.1 22 k_rPrompt_22 27 = true := by decide +kernel
theorem d_rPrompt_27 : decode m_rPrompt.2.1 27 = .ok (.invokevirtual 419, 3) := by decide +kernel
def k_rPrompt_30 : List fwO := [(.aload_n 0, 0, 0, .null), (.bipush 62, 0, 0, .int 62)]
theorem k_rPrompt_30_ok : fwChain m_rPrompt.1.cls m_rPrompt.2.1 30 k_rPrompt_30 33 = true := by decide +kernel
theorem d_rPrompt_33 : decode m_rPrompt.2.1 33 = .ok (.invokevirtual 149, 3) := by decide +kernel
theorem d_rPrompt_36 : decode m_rPrompt.2.1 36 = .ok (.return_, 1) := by decide +kernel
/-- MonitorBoardModel.warm()V -/
abbrev m_rWarm : fwM := (⟨"MonitorBoardModel", "warm", "()V"⟩, prog_13_method_45_code, 1, (none : Option FieldType))
theorem m_rWarm_in : Cond.code m_rWarm.1 m_rWarm.2.1 m_rWarm.2.2.1 m_rWarm.2.2.2 ∈ fwT := fwT_mem (List.mem_of_getElem? (i := 1969) (by decide +kernel)) rfl
def k_rWarm_0 : List fwO := [(.aload_n 0, 0, 0, .null), (.iconst 1, 0, 0, .int 1), (.putfield 233, 1, 20, .retAddr 183), (.aload_n 0, 0, 0, .null), (.iconst 0, 0, 0, .int 0), (.putfield 120, 1, 17, .retAddr 180), (.aload_n 0, 0, 0, .null), (.iconst 0, 0, 0, .int 0), (.sipush 195, 0, 0, .int 195)]
theorem k_rWarm_0_ok : fwChain m_rWarm.1.cls m_rWarm.2.1 0 k_rWarm_0 15 = true := by decide +kernel
theorem d_rWarm_15 : decode m_rWarm.2.1 15 = .ok (.invokevirtual 112, 3) := by decide +kernel
def k_rWarm_18 : List fwO := [(.aload_n 0, 0, 0, .null), (.iconst 1, 0, 0, .int 1)]
theorem k_rWarm_18_ok : fwChain m_rWarm.1.cls m_rWarm.2.1 18 k_rWarm_18 20 = true := by decide +kernel
theorem d_rWarm_20 : decode m_rWarm.2.1 20 = .ok (.ldc_w 271, 3) := by decide +kernel
theorem d_rWarm_23 : decode m_rWarm.2.1 23 = .ok (.invokevirtual 163, 3) := by decide +kernel
def k_rWarm_26 : List fwO := [(.aload_n 0, 0, 0, .null), (.iconst 5, 0, 0, .int 5), (.sipush 195, 0, 0, .int 195)]
theorem k_rWarm_26_ok : fwChain m_rWarm.1.cls m_rWarm.2.1 26 k_rWarm_26 31 = true := by decide +kernel
theorem d_rWarm_31 : decode m_rWarm.2.1 31 = .ok (.invokevirtual 112, 3) := by decide +kernel
def k_rWarm_34 : List fwO := [(.aload_n 0, 0, 0, .null), (.bipush 6, 0, 0, .int 6), (.ldc 232, 40, 0, .int 60934)]
theorem k_rWarm_34_ok : fwChain m_rWarm.1.cls m_rWarm.2.1 34 k_rWarm_34 39 = true := by decide +kernel
theorem d_rWarm_39 : decode m_rWarm.2.1 39 = .ok (.invokevirtual 163, 3) := by decide +kernel
def k_rWarm_42 : List fwO := [(.aload_n 0, 0, 0, .null), (.sipush 128, 0, 0, .int 128), (.putfield 108, 1, 23, .retAddr 186), (.aload_n 0, 0, 0, .null), (.iconst 0, 0, 0, .int 0), (.putfield 272, 1, 27, .retAddr 190), (.aload_n 0, 0, 0, .null), (.aload_n 0, 0, 0, .null), (.getfield 102, 1, 21, .retAddr 184)]
theorem k_rWarm_42_ok : fwChain m_rWarm.1.cls m_rWarm.2.1 42 k_rWarm_42 59 = true := by decide +kernel
theorem d_rWarm_59 : decode m_rWarm.2.1 59 = .ok (.invokevirtual 275, 3) := by decide +kernel
def k_rWarm_62 : List fwO := [(.aload_n 0, 0, 0, .null)]
theorem k_rWarm_62_ok : fwChain m_rWarm.1.cls m_rWarm.2.1 62 k_rWarm_62 63 = true := by decide +kernel
theorem d_rWarm_63 : decode m_rWarm.2.1 63 = .ok (.invokevirtual 123, 3) := by decide +kernel
def k_rWarm_66 : List fwO := [(.aload_n 0, 0, 0, .null), (.iconst 0, 0, 0, .int 0), (.putfield 278, 1, 31, .retAddr 194), (.aload_n 0, 0, 0, .null), (.iconst 1, 0, 0, .int 1), (.putfield 116, 1, 18, .retAddr 181), (.aload_n 0, 0, 0, .null)]
theorem k_rWarm_66_ok : fwChain m_rWarm.1.cls m_rWarm.2.1 66 k_rWarm_66 77 = true := by decide +kernel
theorem d_rWarm_77 : decode m_rWarm.2.1 77 = .ok (.ldc_w 271, 3) := by decide +kernel
def k_rWarm_80 : List fwO := [(.putfield 99, 1, 15, .retAddr 178), (.aload_n 0, 0, 0, .null)]
theorem k_rWarm_80_ok : fwChain m_rWarm.1.cls m_rWarm.2.1 80 k_rWarm_80 84 = true := by decide +kernel
theorem d_rWarm_84 : decode m_rWarm.2.1 84 = .ok (.invokevirtual 281, 3) := by decide +kernel
theorem d_rWarm_87 : decode m_rWarm.2.1 87 = .ok (.return_, 1) := by decide +kernel
/-- MonitorBoardModel.cold()V -/
abbrev m_rCold : fwM := (⟨"MonitorBoardModel", "cold", "()V"⟩, prog_13_method_44_code, 2, (none : Option FieldType))
theorem m_rCold_in : Cond.code m_rCold.1 m_rCold.2.1 m_rCold.2.2.1 m_rCold.2.2.2 ∈ fwT := fwT_mem (List.mem_of_getElem? (i := 1950) (by decide +kernel)) rfl
def k_rCold_0 : List fwO := [(.iconst 0, 0, 0, .int 0), (.istore_n 1, 0, 0, .null)]
theorem k_rCold_0_ok : fwChain m_rCold.1.cls m_rCold.2.1 0 k_rCold_0 2 = true := by decide +kernel
def k_rCold_2 : List fwO := [(.iload_n 1, 0, 0, .null), (.ldc 9, 33, 0, .int 65536)]
theorem k_rCold_2_ok : fwChain m_rCold.1.cls m_rCold.2.1 2 k_rCold_2 5 = true := by decide +kernel
theorem d_rCold_5 : decode m_rCold.2.1 5 = .ok (.if_icmp .ge 16, 3) := by decide +kernel
def k_rCold_8 : List fwO := [(.aload_n 0, 0, 0, .null), (.getfield 10, 1, 0, .retAddr 163), (.iload_n 1, 0, 0, .null), (.iconst 0, 0, 0, .int 0), (.bastore, 0, 0, .null), (.iinc 1 1, 0, 0, .int 1)]
theorem k_rCold_8_ok : fwChain m_rCold.1.cls m_rCold.2.1 8 k_rCold_8 18 = true := by decide +kernel
theorem d_rCold_18 : decode m_rCold.2.1 18 = .ok (.goto (-16), 3) := by decide +kernel
def k_rCold_21 : List fwO := [(.iconst 0, 0, 0, .int 0), (.istore_n 1, 0, 0, .null)]
theorem k_rCold_21_ok : fwChain m_rCold.1.cls m_rCold.2.1 21 k_rCold_21 23 = true := by decide +kernel
def k_rCold_23 : List fwO := [(.iload_n 1, 0, 0, .null), (.bipush 8, 0, 0, .int 8)]
theorem k_rCold_23_ok : fwChain m_rCold.1.cls m_rCold.2.1 23 k_rCold_23 26 = true := by decide +kernel
theorem d_rCold_26 : decode m_rCold.2.1 26 = .ok (.if_icmp .ge 16, 3) := by decide +kernel
def k_rCold_29 : List fwO := [(.aload_n 0, 0, 0, .null), (.getfield 31, 1, 12, .retAddr 175), (.iload_n 1, 0, 0, .null), (.iconst 0, 0, 0, .int 0), (.iastore, 0, 0, .null), (.iinc 1 1, 0, 0, .int 1)]
theorem k_rCold_29_ok : fwChain m_rCold.1.cls m_rCold.2.1 29 k_rCold_29 39 = true := by decide +kernel
theorem d_rCold_39 : decode m_rCold.2.1 39 = .ok (.goto (-16), 3) := by decide +kernel
def k_rCold_42 : List fwO := [(.aload_n 0, 0, 0, .null), (.iconst 0, 0, 0, .int 0), (.putfield 93, 1, 13, .retAddr 176), (.aload_n 0, 0, 0, .null), (.iconst 0, 0, 0, .int 0), (.putfield 96, 1, 14, .retAddr 177), (.aload_n 0, 0, 0, .null), (.iconst 0, 0, 0, .int 0), (.putfield 99, 1, 15, .retAddr 178), (.aload_n 0, 0, 0, .null), (.iconst 0, 0, 0, .int 0), (.putfield 120, 1, 17, .retAddr 180), (.aload_n 0, 0, 0, .null), (.iconst 0, 0, 0, .int 0), (.putfield 247, 1, 28, .retAddr 191), (.aload_n 0, 0, 0, .null), (.iconst 0, 0, 0, .int 0), (.putfield 105, 1, 22, .retAddr 185), (.aload_n 0, 0, 0, .null), (.iconst 0, 0, 0, .int 0), (.putfield 102, 1, 21, .retAddr 184), (.aload_n 0, 0, 0, .null), (.iconst 0, 0, 0, .int 0), (.putfield 83, 1, 8, .retAddr 171), (.aload_n 0, 0, 0, .null), (.iconst 0, 0, 0, .int 0), (.putfield 250, 1, 24, .retAddr 187), (.aload_n 0, 0, 0, .null), (.iconst 0, 0, 0, .int 0), (.putfield 253, 1, 25, .retAddr 188), (.aload_n 0, 0, 0, .null), (.iconst 1, 0, 0, .int 1), (.putfield 256, 1, 26, .retAddr 189), (.aload_n 0, 0, 0, .null)]
theorem k_rCold_42_ok : fwChain m_rCold.1.cls m_rCold.2.1 42 k_rCold_42 98 = true := by decide +kernel
theorem d_rCold_98 : decode m_rCold.2.1 98 = .ok (.invokevirtual 259, 3) := by decide +kernel
def k_rCold_101 : List fwO := [(.aload_n 0, 0, 0, .null)]
theorem k_rCold_101_ok : fwChain m_rCold.1.cls m_rCold.2.1 101 k_rCold_101 102 = true := by decide +kernel
theorem d_rCold_102 : decode m_rCold.2.1 102 = .ok (.ldc_w 262, 3) := by decide +kernel
theorem d_rCold_105 : decode m_rCold.2.1 105 = .ok (.invokevirtual 264, 3) := by decide +kernel
def k_rCold_108 : List fwO := [(.aload_n 0, 0, 0, .null)]
theorem k_rCold_108_ok : fwChain m_rCold.1.cls m_rCold.2.1 108 k_rCold_108 109 = true := by decide +kernel
theorem d_rCold_109 : decode m_rCold.2.1 109 = .ok (.invokevirtual 268, 3) := by decide +kernel
theorem d_rCold_112 : decode m_rCold.2.1 112 = .ok (.return_, 1) := by decide +kernel
/-- MonitorBoardModel.<init>()V -/
abbrev m_rInit : fwM := (⟨"MonitorBoardModel", "<init>", "()V"⟩, prog_13_method_1_code, 2, (none : Option FieldType))
theorem m_rInit_in : Cond.code m_rInit.1 m_rInit.2.1 m_rInit.2.2.1 m_rInit.2.2.2 ∈ fwT := fwT_mem (List.mem_of_getElem? (i := 1941) (by decide +kernel)) rfl
def k_rInit_0 : List fwO := [(.aload_n 0, 0, 0, .null)]
theorem k_rInit_0_ok : fwChain m_rInit.1.cls m_rInit.2.1 0 k_rInit_0 1 = true := by decide +kernel
theorem d_rInit_1 : decode m_rInit.2.1 1 = .ok (.invokespecial 3, 3) := by decide +kernel
def k_rInit_4 : List fwO := [(.aload_n 0, 0, 0, .null), (.ldc 9, 33, 0, .int 65536)]
theorem k_rInit_4_ok : fwChain m_rInit.1.cls m_rInit.2.1 4 k_rInit_4 7 = true := by decide +kernel
theorem d_rInit_7 : decode m_rInit.2.1 7 = .ok (.newarray .byte, 2) := by decide +kernel
theorem d_rInit_9 : decode m_rInit.2.1 9 = .ok (.putfield 10, 3) := by decide +kernel
def k_rInit_12 : List fwO := [(.aload_n 0, 0, 0, .null), (.ldc 14, 34, 0, .int 512512)]
theorem k_rInit_12_ok : fwChain m_rInit.1.cls m_rInit.2.1 12 k_rInit_12 15 = true := by decide +kernel
theorem d_rInit_15 : decode m_rInit.2.1 15 = .ok (.newarray .byte, 2) := by decide +kernel
theorem d_rInit_17 : decode m_rInit.2.1 17 = .ok (.putfield 15, 3) := by decide +kernel
def k_rInit_20 : List fwO := [(.aload_n 0, 0, 0, .null), (.sipush 4000, 0, 0, .int 4000)]
theorem k_rInit_20_ok : fwChain m_rInit.1.cls m_rInit.2.1 20 k_rInit_20 24 = true := by decide +kernel
theorem d_rInit_24 : decode m_rInit.2.1 24 = .ok (.newarray .byte, 2) := by decide +kernel
theorem d_rInit_26 : decode m_rInit.2.1 26 = .ok (.putfield 18, 3) := by decide +kernel
def k_rInit_29 : List fwO := [(.aload_n 0, 0, 0, .null), (.sipush 2000, 0, 0, .int 2000)]
theorem k_rInit_29_ok : fwChain m_rInit.1.cls m_rInit.2.1 29 k_rInit_29 33 = true := by decide +kernel
theorem d_rInit_33 : decode m_rInit.2.1 33 = .ok (.newarray .byte, 2) := by decide +kernel
theorem d_rInit_35 : decode m_rInit.2.1 35 = .ok (.putfield 21, 3) := by decide +kernel
def k_rInit_38 : List fwO := [(.aload_n 0, 0, 0, .null), (.sipush 8000, 0, 0, .int 8000)]
theorem k_rInit_38_ok : fwChain m_rInit.1.cls m_rInit.2.1 38 k_rInit_38 42 = true := by decide +kernel
theorem d_rInit_42 : decode m_rInit.2.1 42 = .ok (.newarray .byte, 2) := by decide +kernel
theorem d_rInit_44 : decode m_rInit.2.1 44 = .ok (.putfield 24, 3) := by decide +kernel
def k_rInit_47 : List fwO := [(.aload_n 0, 0, 0, .null), (.ldc 27, 35, 0, .int 70000)]
theorem k_rInit_47_ok : fwChain m_rInit.1.cls m_rInit.2.1 47 k_rInit_47 50 = true := by decide +kernel
theorem d_rInit_50 : decode m_rInit.2.1 50 = .ok (.newarray .byte, 2) := by decide +kernel
theorem d_rInit_52 : decode m_rInit.2.1 52 = .ok (.putfield 28, 3) := by decide +kernel
def k_rInit_55 : List fwO := [(.aload_n 0, 0, 0, .null), (.bipush 8, 0, 0, .int 8)]
theorem k_rInit_55_ok : fwChain m_rInit.1.cls m_rInit.2.1 55 k_rInit_55 58 = true := by decide +kernel
theorem d_rInit_58 : decode m_rInit.2.1 58 = .ok (.newarray .int, 2) := by decide +kernel
theorem d_rInit_60 : decode m_rInit.2.1 60 = .ok (.putfield 31, 3) := by decide +kernel
def k_rInit_63 : List fwO := [(.aload_n 0, 0, 0, .null), (.sipush 220, 0, 0, .int 220)]
theorem k_rInit_63_ok : fwChain m_rInit.1.cls m_rInit.2.1 63 k_rInit_63 67 = true := by decide +kernel
theorem d_rInit_67 : decode m_rInit.2.1 67 = .ok (.newarray .byte, 2) := by decide +kernel
theorem d_rInit_69 : decode m_rInit.2.1 69 = .ok (.putfield 35, 3) := by decide +kernel
def k_rInit_72 : List fwO := [(.aload_n 0, 0, 0, .null), (.sipush 486, 0, 0, .int 486)]
theorem k_rInit_72_ok : fwChain m_rInit.1.cls m_rInit.2.1 72 k_rInit_72 76 = true := by decide +kernel
theorem d_rInit_76 : decode m_rInit.2.1 76 = .ok (.newarray .boolean, 2) := by decide +kernel
theorem d_rInit_78 : decode m_rInit.2.1 78 = .ok (.putfield 38, 3) := by decide +kernel
def k_rInit_81 : List fwO := [(.aload_n 0, 0, 0, .null), (.bipush 15, 0, 0, .int 15)]
theorem k_rInit_81_ok : fwChain m_rInit.1.cls m_rInit.2.1 81 k_rInit_81 84 = true := by decide +kernel
theorem d_rInit_84 : decode m_rInit.2.1 84 = .ok (.newarray .int, 2) := by decide +kernel
def k_rInit_86 : List fwO := [(.dup, 0, 0, .null), (.iconst 0, 0, 0, .int 0), (.bipush 26, 0, 0, .int 26), (.iastore, 0, 0, .null), (.dup, 0, 0, .null), (.iconst 1, 0, 0, .int 1), (.iconst 0, 0, 0, .int 0), (.iastore, 0, 0, .null), (.dup, 0, 0, .null), (.iconst 2, 0, 0, .int 2), (.iconst 3, 0, 0, .int 3), (.iastore, 0, 0, .null), (.dup, 0, 0, .null), (.iconst 3, 0, 0, .int 3), (.bipush 7, 0, 0, .int 7), (.iastore, 0, 0, .null), (.dup, 0, 0, .null), (.iconst 4, 0, 0, .int 4), (.iconst 0, 0, 0, .int 0), (.iastore, 0, 0, .null), (.dup, 0, 0, .null), (.iconst 5, 0, 0, .int 5), (.sipush 242, 0, 0, .int 242), (.iastore, 0, 0, .null), (.dup, 0, 0, .null), (.bipush 6, 0, 0, .int 6), (.iconst 0, 0, 0, .int 0), (.iastore, 0, 0, .null), (.dup, 0, 0, .null), (.bipush 7, 0, 0, .int 7), (.bipush 63, 0, 0, .int 63), (.iastore, 0, 0, .null), (.dup, 0, 0, .null), (.bipush 8, 0, 0, .int 8), (.iconst 0, 0, 0, .int 0), (.iastore, 0, 0, .null), (.dup, 0, 0, .null), (.bipush 9, 0, 0, .int 9), (.sipush 192, 0, 0, .int 192), (.iastore, 0, 0, .null), (.dup, 0, 0, .null), (.bipush 10, 0, 0, .int 10), (.iconst 0, 0, 0, .int 0), (.iastore, 0, 0, .null), (.dup, 0, 0, .null), (.bipush 11, 0, 0, .int 11), (.bipush 16, 0, 0, .int 16), (.iastore, 0, 0, .null), (.dup, 0, 0, .null), (.bipush 12, 0, 0, .int 12), (.iconst 0, 0, 0, .int 0), (.iastore, 0, 0, .null), (.dup, 0, 0, .null), (.bipush 13, 0, 0, .int 13), (.iconst 2, 0, 0, .int 2), (.iastore, 0, 0, .null), (.dup, 0, 0, .null), (.bipush 14, 0, 0, .int 14), (.iconst 0, 0, 0, .int 0), (.iastore, 0, 0, .null)]
theorem k_rInit_86_ok : fwChain m_rInit.1.cls m_rInit.2.1 86 k_rInit_86 163 = true := by decide +kernel
theorem d_rInit_163 : decode m_rInit.2.1 163 = .ok (.putfield 42, 3) := by decide +kernel
def k_rInit_166 : List fwO := [(.aload_n 0, 0, 0, .null), (.bipush 13, 0, 0, .int 13)]
theorem k_rInit_166_ok : fwChain m_rInit.1.cls m_rInit.2.1 166 k_rInit_166 169 = true := by decide +kernel
theorem d_rInit_169 : decode m_rInit.2.1 169 = .ok (.newarray .int, 2) := by decide +kernel
theorem d_rInit_171 : decode m_rInit.2.1 171 = .ok (.putfield 45, 3) := by decide +kernel
def k_rInit_174 : List fwO := [(.aload_n 0, 0, 0, .null), (.iconst (-1), 0, 0, .int (-1)), (.putfield 48, 1, 35, .retAddr 198), (.aload_n 0, 0, 0, .null), (.sipush 256, 0, 0, .int 256)]
theorem k_rInit_174_ok : fwChain m_rInit.1.cls m_rInit.2.1 174 k_rInit_174 183 = true := by decide +kernel
theorem d_rInit_183 : decode m_rInit.2.1 183 = .ok (.newarray .byte, 2) := by decide +kernel
theorem d_rInit_185 : decode m_rInit.2.1 185 = .ok (.putfield 52, 3) := by decide +kernel
def k_rInit_188 : List fwO := [(.aload_n 0, 0, 0, .null), (.bipush 64, 0, 0, .int 64)]
theorem k_rInit_188_ok : fwChain m_rInit.1.cls m_rInit.2.1 188 k_rInit_188 191 = true := by decide +kernel
theorem d_rInit_191 : decode m_rInit.2.1 191 = .ok (.newarray .boolean, 2) := by decide +kernel
theorem d_rInit_193 : decode m_rInit.2.1 193 = .ok (.putfield 55, 3) := by decide +kernel
def k_rInit_196 : List fwO := [(.aload_n 0, 0, 0, .null), (.bipush 11, 0, 0, .int 11)]
theorem k_rInit_196_ok : fwChain m_rInit.1.cls m_rInit.2.1 196 k_rInit_196 199 = true := by decide +kernel
theorem d_rInit_199 : decode m_rInit.2.1 199 = .ok (.newarray .int, 2) := by decide +kernel
theorem d_rInit_201 : decode m_rInit.2.1 201 = .ok (.putfield 58, 3) := by decide +kernel
def k_rInit_204 : List fwO := [(.aload_n 0, 0, 0, .null), (.ldc 61, 36, 0, .int 58368)]
theorem k_rInit_204_ok : fwChain m_rInit.1.cls m_rInit.2.1 204 k_rInit_204 207 = true := by decide +kernel
theorem d_rInit_207 : decode m_rInit.2.1 207 = .ok (.newarray .byte, 2) := by decide +kernel
theorem d_rInit_209 : decode m_rInit.2.1 209 = .ok (.putfield 62, 3) := by decide +kernel
def k_rInit_212 : List fwO := [(.aload_n 0, 0, 0, .null), (.sipush 800, 0, 0, .int 800)]
theorem k_rInit_212_ok : fwChain m_rInit.1.cls m_rInit.2.1 212 k_rInit_212 216 = true := by decide +kernel
theorem d_rInit_216 : decode m_rInit.2.1 216 = .ok (.newarray .byte, 2) := by decide +kernel
theorem d_rInit_218 : decode m_rInit.2.1 218 = .ok (.putfield 65, 3) := by decide +kernel
def k_rInit_221 : List fwO := [(.aload_n 0, 0, 0, .null), (.bipush 100, 0, 0, .int 100)]
theorem k_rInit_221_ok : fwChain m_rInit.1.cls m_rInit.2.1 221 k_rInit_221 224 = true := by decide +kernel
theorem d_rInit_224 : decode m_rInit.2.1 224 = .ok (.newarray .int, 2) := by decide +kernel
theorem d_rInit_226 : decode m_rInit.2.1 226 = .ok (.putfield 68, 3) := by decide +kernel
def k_rInit_229 : List fwO := [(.aload_n 0, 0, 0, .null), (.bipush 100, 0, 0, .int 100)]
theorem k_rInit_229_ok : fwChain m_rInit.1.cls m_rInit.2.1 229 k_rInit_229 232 = true := by decide +kernel
theorem d_rInit_232 : decode m_rInit.2.1 232 = .ok (.newarray .int, 2) := by decide +kernel
theorem d_rInit_234 : decode m_rInit.2.1 234 = .ok (.putfield 71, 3) := by decide +kernel
def k_rInit_237 : List fwO := [(.aload_n 0, 0, 0, .null), (.bipush 10, 0, 0, .int 10)]
theorem k_rInit_237_ok : fwChain m_rInit.1.cls m_rInit.2.1 237 k_rInit_237 240 = true := by decide +kernel
theorem d_rInit_240 : decode m_rInit.2.1 240 = .ok (.newarray .byte, 2) := by decide +kernel
theorem d_rInit_242 : decode m_rInit.2.1 242 = .ok (.putfield 74, 3) := by decide +kernel
def k_rInit_245 : List fwO := [(.iconst 0, 0, 0, .int 0), (.istore_n 1, 0, 0, .null)]
theorem k_rInit_245_ok : fwChain m_rInit.1.cls m_rInit.2.1 245 k_rInit_245 247 = true := by decide +kernel
def k_rInit_247 : List fwO := [(.iload_n 1, 0, 0, .null), (.ldc 14, 34, 0, .int 512512)]
theorem k_rInit_247_ok : fwChain m_rInit.1.cls m_rInit.2.1 247 k_rInit_247 250 = true := by decide +kernel
theorem d_rInit_250 : decode m_rInit.2.1 250 = .ok (.if_icmp .ge 17, 3) := by decide +kernel
def k_rInit_253 : List fwO := [(.aload_n 0, 0, 0, .null), (.getfield 15, 1, 1, .retAddr 164), (.iload_n 1, 0, 0, .null), (.bipush (-27), 0, 0, .int (-27)), (.bastore, 0, 0, .null), (.iinc 1 1, 0, 0, .int 1)]
theorem k_rInit_253_ok : fwChain m_rInit.1.cls m_rInit.2.1 253 k_rInit_253 264 = true := by decide +kernel
theorem d_rInit_264 : decode m_rInit.2.1 264 = .ok (.goto (-17), 3) := by decide +kernel
def k_rInit_267 : List fwO := [(.aload_n 0, 0, 0, .null)]
theorem k_rInit_267_ok : fwChain m_rInit.1.cls m_rInit.2.1 267 k_rInit_267 268 = true := by decide +kernel
theorem d_rInit_268 : decode m_rInit.2.1 268 = .ok (.invokevirtual 77, 3) := by decide +kernel
theorem d_rInit_271 : decode m_rInit.2.1 271 = .ok (.return_, 1) := by decide +kernel
/-- MonitorBoardModel.feed(IIIII)Z -/
abbrev m_rFeed : fwM := (⟨"MonitorBoardModel", "feed", "(IIIII)Z"⟩, prog_13_method_2_code, 8, (some FieldType.boolean))
theorem m_rFeed_in : Cond.code m_rFeed.1 m_rFeed.2.1 m_rFeed.2.2.1 m_rFeed.2.2.2 ∈ fwT := fwT_mem (List.mem_of_getElem? (i := 2255) (by decide +kernel)) rfl
def k_rFeed_0 : List fwO := [(.aload_n 0, 0, 0, .null), (.getfield 80, 1, 6, .retAddr 169), (.bipush 20, 0, 0, .int 20), (.iadd, 0, 0, .null), (.sipush 4000, 0, 0, .int 4000)]
theorem k_rFeed_0_ok : fwChain m_rFeed.1.cls m_rFeed.2.1 0 k_rFeed_0 10 = true := by decide +kernel
theorem d_rFeed_10 : decode m_rFeed.2.1 10 = .ok (.if_icmp .le 5, 3) := by decide +kernel
def k_rFeed_13 : List fwO := [(.iconst 0, 0, 0, .int 0)]
theorem k_rFeed_13_ok : fwChain m_rFeed.1.cls m_rFeed.2.1 13 k_rFeed_13 14 = true := by decide +kernel
theorem d_rFeed_14 : decode m_rFeed.2.1 14 = .ok (.ireturn, 1) := by decide +kernel
def k_rFeed_15 : List fwO := [(.iconst 0, 0, 0, .int 0), (.istore 6, 0, 0, .null)]
theorem k_rFeed_15_ok : fwChain m_rFeed.1.cls m_rFeed.2.1 15 k_rFeed_15 18 = true := by decide +kernel
def k_rFeed_18 : List fwO := [(.iload 6, 0, 0, .null), (.bipush 20, 0, 0, .int 20)]
theorem k_rFeed_18_ok : fwChain m_rFeed.1.cls m_rFeed.2.1 18 k_rFeed_18 22 = true := by decide +kernel
theorem d_rFeed_22 : decode m_rFeed.2.1 22 = .ok (.if_icmp .ge 90, 3) := by decide +kernel
def k_rFeed_25 : List fwO := [(.iload 6, 0, 0, .null), (.iconst 4, 0, 0, .int 4)]
theorem k_rFeed_25_ok : fwChain m_rFeed.1.cls m_rFeed.2.1 25 k_rFeed_25 28 = true := by decide +kernel
theorem d_rFeed_28 : decode m_rFeed.2.1 28 = .ok (.if_icmp .ge 7, 3) := by decide +kernel
def k_rFeed_31 : List fwO := [(.iload_n 1, 0, 0, .null)]
theorem k_rFeed_31_ok : fwChain m_rFeed.1.cls m_rFeed.2.1 31 k_rFeed_31 32 = true := by decide +kernel
theorem d_rFeed_32 : decode m_rFeed.2.1 32 = .ok (.goto 39, 3) := by decide +kernel
def k_rFeed_35 : List fwO := [(.iload 6, 0, 0, .null), (.bipush 8, 0, 0, .int 8)]
theorem k_rFeed_35_ok : fwChain m_rFeed.1.cls m_rFeed.2.1 35 k_rFeed_35 39 = true := by decide +kernel
theorem d_rFeed_39 : decode m_rFeed.2.1 39 = .ok (.if_icmp .ge 7, 3) := by decide +kernel
def k_rFeed_42 : List fwO := [(.iload_n 2, 0, 0, .null)]
theorem k_rFeed_42_ok : fwChain m_rFeed.1.cls m_rFeed.2.1 42 k_rFeed_42 43 = true := by decide +kernel
theorem d_rFeed_43 : decode m_rFeed.2.1 43 = .ok (.goto 28, 3) := by decide +kernel
def k_rFeed_46 : List fwO := [(.iload 6, 0, 0, .null), (.bipush 12, 0, 0, .int 12)]
theorem k_rFeed_46_ok : fwChain m_rFeed.1.cls m_rFeed.2.1 46 k_rFeed_46 50 = true := by decide +kernel
theorem d_rFeed_50 : decode m_rFeed.2.1 50 = .ok (.if_icmp .ge 7, 3) := by decide +kernel
def k_rFeed_53 : List fwO := [(.iload_n 3, 0, 0, .null)]
theorem k_rFeed_53_ok : fwChain m_rFeed.1.cls m_rFeed.2.1 53 k_rFeed_53 54 = true := by decide +kernel
theorem d_rFeed_54 : decode m_rFeed.2.1 54 = .ok (.goto 17, 3) := by decide +kernel
def k_rFeed_57 : List fwO := [(.iload 6, 0, 0, .null), (.bipush 16, 0, 0, .int 16)]
theorem k_rFeed_57_ok : fwChain m_rFeed.1.cls m_rFeed.2.1 57 k_rFeed_57 61 = true := by decide +kernel
theorem d_rFeed_61 : decode m_rFeed.2.1 61 = .ok (.if_icmp .ge 8, 3) := by decide +kernel
def k_rFeed_64 : List fwO := [(.iload 4, 0, 0, .null)]
theorem k_rFeed_64_ok : fwChain m_rFeed.1.cls m_rFeed.2.1 64 k_rFeed_64 66 = true := by decide +kernel
theorem d_rFeed_66 : decode m_rFeed.2.1 66 = .ok (.goto 5, 3) := by decide +kernel
def k_rFeed_69 : List fwO := [(.iload 5, 0, 0, .null)]
theorem k_rFeed_69_ok : fwChain m_rFeed.1.cls m_rFeed.2.1 69 k_rFeed_69 71 = true := by decide +kernel
def k_rFeed_71 : List fwO := [(.istore 7, 0, 0, .null), (.aload_n 0, 0, 0, .null), (.getfield 18, 1, 2, .retAddr 165), (.aload_n 0, 0, 0, .null), (.getfield 80, 1, 6, .retAddr 169), (.iload 7, 0, 0, .null), (.bipush 24, 0, 0, .int 24), (.bipush 8, 0, 0, .int 8), (.iload 6, 0, 0, .null), (.iconst 4, 0, 0, .int 4), (.irem, 0, 0, .null), (.imul, 0, 0, .null), (.isub, 0, 0, .null), (.ishr, 0, 0, .null), (.i2b, 0, 0, .null), (.bastore, 0, 0, .null), (.aload_n 0, 0, 0, .null), (.dup, 0, 0, .null), (.getfield 80, 1, 6, .retAddr 169), (.iconst 1, 0, 0, .int 1), (.iadd, 0, 0, .null), (.putfield 80, 1, 6, .retAddr 169), (.iinc 6 1, 0, 0, .int 1)]
theorem k_rFeed_71_ok : fwChain m_rFeed.1.cls m_rFeed.2.1 71 k_rFeed_71 109 = true := by decide +kernel
theorem d_rFeed_109 : decode m_rFeed.2.1 109 = .ok (.goto (-91), 3) := by decide +kernel
def k_rFeed_112 : List fwO := [(.iconst 1, 0, 0, .int 1)]
theorem k_rFeed_112_ok : fwChain m_rFeed.1.cls m_rFeed.2.1 112 k_rFeed_112 113 = true := by decide +kernel
theorem d_rFeed_113 : decode m_rFeed.2.1 113 = .ok (.ireturn, 1) := by decide +kernel
/-- MonitorBoardModel.end(I)Z -/
abbrev m_rEnd : fwM := (⟨"MonitorBoardModel", "end", "(I)Z"⟩, prog_13_method_3_code, 2, (some FieldType.boolean))
theorem m_rEnd_in : Cond.code m_rEnd.1 m_rEnd.2.1 m_rEnd.2.2.1 m_rEnd.2.2.2 ∈ fwT := fwT_mem (List.mem_of_getElem? (i := 2259) (by decide +kernel)) rfl
def k_rEnd_0 : List fwO := [(.iload_n 1, 0, 0, .null)]
theorem k_rEnd_0_ok : fwChain m_rEnd.1.cls m_rEnd.2.1 0 k_rEnd_0 1 = true := by decide +kernel
theorem d_rEnd_1 : decode m_rEnd.2.1 1 = .ok (.ifCond .lt 11, 3) := by decide +kernel
def k_rEnd_4 : List fwO := [(.iload_n 1, 0, 0, .null), (.aload_n 0, 0, 0, .null), (.getfield 80, 1, 6, .retAddr 169)]
theorem k_rEnd_4_ok : fwChain m_rEnd.1.cls m_rEnd.2.1 4 k_rEnd_4 9 = true := by decide +kernel
theorem d_rEnd_9 : decode m_rEnd.2.1 9 = .ok (.if_icmp .le 5, 3) := by decide +kernel
def k_rEnd_12 : List fwO := [(.iconst 0, 0, 0, .int 0)]
theorem k_rEnd_12_ok : fwChain m_rEnd.1.cls m_rEnd.2.1 12 k_rEnd_12 13 = true := by decide +kernel
theorem d_rEnd_13 : decode m_rEnd.2.1 13 = .ok (.ireturn, 1) := by decide +kernel
def k_rEnd_14 : List fwO := [(.aload_n 0, 0, 0, .null), (.iload_n 1, 0, 0, .null), (.putfield 80, 1, 6, .retAddr 169), (.iconst 1, 0, 0, .int 1)]
theorem k_rEnd_14_ok : fwChain m_rEnd.1.cls m_rEnd.2.1 14 k_rEnd_14 20 = true := by decide +kernel
theorem d_rEnd_20 : decode m_rEnd.2.1 20 = .ok (.ireturn, 1) := by decide +kernel
/-- MonitorBoardModel.keys()I -/
abbrev m_rKeys : fwM := (⟨"MonitorBoardModel", "keys", "()I"⟩, prog_13_method_4_code, 2, (some FieldType.int))
theorem m_rKeys_in : Cond.code m_rKeys.1 m_rKeys.2.1 m_rKeys.2.2.1 m_rKeys.2.2.2 ∈ fwT := fwT_mem (List.mem_of_getElem? (i := 2263) (by decide +kernel)) rfl
def k_rKeys_0 : List fwO := [(.aload_n 0, 0, 0, .null), (.getfield 83, 1, 8, .retAddr 171), (.aload_n 0, 0, 0, .null), (.getfield 80, 1, 6, .retAddr 169), (.iadd, 0, 0, .null), (.sipush 2000, 0, 0, .int 2000)]
theorem k_rKeys_0_ok : fwChain m_rKeys.1.cls m_rKeys.2.1 0 k_rKeys_0 12 = true := by decide +kernel
theorem d_rKeys_12 : decode m_rKeys.2.1 12 = .ok (.if_icmp .le 5, 3) := by decide +kernel
def k_rKeys_15 : List fwO := [(.iconst (-1), 0, 0, .int (-1))]
theorem k_rKeys_15_ok : fwChain m_rKeys.1.cls m_rKeys.2.1 15 k_rKeys_15 16 = true := by decide +kernel
theorem d_rKeys_16 : decode m_rKeys.2.1 16 = .ok (.ireturn, 1) := by decide +kernel
def k_rKeys_17 : List fwO := [(.iconst 0, 0, 0, .int 0), (.istore_n 1, 0, 0, .null)]
theorem k_rKeys_17_ok : fwChain m_rKeys.1.cls m_rKeys.2.1 17 k_rKeys_17 19 = true := by decide +kernel
def k_rKeys_19 : List fwO := [(.iload_n 1, 0, 0, .null), (.aload_n 0, 0, 0, .null), (.getfield 80, 1, 6, .retAddr 169)]
theorem k_rKeys_19_ok : fwChain m_rKeys.1.cls m_rKeys.2.1 19 k_rKeys_19 24 = true := by decide +kernel
theorem d_rKeys_24 : decode m_rKeys.2.1 24 = .ok (.if_icmp .ge 35, 3) := by decide +kernel
def k_rKeys_27 : List fwO := [(.aload_n 0, 0, 0, .null), (.getfield 21, 1, 3, .retAddr 166), (.aload_n 0, 0, 0, .null), (.getfield 86, 1, 7, .retAddr 170), (.aload_n 0, 0, 0, .null), (.getfield 83, 1, 8, .retAddr 171), (.iadd, 0, 0, .null), (.iload_n 1, 0, 0, .null), (.iadd, 0, 0, .null), (.sipush 2000, 0, 0, .int 2000), (.irem, 0, 0, .null), (.aload_n 0, 0, 0, .null), (.getfield 18, 1, 2, .retAddr 165), (.iload_n 1, 0, 0, .null), (.baload, 0, 0, .null), (.bastore, 0, 0, .null), (.iinc 1 1, 0, 0, .int 1)]
theorem k_rKeys_27_ok : fwChain m_rKeys.1.cls m_rKeys.2.1 27 k_rKeys_27 56 = true := by decide +kernel
theorem d_rKeys_56 : decode m_rKeys.2.1 56 = .ok (.goto (-37), 3) := by decide +kernel
def k_rKeys_59 : List fwO := [(.aload_n 0, 0, 0, .null), (.dup, 0, 0, .null), (.getfield 83, 1, 8, .retAddr 171), (.aload_n 0, 0, 0, .null), (.getfield 80, 1, 6, .retAddr 169), (.iadd, 0, 0, .null), (.putfield 83, 1, 8, .retAddr 171), (.aload_n 0, 0, 0, .null), (.iconst 0, 0, 0, .int 0), (.putfield 80, 1, 6, .retAddr 169), (.aload_n 0, 0, 0, .null), (.getfield 83, 1, 8, .retAddr 171)]
theorem k_rKeys_59_ok : fwChain m_rKeys.1.cls m_rKeys.2.1 59 k_rKeys_59 81 = true := by decide +kernel
theorem d_rKeys_81 : decode m_rKeys.2.1 81 = .ok (.ireturn, 1) := by decide +kernel
/-- MonitorBoardModel.states()J -/
abbrev m_rStates : fwM := (⟨"MonitorBoardModel", "states", "()J"⟩, prog_13_method_5_code, 1, (some FieldType.long))
theorem m_rStates_in : Cond.code m_rStates.1 m_rStates.2.1 m_rStates.2.2.1 m_rStates.2.2.2 ∈ fwT := fwT_mem (List.mem_of_getElem? (i := 2267) (by decide +kernel)) rfl
def k_rStates_0 : List fwO := [(.aload_n 0, 0, 0, .null), (.getfield 89, 1, 16, .retAddr 179)]
theorem k_rStates_0_ok : fwChain m_rStates.1.cls m_rStates.2.1 0 k_rStates_0 4 = true := by decide +kernel
theorem d_rStates_4 : decode m_rStates.2.1 4 = .ok (.lreturn, 1) := by decide +kernel
/-- MonitorBoardModel.register(I)I -/
abbrev m_rRegister : fwM := (⟨"MonitorBoardModel", "register", "(I)I"⟩, prog_13_method_6_code, 2, (some FieldType.int))
theorem m_rRegister_in : Cond.code m_rRegister.1 m_rRegister.2.1 m_rRegister.2.2.1 m_rRegister.2.2.2 ∈ fwT := fwT_mem (List.mem_of_getElem? (i := 2271) (by decide +kernel)) rfl
def k_rRegister_0 : List fwO := [(.iload_n 1, 0, 0, .null)]
theorem k_rRegister_0_ok : fwChain m_rRegister.1.cls m_rRegister.2.1 0 k_rRegister_0 1 = true := by decide +kernel
theorem d_rRegister_1 : decode m_rRegister.2.1 1 = .ok (.tableswitch 75 6 12 #[43, 75, 50, 55, 60, 65, 70], 43) := by decide +kernel
def k_rRegister_44 : List fwO := [(.aload_n 0, 0, 0, .null), (.getfield 93, 1, 13, .retAddr 176), (.iconst 2, 0, 0, .int 2), (.ior, 0, 0, .null)]
theorem k_rRegister_44_ok : fwChain m_rRegister.1.cls m_rRegister.2.1 44 k_rRegister_44 50 = true := by decide +kernel
theorem d_rRegister_50 : decode m_rRegister.2.1 50 = .ok (.ireturn, 1) := by decide +kernel
def k_rRegister_51 : List fwO := [(.aload_n 0, 0, 0, .null), (.getfield 96, 1, 14, .retAddr 177)]
theorem k_rRegister_51_ok : fwChain m_rRegister.1.cls m_rRegister.2.1 51 k_rRegister_51 55 = true := by decide +kernel
theorem d_rRegister_55 : decode m_rRegister.2.1 55 = .ok (.ireturn, 1) := by decide +kernel
def k_rRegister_56 : List fwO := [(.aload_n 0, 0, 0, .null), (.getfield 99, 1, 15, .retAddr 178)]
theorem k_rRegister_56_ok : fwChain m_rRegister.1.cls m_rRegister.2.1 56 k_rRegister_56 60 = true := by decide +kernel
theorem d_rRegister_60 : decode m_rRegister.2.1 60 = .ok (.ireturn, 1) := by decide +kernel
def k_rRegister_61 : List fwO := [(.aload_n 0, 0, 0, .null), (.getfield 102, 1, 21, .retAddr 184)]
theorem k_rRegister_61_ok : fwChain m_rRegister.1.cls m_rRegister.2.1 61 k_rRegister_61 65 = true := by decide +kernel
theorem d_rRegister_65 : decode m_rRegister.2.1 65 = .ok (.ireturn, 1) := by decide +kernel
def k_rRegister_66 : List fwO := [(.aload_n 0, 0, 0, .null), (.getfield 105, 1, 22, .retAddr 185)]
theorem k_rRegister_66_ok : fwChain m_rRegister.1.cls m_rRegister.2.1 66 k_rRegister_66 70 = true := by decide +kernel
theorem d_rRegister_70 : decode m_rRegister.2.1 70 = .ok (.ireturn, 1) := by decide +kernel
def k_rRegister_71 : List fwO := [(.aload_n 0, 0, 0, .null), (.getfield 108, 1, 23, .retAddr 186)]
theorem k_rRegister_71_ok : fwChain m_rRegister.1.cls m_rRegister.2.1 71 k_rRegister_71 75 = true := by decide +kernel
theorem d_rRegister_75 : decode m_rRegister.2.1 75 = .ok (.ireturn, 1) := by decide +kernel
def k_rRegister_76 : List fwO := [(.iload_n 1, 0, 0, .null)]
theorem k_rRegister_76_ok : fwChain m_rRegister.1.cls m_rRegister.2.1 76 k_rRegister_76 77 = true := by decide +kernel
theorem d_rRegister_77 : decode m_rRegister.2.1 77 = .ok (.ifCond .lt 18, 3) := by decide +kernel
def k_rRegister_80 : List fwO := [(.iload_n 1, 0, 0, .null), (.bipush 8, 0, 0, .int 8)]
theorem k_rRegister_80_ok : fwChain m_rRegister.1.cls m_rRegister.2.1 80 k_rRegister_80 83 = true := by decide +kernel
theorem d_rRegister_83 : decode m_rRegister.2.1 83 = .ok (.if_icmp .ge 12, 3) := by decide +kernel
def k_rRegister_86 : List fwO := [(.aload_n 0, 0, 0, .null), (.getfield 31, 1, 12, .retAddr 175), (.iload_n 1, 0, 0, .null), (.iaload, 0, 0, .null)]
theorem k_rRegister_86_ok : fwChain m_rRegister.1.cls m_rRegister.2.1 86 k_rRegister_86 92 = true := by decide +kernel
theorem d_rRegister_92 : decode m_rRegister.2.1 92 = .ok (.goto 4, 3) := by decide +kernel
def k_rRegister_95 : List fwO := [(.iconst (-1), 0, 0, .int (-1))]
theorem k_rRegister_95_ok : fwChain m_rRegister.1.cls m_rRegister.2.1 95 k_rRegister_95 96 = true := by decide +kernel
theorem d_rRegister_96 : decode m_rRegister.2.1 96 = .ok (.ireturn, 1) := by decide +kernel
/-- MonitorBoardModel.memory(I)I -/
abbrev m_rMemory : fwM := (⟨"MonitorBoardModel", "memory", "(I)I"⟩, prog_13_method_7_code, 2, (some FieldType.int))
theorem m_rMemory_in : Cond.code m_rMemory.1 m_rMemory.2.1 m_rMemory.2.2.1 m_rMemory.2.2.2 ∈ fwT := fwT_mem (List.mem_of_getElem? (i := 2275) (by decide +kernel)) rfl
def k_rMemory_0 : List fwO := [(.iload_n 1, 0, 0, .null)]
theorem k_rMemory_0_ok : fwChain m_rMemory.1.cls m_rMemory.2.1 0 k_rMemory_0 1 = true := by decide +kernel
theorem d_rMemory_1 : decode m_rMemory.2.1 1 = .ok (.ifCond .lt 22, 3) := by decide +kernel
def k_rMemory_4 : List fwO := [(.iload_n 1, 0, 0, .null), (.ldc 9, 33, 0, .int 65536)]
theorem k_rMemory_4_ok : fwChain m_rMemory.1.cls m_rMemory.2.1 4 k_rMemory_4 7 = true := by decide +kernel
theorem d_rMemory_7 : decode m_rMemory.2.1 7 = .ok (.if_icmp .ge 16, 3) := by decide +kernel
def k_rMemory_10 : List fwO := [(.aload_n 0, 0, 0, .null), (.getfield 10, 1, 0, .retAddr 163), (.iload_n 1, 0, 0, .null), (.baload, 0, 0, .null), (.sipush 255, 0, 0, .int 255), (.iand, 0, 0, .null)]
theorem k_rMemory_10_ok : fwChain m_rMemory.1.cls m_rMemory.2.1 10 k_rMemory_10 20 = true := by decide +kernel
theorem d_rMemory_20 : decode m_rMemory.2.1 20 = .ok (.goto 4, 3) := by decide +kernel
def k_rMemory_23 : List fwO := [(.iconst (-1), 0, 0, .int (-1))]
theorem k_rMemory_23_ok : fwChain m_rMemory.1.cls m_rMemory.2.1 23 k_rMemory_23 24 = true := by decide +kernel
theorem d_rMemory_24 : decode m_rMemory.2.1 24 = .ok (.ireturn, 1) := by decide +kernel
/-- MonitorBoardModel.load(I)V -/
abbrev m_rLoad : fwM := (⟨"MonitorBoardModel", "load", "(I)V"⟩, prog_13_method_8_code, 4, (none : Option FieldType))
theorem m_rLoad_in : Cond.code m_rLoad.1 m_rLoad.2.1 m_rLoad.2.2.1 m_rLoad.2.2.2 ∈ fwT := fwT_mem (List.mem_of_getElem? (i := 2279) (by decide +kernel)) rfl
def k_rLoad_0 : List fwO := [(.iload_n 1, 0, 0, .null), (.ldc 111, 38, 0, .int 65535), (.iand, 0, 0, .null), (.istore_n 2, 0, 0, .null), (.iconst 0, 0, 0, .int 0), (.istore_n 3, 0, 0, .null)]
theorem k_rLoad_0_ok : fwChain m_rLoad.1.cls m_rLoad.2.1 0 k_rLoad_0 7 = true := by decide +kernel
def k_rLoad_7 : List fwO := [(.iload_n 3, 0, 0, .null), (.aload_n 0, 0, 0, .null), (.getfield 80, 1, 6, .retAddr 169)]
theorem k_rLoad_7_ok : fwChain m_rLoad.1.cls m_rLoad.2.1 7 k_rLoad_7 12 = true := by decide +kernel
theorem d_rLoad_12 : decode m_rLoad.2.1 12 = .ok (.if_icmp .ge 22, 3) := by decide +kernel
def k_rLoad_15 : List fwO := [(.aload_n 0, 0, 0, .null), (.iload_n 2, 0, 0, .null), (.iload_n 3, 0, 0, .null), (.iadd, 0, 0, .null), (.aload_n 0, 0, 0, .null), (.getfield 18, 1, 2, .retAddr 165), (.iload_n 3, 0, 0, .null), (.baload, 0, 0, .null)]
theorem k_rLoad_15_ok : fwChain m_rLoad.1.cls m_rLoad.2.1 15 k_rLoad_15 25 = true := by decide +kernel
theorem d_rLoad_25 : decode m_rLoad.2.1 25 = .ok (.invokevirtual 112, 3) := by decide +kernel
def k_rLoad_28 : List fwO := [(.iinc 3 1, 0, 0, .int 1)]
theorem k_rLoad_28_ok : fwChain m_rLoad.1.cls m_rLoad.2.1 28 k_rLoad_28 31 = true := by decide +kernel
theorem d_rLoad_31 : decode m_rLoad.2.1 31 = .ok (.goto (-24), 3) := by decide +kernel
def k_rLoad_34 : List fwO := [(.aload_n 0, 0, 0, .null), (.iconst 0, 0, 0, .int 0), (.putfield 80, 1, 6, .retAddr 169)]
theorem k_rLoad_34_ok : fwChain m_rLoad.1.cls m_rLoad.2.1 34 k_rLoad_34 39 = true := by decide +kernel
theorem d_rLoad_39 : decode m_rLoad.2.1 39 = .ok (.return_, 1) := by decide +kernel
/-- MonitorBoardModel.jump(I)V -/
abbrev m_rJump : fwM := (⟨"MonitorBoardModel", "jump", "(I)V"⟩, prog_13_method_9_code, 2, (none : Option FieldType))
theorem m_rJump_in : Cond.code m_rJump.1 m_rJump.2.1 m_rJump.2.2.1 m_rJump.2.2.2 ∈ fwT := fwT_mem (List.mem_of_getElem? (i := 2283) (by decide +kernel)) rfl
def k_rJump_0 : List fwO := [(.aload_n 0, 0, 0, .null), (.iload_n 1, 0, 0, .null), (.ldc 111, 38, 0, .int 65535), (.iand, 0, 0, .null), (.putfield 99, 1, 15, .retAddr 178), (.aload_n 0, 0, 0, .null), (.iconst 0, 0, 0, .int 0), (.putfield 116, 1, 18, .retAddr 181), (.aload_n 0, 0, 0, .null), (.iconst 0, 0, 0, .int 0), (.putfield 120, 1, 17, .retAddr 180), (.aload_n 0, 0, 0, .null)]
theorem k_rJump_0_ok : fwChain m_rJump.1.cls m_rJump.2.1 0 k_rJump_0 19 = true := by decide +kernel
theorem d_rJump_19 : decode m_rJump.2.1 19 = .ok (.invokevirtual 123, 3) := by decide +kernel
theorem d_rJump_22 : decode m_rJump.2.1 22 = .ok (.return_, 1) := by decide +kernel
/-- MonitorBoardModel.console()I -/
abbrev m_rConsole : fwM := (⟨"MonitorBoardModel", "console", "()I"⟩, prog_13_method_10_code, 2, (some FieldType.int))
theorem m_rConsole_in : Cond.code m_rConsole.1 m_rConsole.2.1 m_rConsole.2.2.1 m_rConsole.2.2.2 ∈ fwT := fwT_mem (List.mem_of_getElem? (i := 2287) (by decide +kernel)) rfl
def k_rConsole_0 : List fwO := [(.aload_n 0, 0, 0, .null), (.aload_n 0, 0, 0, .null), (.getfield 126, 1, 10, .retAddr 173), (.putfield 129, 1, 11, .retAddr 174), (.iconst 0, 0, 0, .int 0), (.istore_n 1, 0, 0, .null)]
theorem k_rConsole_0_ok : fwChain m_rConsole.1.cls m_rConsole.2.1 0 k_rConsole_0 10 = true := by decide +kernel
def k_rConsole_10 : List fwO := [(.iload_n 1, 0, 0, .null), (.aload_n 0, 0, 0, .null), (.getfield 126, 1, 10, .retAddr 173)]
theorem k_rConsole_10_ok : fwChain m_rConsole.1.cls m_rConsole.2.1 10 k_rConsole_10 15 = true := by decide +kernel
theorem d_rConsole_15 : decode m_rConsole.2.1 15 = .ok (.if_icmp .ge 30, 3) := by decide +kernel
def k_rConsole_18 : List fwO := [(.aload_n 0, 0, 0, .null), (.getfield 28, 1, 5, .retAddr 168), (.iload_n 1, 0, 0, .null), (.aload_n 0, 0, 0, .null), (.getfield 24, 1, 4, .retAddr 167), (.aload_n 0, 0, 0, .null), (.getfield 132, 1, 9, .retAddr 172), (.iload_n 1, 0, 0, .null), (.iadd, 0, 0, .null), (.sipush 8000, 0, 0, .int 8000), (.irem, 0, 0, .null), (.baload, 0, 0, .null), (.bastore, 0, 0, .null), (.iinc 1 1, 0, 0, .int 1)]
theorem k_rConsole_18_ok : fwChain m_rConsole.1.cls m_rConsole.2.1 18 k_rConsole_18 42 = true := by decide +kernel
theorem d_rConsole_42 : decode m_rConsole.2.1 42 = .ok (.goto (-32), 3) := by decide +kernel
def k_rConsole_45 : List fwO := [(.aload_n 0, 0, 0, .null), (.iconst 0, 0, 0, .int 0), (.putfield 126, 1, 10, .retAddr 173), (.aload_n 0, 0, 0, .null), (.getfield 129, 1, 11, .retAddr 174)]
theorem k_rConsole_45_ok : fwChain m_rConsole.1.cls m_rConsole.2.1 45 k_rConsole_45 54 = true := by decide +kernel
theorem d_rConsole_54 : decode m_rConsole.2.1 54 = .ok (.ireturn, 1) := by decide +kernel
/-- MonitorBoardModel.out(I)I -/
abbrev m_rOut : fwM := (⟨"MonitorBoardModel", "out", "(I)I"⟩, prog_13_method_11_code, 2, (some FieldType.int))
theorem m_rOut_in : Cond.code m_rOut.1 m_rOut.2.1 m_rOut.2.2.1 m_rOut.2.2.2 ∈ fwT := fwT_mem (List.mem_of_getElem? (i := 2291) (by decide +kernel)) rfl
def k_rOut_0 : List fwO := [(.iload_n 1, 0, 0, .null)]
theorem k_rOut_0_ok : fwChain m_rOut.1.cls m_rOut.2.1 0 k_rOut_0 1 = true := by decide +kernel
theorem d_rOut_1 : decode m_rOut.2.1 1 = .ok (.ifCond .lt 24, 3) := by decide +kernel
def k_rOut_4 : List fwO := [(.iload_n 1, 0, 0, .null), (.aload_n 0, 0, 0, .null), (.getfield 129, 1, 11, .retAddr 174)]
theorem k_rOut_4_ok : fwChain m_rOut.1.cls m_rOut.2.1 4 k_rOut_4 9 = true := by decide +kernel
theorem d_rOut_9 : decode m_rOut.2.1 9 = .ok (.if_icmp .ge 16, 3) := by decide +kernel
def k_rOut_12 : List fwO := [(.aload_n 0, 0, 0, .null), (.getfield 28, 1, 5, .retAddr 168), (.iload_n 1, 0, 0, .null), (.baload, 0, 0, .null), (.sipush 255, 0, 0, .int 255), (.iand, 0, 0, .null)]
theorem k_rOut_12_ok : fwChain m_rOut.1.cls m_rOut.2.1 12 k_rOut_12 22 = true := by decide +kernel
theorem d_rOut_22 : decode m_rOut.2.1 22 = .ok (.goto 4, 3) := by decide +kernel
def k_rOut_25 : List fwO := [(.iconst (-1), 0, 0, .int (-1))]
theorem k_rOut_25_ok : fwChain m_rOut.1.cls m_rOut.2.1 25 k_rOut_25 26 = true := by decide +kernel
theorem d_rOut_26 : decode m_rOut.2.1 26 = .ok (.ireturn, 1) := by decide +kernel
/-- MonitorBoardModel.back()I -/
abbrev m_rBack : fwM := (⟨"MonitorBoardModel", "back", "()I"⟩, prog_13_method_12_code, 2, (some FieldType.int))
theorem m_rBack_in : Cond.code m_rBack.1 m_rBack.2.1 m_rBack.2.2.1 m_rBack.2.2.2 ∈ fwT := fwT_mem (List.mem_of_getElem? (i := 2295) (by decide +kernel)) rfl
def k_rBack_0 : List fwO := [(.aload_n 0, 0, 0, .null), (.aload_n 0, 0, 0, .null), (.getfield 129, 1, 11, .retAddr 174), (.sipush 4000, 0, 0, .int 4000)]
theorem k_rBack_0_ok : fwChain m_rBack.1.cls m_rBack.2.1 0 k_rBack_0 8 = true := by decide +kernel
theorem d_rBack_8 : decode m_rBack.2.1 8 = .ok (.if_icmp .ge 10, 3) := by decide +kernel
def k_rBack_11 : List fwO := [(.aload_n 0, 0, 0, .null), (.getfield 129, 1, 11, .retAddr 174)]
theorem k_rBack_11_ok : fwChain m_rBack.1.cls m_rBack.2.1 11 k_rBack_11 15 = true := by decide +kernel
theorem d_rBack_15 : decode m_rBack.2.1 15 = .ok (.goto 6, 3) := by decide +kernel
def k_rBack_18 : List fwO := [(.sipush 4000, 0, 0, .int 4000)]
theorem k_rBack_18_ok : fwChain m_rBack.1.cls m_rBack.2.1 18 k_rBack_18 21 = true := by decide +kernel
def k_rBack_21 : List fwO := [(.putfield 80, 1, 6, .retAddr 169), (.iconst 0, 0, 0, .int 0), (.istore_n 1, 0, 0, .null)]
theorem k_rBack_21_ok : fwChain m_rBack.1.cls m_rBack.2.1 21 k_rBack_21 26 = true := by decide +kernel
def k_rBack_26 : List fwO := [(.iload_n 1, 0, 0, .null), (.aload_n 0, 0, 0, .null), (.getfield 80, 1, 6, .retAddr 169)]
theorem k_rBack_26_ok : fwChain m_rBack.1.cls m_rBack.2.1 26 k_rBack_26 31 = true := by decide +kernel
theorem d_rBack_31 : decode m_rBack.2.1 31 = .ok (.if_icmp .ge 21, 3) := by decide +kernel
def k_rBack_34 : List fwO := [(.aload_n 0, 0, 0, .null), (.getfield 18, 1, 2, .retAddr 165), (.iload_n 1, 0, 0, .null), (.aload_n 0, 0, 0, .null), (.getfield 28, 1, 5, .retAddr 168), (.iload_n 1, 0, 0, .null), (.baload, 0, 0, .null), (.bastore, 0, 0, .null), (.iinc 1 1, 0, 0, .int 1)]
theorem k_rBack_34_ok : fwChain m_rBack.1.cls m_rBack.2.1 34 k_rBack_34 49 = true := by decide +kernel
theorem d_rBack_49 : decode m_rBack.2.1 49 = .ok (.goto (-23), 3) := by decide +kernel
def k_rBack_52 : List fwO := [(.aload_n 0, 0, 0, .null), (.getfield 80, 1, 6, .retAddr 169)]
theorem k_rBack_52_ok : fwChain m_rBack.1.cls m_rBack.2.1 52 k_rBack_52 56 = true := by decide +kernel
theorem d_rBack_56 : decode m_rBack.2.1 56 = .ok (.ireturn, 1) := by decide +kernel
/-- MonitorBoardModel.disk(IIIII)I -/
abbrev m_rDisk : fwM := (⟨"MonitorBoardModel", "disk", "(IIIII)I"⟩, prog_13_method_48_code, 7, (some FieldType.int))
theorem m_rDisk_in : Cond.code m_rDisk.1 m_rDisk.2.1 m_rDisk.2.2.1 m_rDisk.2.2.2 ∈ fwT := fwT_mem (List.mem_of_getElem? (i := 2679) (by decide +kernel)) rfl
def k_rDisk_0 : List fwO := [(.iload_n 1, 0, 0, .null)]
theorem k_rDisk_0_ok : fwChain m_rDisk.1.cls m_rDisk.2.1 0 k_rDisk_0 1 = true := by decide +kernel
theorem d_rDisk_1 : decode m_rDisk.2.1 1 = .ok (.ifCond .lt 41, 3) := by decide +kernel
def k_rDisk_4 : List fwO := [(.iload_n 1, 0, 0, .null), (.iconst 1, 0, 0, .int 1)]
theorem k_rDisk_4_ok : fwChain m_rDisk.1.cls m_rDisk.2.1 4 k_rDisk_4 6 = true := by decide +kernel
theorem d_rDisk_6 : decode m_rDisk.2.1 6 = .ok (.if_icmp .gt 36, 3) := by decide +kernel
def k_rDisk_9 : List fwO := [(.iload_n 2, 0, 0, .null)]
theorem k_rDisk_9_ok : fwChain m_rDisk.1.cls m_rDisk.2.1 9 k_rDisk_9 10 = true := by decide +kernel
theorem d_rDisk_10 : decode m_rDisk.2.1 10 = .ok (.ifCond .lt 32, 3) := by decide +kernel
def k_rDisk_13 : List fwO := [(.iload_n 2, 0, 0, .null), (.bipush 76, 0, 0, .int 76)]
theorem k_rDisk_13_ok : fwChain m_rDisk.1.cls m_rDisk.2.1 13 k_rDisk_13 16 = true := by decide +kernel
theorem d_rDisk_16 : decode m_rDisk.2.1 16 = .ok (.if_icmp .gt 26, 3) := by decide +kernel
def k_rDisk_19 : List fwO := [(.iload_n 3, 0, 0, .null), (.iconst 1, 0, 0, .int 1)]
theorem k_rDisk_19_ok : fwChain m_rDisk.1.cls m_rDisk.2.1 19 k_rDisk_19 21 = true := by decide +kernel
theorem d_rDisk_21 : decode m_rDisk.2.1 21 = .ok (.if_icmp .lt 21, 3) := by decide +kernel
def k_rDisk_24 : List fwO := [(.iload_n 3, 0, 0, .null), (.bipush 26, 0, 0, .int 26)]
theorem k_rDisk_24_ok : fwChain m_rDisk.1.cls m_rDisk.2.1 24 k_rDisk_24 27 = true := by decide +kernel
theorem d_rDisk_27 : decode m_rDisk.2.1 27 = .ok (.if_icmp .gt 15, 3) := by decide +kernel
def k_rDisk_30 : List fwO := [(.iload 4, 0, 0, .null)]
theorem k_rDisk_30_ok : fwChain m_rDisk.1.cls m_rDisk.2.1 30 k_rDisk_30 32 = true := by decide +kernel
theorem d_rDisk_32 : decode m_rDisk.2.1 32 = .ok (.ifCond .lt 10, 3) := by decide +kernel
def k_rDisk_35 : List fwO := [(.iload 4, 0, 0, .null), (.bipush 127, 0, 0, .int 127)]
theorem k_rDisk_35_ok : fwChain m_rDisk.1.cls m_rDisk.2.1 35 k_rDisk_35 39 = true := by decide +kernel
theorem d_rDisk_39 : decode m_rDisk.2.1 39 = .ok (.if_icmp .le 5, 3) := by decide +kernel
def k_rDisk_42 : List fwO := [(.iconst (-1), 0, 0, .int (-1))]
theorem k_rDisk_42_ok : fwChain m_rDisk.1.cls m_rDisk.2.1 42 k_rDisk_42 43 = true := by decide +kernel
theorem d_rDisk_43 : decode m_rDisk.2.1 43 = .ok (.ireturn, 1) := by decide +kernel
def k_rDisk_44 : List fwO := [(.aload_n 0, 0, 0, .null), (.iload_n 1, 0, 0, .null), (.iload_n 2, 0, 0, .null), (.iload_n 3, 0, 0, .null)]
theorem k_rDisk_44_ok : fwChain m_rDisk.1.cls m_rDisk.2.1 44 k_rDisk_44 48 = true := by decide +kernel
theorem d_rDisk_48 : decode m_rDisk.2.1 48 = .ok (.invokevirtual 284, 3) := by decide +kernel
def k_rDisk_51 : List fwO := [(.iload 4, 0, 0, .null), (.iadd, 0, 0, .null), (.istore 6, 0, 0, .null), (.aload_n 0, 0, 0, .null), (.getfield 15, 1, 1, .retAddr 164), (.iload 6, 0, 0, .null), (.dup2, 0, 0, .null), (.baload, 0, 0, .null), (.iload 5, 0, 0, .null), (.i2b, 0, 0, .null), (.ixor, 0, 0, .null), (.i2b, 0, 0, .null), (.bastore, 0, 0, .null), (.aload_n 0, 0, 0, .null), (.getfield 15, 1, 1, .retAddr 164), (.iload 6, 0, 0, .null), (.baload, 0, 0, .null), (.sipush 255, 0, 0, .int 255), (.iand, 0, 0, .null)]
theorem k_rDisk_51_ok : fwChain m_rDisk.1.cls m_rDisk.2.1 51 k_rDisk_51 81 = true := by decide +kernel
theorem d_rDisk_81 : decode m_rDisk.2.1 81 = .ok (.ireturn, 1) := by decide +kernel
/-- MonitorBoardModel.boot()V -/
abbrev m_rBoot : fwM := (⟨"MonitorBoardModel", "boot", "()V"⟩, prog_13_method_43_code, 1, (none : Option FieldType))
theorem m_rBoot_in : Cond.code m_rBoot.1 m_rBoot.2.1 m_rBoot.2.2.1 m_rBoot.2.2.2 ∈ fwT := fwT_mem (List.mem_of_getElem? (i := 2675) (by decide +kernel)) rfl
def k_rBoot_0 : List fwO := [(.aload_n 0, 0, 0, .null)]
theorem k_rBoot_0_ok : fwChain m_rBoot.1.cls m_rBoot.2.1 0 k_rBoot_0 1 = true := by decide +kernel
theorem d_rBoot_1 : decode m_rBoot.2.1 1 = .ok (.invokevirtual 77, 3) := by decide +kernel
theorem d_rBoot_4 : decode m_rBoot.2.1 4 = .ok (.return_, 1) := by decide +kernel
/-- MonitorBoardModel.run(I)I -/
abbrev m_rRun : fwM := (⟨"MonitorBoardModel", "run", "(I)I"⟩, prog_13_method_42_code, 7, (some FieldType.int))
theorem m_rRun_in : Cond.code m_rRun.1 m_rRun.2.1 m_rRun.2.2.1 m_rRun.2.2.2 ∈ fwT := fwT_mem (List.mem_of_getElem? (i := 2299) (by decide +kernel)) rfl
def k_rRun_0 : List fwO := [(.iload_n 1, 0, 0, .null)]
theorem k_rRun_0_ok : fwChain m_rRun.1.cls m_rRun.2.1 0 k_rRun_0 1 = true := by decide +kernel
theorem d_rRun_1 : decode m_rRun.2.1 1 = .ok (.ifCond .lt 9, 3) := by decide +kernel
def k_rRun_4 : List fwO := [(.iload_n 1, 0, 0, .null), (.ldc 225, 41, 0, .int 200000)]
theorem k_rRun_4_ok : fwChain m_rRun.1.cls m_rRun.2.1 4 k_rRun_4 7 = true := by decide +kernel
theorem d_rRun_7 : decode m_rRun.2.1 7 = .ok (.if_icmp .le 7, 3) := by decide +kernel
def k_rRun_10 : List fwO := [(.iconst 0, 0, 0, .int 0)]
theorem k_rRun_10_ok : fwChain m_rRun.1.cls m_rRun.2.1 10 k_rRun_10 11 = true := by decide +kernel
theorem d_rRun_11 : decode m_rRun.2.1 11 = .ok (.goto 4, 3) := by decide +kernel
def k_rRun_14 : List fwO := [(.iload_n 1, 0, 0, .null)]
theorem k_rRun_14_ok : fwChain m_rRun.1.cls m_rRun.2.1 14 k_rRun_14 15 = true := by decide +kernel
def k_rRun_15 : List fwO := [(.istore_n 2, 0, 0, .null), (.aload_n 0, 0, 0, .null), (.getfield 89, 1, 16, .retAddr 179), (.iload_n 2, 0, 0, .null), (.i2l, 0, 0, .null), (.ladd, 0, 0, .null), (.lstore_n 3, 0, 0, .null), (.iload_n 2, 0, 0, .null)]
theorem k_rRun_15_ok : fwChain m_rRun.1.cls m_rRun.2.1 15 k_rRun_15 25 = true := by decide +kernel
theorem d_rRun_25 : decode m_rRun.2.1 25 = .ok (.ifCond .ne 16, 3) := by decide +kernel
def k_rRun_28 : List fwO := [(.aload_n 0, 0, 0, .null), (.getfield 120, 1, 17, .retAddr 180)]
theorem k_rRun_28_ok : fwChain m_rRun.1.cls m_rRun.2.1 28 k_rRun_28 32 = true := by decide +kernel
theorem d_rRun_32 : decode m_rRun.2.1 32 = .ok (.ifCond .eq 7, 3) := by decide +kernel
def k_rRun_35 : List fwO := [(.iconst 2, 0, 0, .int 2)]
theorem k_rRun_35_ok : fwChain m_rRun.1.cls m_rRun.2.1 35 k_rRun_35 36 = true := by decide +kernel
theorem d_rRun_36 : decode m_rRun.2.1 36 = .ok (.goto 4, 3) := by decide +kernel
def k_rRun_39 : List fwO := [(.iconst 0, 0, 0, .int 0)]
theorem k_rRun_39_ok : fwChain m_rRun.1.cls m_rRun.2.1 39 k_rRun_39 40 = true := by decide +kernel
theorem d_rRun_40 : decode m_rRun.2.1 40 = .ok (.ireturn, 1) := by decide +kernel
def k_rRun_41 : List fwO := [(.aload_n 0, 0, 0, .null), (.getfield 89, 1, 16, .retAddr 179), (.lload_n 3, 0, 0, .null), (.lcmp, 0, 0, .null)]
theorem k_rRun_41_ok : fwChain m_rRun.1.cls m_rRun.2.1 41 k_rRun_41 47 = true := by decide +kernel
theorem d_rRun_47 : decode m_rRun.2.1 47 = .ok (.ifCond .ge 165, 3) := by decide +kernel
def k_rRun_50 : List fwO := [(.aload_n 0, 0, 0, .null), (.getfield 120, 1, 17, .retAddr 180)]
theorem k_rRun_50_ok : fwChain m_rRun.1.cls m_rRun.2.1 50 k_rRun_50 54 = true := by decide +kernel
theorem d_rRun_54 : decode m_rRun.2.1 54 = .ok (.ifCond .eq 5, 3) := by decide +kernel
def k_rRun_57 : List fwO := [(.iconst 2, 0, 0, .int 2)]
theorem k_rRun_57_ok : fwChain m_rRun.1.cls m_rRun.2.1 57 k_rRun_57 58 = true := by decide +kernel
theorem d_rRun_58 : decode m_rRun.2.1 58 = .ok (.ireturn, 1) := by decide +kernel
def k_rRun_59 : List fwO := [(.aload_n 0, 0, 0, .null), (.getfield 116, 1, 18, .retAddr 181)]
theorem k_rRun_59_ok : fwChain m_rRun.1.cls m_rRun.2.1 59 k_rRun_59 63 = true := by decide +kernel
theorem d_rRun_63 : decode m_rRun.2.1 63 = .ok (.ifCond .eq 12, 3) := by decide +kernel
def k_rRun_66 : List fwO := [(.aload_n 0, 0, 0, .null)]
theorem k_rRun_66_ok : fwChain m_rRun.1.cls m_rRun.2.1 66 k_rRun_66 67 = true := by decide +kernel
theorem d_rRun_67 : decode m_rRun.2.1 67 = .ok (.invokevirtual 226, 3) := by decide +kernel
theorem d_rRun_70 : decode m_rRun.2.1 70 = .ok (.ifCond .ne (-29), 3) := by decide +kernel
def k_rRun_73 : List fwO := [(.iconst 1, 0, 0, .int 1)]
theorem k_rRun_73_ok : fwChain m_rRun.1.cls m_rRun.2.1 73 k_rRun_73 74 = true := by decide +kernel
theorem d_rRun_74 : decode m_rRun.2.1 74 = .ok (.ireturn, 1) := by decide +kernel
def k_rRun_75 : List fwO := [(.aload_n 0, 0, 0, .null), (.getfield 99, 1, 15, .retAddr 178), (.ldc 230, 48, 0, .int 60416)]
theorem k_rRun_75_ok : fwChain m_rRun.1.cls m_rRun.2.1 75 k_rRun_75 81 = true := by decide +kernel
theorem d_rRun_81 : decode m_rRun.2.1 81 = .ok (.if_icmp .lt 28, 3) := by decide +kernel
def k_rRun_84 : List fwO := [(.aload_n 0, 0, 0, .null), (.getfield 99, 1, 15, .retAddr 178), (.ldc 231, 49, 0, .int 60464)]
theorem k_rRun_84_ok : fwChain m_rRun.1.cls m_rRun.2.1 84 k_rRun_84 90 = true := by decide +kernel
theorem d_rRun_90 : decode m_rRun.2.1 90 = .ok (.if_icmp .gt 19, 3) := by decide +kernel
def k_rRun_93 : List fwO := [(.aload_n 0, 0, 0, .null), (.getfield 99, 1, 15, .retAddr 178), (.ldc 230, 48, 0, .int 60416), (.isub, 0, 0, .null), (.iconst 3, 0, 0, .int 3), (.irem, 0, 0, .null)]
theorem k_rRun_93_ok : fwChain m_rRun.1.cls m_rRun.2.1 93 k_rRun_93 102 = true := by decide +kernel
theorem d_rRun_102 : decode m_rRun.2.1 102 = .ok (.ifCond .ne 7, 3) := by decide +kernel
def k_rRun_105 : List fwO := [(.iconst 1, 0, 0, .int 1)]
theorem k_rRun_105_ok : fwChain m_rRun.1.cls m_rRun.2.1 105 k_rRun_105 106 = true := by decide +kernel
theorem d_rRun_106 : decode m_rRun.2.1 106 = .ok (.goto 4, 3) := by decide +kernel
def k_rRun_109 : List fwO := [(.iconst 0, 0, 0, .int 0)]
theorem k_rRun_109_ok : fwChain m_rRun.1.cls m_rRun.2.1 109 k_rRun_109 110 = true := by decide +kernel
def k_rRun_110 : List fwO := [(.istore 5, 0, 0, .null), (.iload 5, 0, 0, .null)]
theorem k_rRun_110_ok : fwChain m_rRun.1.cls m_rRun.2.1 110 k_rRun_110 114 = true := by decide +kernel
theorem d_rRun_114 : decode m_rRun.2.1 114 = .ok (.ifCond .ne 12, 3) := by decide +kernel
def k_rRun_117 : List fwO := [(.aload_n 0, 0, 0, .null), (.getfield 99, 1, 15, .retAddr 178), (.ldc 232, 40, 0, .int 60934)]
theorem k_rRun_117_ok : fwChain m_rRun.1.cls m_rRun.2.1 117 k_rRun_117 123 = true := by decide +kernel
theorem d_rRun_123 : decode m_rRun.2.1 123 = .ok (.if_icmp .ne 72, 3) := by decide +kernel
def k_rRun_126 : List fwO := [(.aload_n 0, 0, 0, .null), (.iconst 0, 0, 0, .int 0), (.putfield 233, 1, 20, .retAddr 183), (.iload 5, 0, 0, .null)]
theorem k_rRun_126_ok : fwChain m_rRun.1.cls m_rRun.2.1 126 k_rRun_126 133 = true := by decide +kernel
theorem d_rRun_133 : decode m_rRun.2.1 133 = .ok (.ifCond .eq 19, 3) := by decide +kernel
def k_rRun_136 : List fwO := [(.aload_n 0, 0, 0, .null), (.aload_n 0, 0, 0, .null), (.getfield 99, 1, 15, .retAddr 178), (.ldc 230, 48, 0, .int 60416), (.isub, 0, 0, .null), (.iconst 3, 0, 0, .int 3), (.idiv, 0, 0, .null)]
theorem k_rRun_136_ok : fwChain m_rRun.1.cls m_rRun.2.1 136 k_rRun_136 146 = true := by decide +kernel
theorem d_rRun_146 : decode m_rRun.2.1 146 = .ok (.invokevirtual 236, 3) := by decide +kernel
theorem d_rRun_149 : decode m_rRun.2.1 149 = .ok (.goto 7, 3) := by decide +kernel
def k_rRun_152 : List fwO := [(.aload_n 0, 0, 0, .null)]
theorem k_rRun_152_ok : fwChain m_rRun.1.cls m_rRun.2.1 152 k_rRun_152 153 = true := by decide +kernel
theorem d_rRun_153 : decode m_rRun.2.1 153 = .ok (.invokevirtual 239, 3) := by decide +kernel
def k_rRun_156 : List fwO := [(.istore 6, 0, 0, .null), (.iload 6, 0, 0, .null)]
theorem k_rRun_156_ok : fwChain m_rRun.1.cls m_rRun.2.1 156 k_rRun_156 160 = true := by decide +kernel
theorem d_rRun_160 : decode m_rRun.2.1 160 = .ok (.ifCond .ne 5, 3) := by decide +kernel
def k_rRun_163 : List fwO := [(.iconst 1, 0, 0, .int 1)]
theorem k_rRun_163_ok : fwChain m_rRun.1.cls m_rRun.2.1 163 k_rRun_163 164 = true := by decide +kernel
theorem d_rRun_164 : decode m_rRun.2.1 164 = .ok (.ireturn, 1) := by decide +kernel
def k_rRun_165 : List fwO := [(.aload_n 0, 0, 0, .null), (.dup, 0, 0, .null), (.getfield 89, 1, 16, .retAddr 179), (.ldc2_w 242, 15, 0, .long 50), (.ladd, 0, 0, .null), (.putfield 89, 1, 16, .retAddr 179), (.aload_n 0, 0, 0, .null), (.getfield 233, 1, 20, .retAddr 183)]
theorem k_rRun_165_ok : fwChain m_rRun.1.cls m_rRun.2.1 165 k_rRun_165 181 = true := by decide +kernel
theorem d_rRun_181 : decode m_rRun.2.1 181 = .ok (.ifCond .ne 11, 3) := by decide +kernel
def k_rRun_184 : List fwO := [(.aload_n 0, 0, 0, .null), (.aload_n 0, 0, 0, .null)]
theorem k_rRun_184_ok : fwChain m_rRun.1.cls m_rRun.2.1 184 k_rRun_184 186 = true := by decide +kernel
theorem d_rRun_186 : decode m_rRun.2.1 186 = .ok (.invokevirtual 213, 3) := by decide +kernel
def k_rRun_189 : List fwO := [(.putfield 99, 1, 15, .retAddr 178)]
theorem k_rRun_189_ok : fwChain m_rRun.1.cls m_rRun.2.1 189 k_rRun_189 192 = true := by decide +kernel
theorem d_rRun_192 : decode m_rRun.2.1 192 = .ok (.goto 17, 3) := by decide +kernel
def k_rRun_195 : List fwO := [(.aload_n 0, 0, 0, .null), (.dup, 0, 0, .null), (.getfield 89, 1, 16, .retAddr 179), (.aload_n 0, 0, 0, .null)]
theorem k_rRun_195_ok : fwChain m_rRun.1.cls m_rRun.2.1 195 k_rRun_195 201 = true := by decide +kernel
theorem d_rRun_201 : decode m_rRun.2.1 201 = .ok (.invokevirtual 244, 3) := by decide +kernel
def k_rRun_204 : List fwO := [(.i2l, 0, 0, .null), (.ladd, 0, 0, .null), (.putfield 89, 1, 16, .retAddr 179)]
theorem k_rRun_204_ok : fwChain m_rRun.1.cls m_rRun.2.1 204 k_rRun_204 209 = true := by decide +kernel
theorem d_rRun_209 : decode m_rRun.2.1 209 = .ok (.goto (-168), 3) := by decide +kernel
def k_rRun_212 : List fwO := [(.aload_n 0, 0, 0, .null), (.getfield 120, 1, 17, .retAddr 180)]
theorem k_rRun_212_ok : fwChain m_rRun.1.cls m_rRun.2.1 212 k_rRun_212 216 = true := by decide +kernel
theorem d_rRun_216 : decode m_rRun.2.1 216 = .ok (.ifCond .eq 7, 3) := by decide +kernel
def k_rRun_219 : List fwO := [(.iconst 2, 0, 0, .int 2)]
theorem k_rRun_219_ok : fwChain m_rRun.1.cls m_rRun.2.1 219 k_rRun_219 220 = true := by decide +kernel
theorem d_rRun_220 : decode m_rRun.2.1 220 = .ok (.goto 4, 3) := by decide +kernel
def k_rRun_223 : List fwO := [(.iconst 0, 0, 0, .int 0)]
theorem k_rRun_223_ok : fwChain m_rRun.1.cls m_rRun.2.1 223 k_rRun_223 224 = true := by decide +kernel
theorem d_rRun_224 : decode m_rRun.2.1 224 = .ok (.ireturn, 1) := by decide +kernel
theorem c_rNewLine_3 : ∀ w ∈ ([(Cond.methodLink "MonitorBoardModel" (149 : Nat) ({ cls := "MonitorBoardModel", name := "tell", desc := "(I)V" } : MethodName)), (Cond.instanceMethod ({ cls := "MonitorBoardModel", name := "tell", desc := "(I)V" } : MethodName)), (Cond.selects "MonitorBoardModel" ({ cls := "MonitorBoardModel", name := "tell", desc := "(I)V" } : MethodName) ({ cls := "MonitorBoardModel", name := "tell", desc := "(I)V" } : MethodName)), (Cond.initialized "MonitorBoardModel")] : List Cond), w ∈ fwT := fwT_all [1955, 1957, 148, 298] (by decide +kernel) (by decide +kernel)
theorem c_rNewLine_9 : ∀ w ∈ ([(Cond.methodLink "MonitorBoardModel" (149 : Nat) ({ cls := "MonitorBoardModel", name := "tell", desc := "(I)V" } : MethodName)), (Cond.instanceMethod ({ cls := "MonitorBoardModel", name := "tell", desc := "(I)V" } : MethodName)), (Cond.selects "MonitorBoardModel" ({ cls := "MonitorBoardModel", name := "tell", desc := "(I)V" } : MethodName) ({ cls := "MonitorBoardModel", name := "tell", desc := "(I)V" } : MethodName)), (Cond.initialized "MonitorBoardModel")] : List Cond), w ∈ fwT := c_rNewLine_3
theorem c_rTellText_4 : ∀ w ∈ ([(Cond.methodLink "MonitorBoardModel" (140 : Nat) ({ cls := "java/lang/String", name := "length", desc := "()I" } : MethodName)), (Cond.instanceMethod ({ cls := "java/lang/String", name := "length", desc := "()I" } : MethodName)), (Cond.selects "java/lang/String" ({ cls := "java/lang/String", name := "length", desc := "()I" } : MethodName) ({ cls := "java/lang/String", name := "length", desc := "()I" } : MethodName)), (Cond.initialized "java/lang/String")] : List Cond), w ∈ fwT := fwT_all [1964, 571, 572, 290] (by decide +kernel) (by decide +kernel)
theorem c_rTellText_13 : ∀ w ∈ ([(Cond.methodLink "MonitorBoardModel" (145 : Nat) ({ cls := "java/lang/String", name := "charAt", desc := "(I)C" } : MethodName)), (Cond.instanceMethod ({ cls := "java/lang/String", name := "charAt", desc := "(I)C" } : MethodName)), (Cond.selects "java/lang/String" ({ cls := "java/lang/String", name := "charAt", desc := "(I)C" } : MethodName) ({ cls := "java/lang/String", name := "charAt", desc := "(I)C" } : MethodName)), (Cond.initialized "java/lang/String")] : List Cond), w ∈ fwT := fwT_all [1965, 581, 582, 290] (by decide +kernel) (by decide +kernel)
theorem c_rTellText_16 : ∀ w ∈ ([(Cond.methodLink "MonitorBoardModel" (149 : Nat) ({ cls := "MonitorBoardModel", name := "tell", desc := "(I)V" } : MethodName)), (Cond.instanceMethod ({ cls := "MonitorBoardModel", name := "tell", desc := "(I)V" } : MethodName)), (Cond.selects "MonitorBoardModel" ({ cls := "MonitorBoardModel", name := "tell", desc := "(I)V" } : MethodName) ({ cls := "MonitorBoardModel", name := "tell", desc := "(I)V" } : MethodName)), (Cond.initialized "MonitorBoardModel")] : List Cond), w ∈ fwT := c_rNewLine_3
theorem c_rSetWord_3 : ∀ w ∈ ([(Cond.methodLink "MonitorBoardModel" (112 : Nat) ({ cls := "MonitorBoardModel", name := "set", desc := "(II)V" } : MethodName)), (Cond.instanceMethod ({ cls := "MonitorBoardModel", name := "set", desc := "(II)V" } : MethodName)), (Cond.selects "MonitorBoardModel" ({ cls := "MonitorBoardModel", name := "set", desc := "(II)V" } : MethodName) ({ cls := "MonitorBoardModel", name := "set", desc := "(II)V" } : MethodName)), (Cond.initialized "MonitorBoardModel")] : List Cond), w ∈ fwT := fwT_all [1970, 1972, 151, 298] (by decide +kernel) (by decide +kernel)
theorem c_rSetWord_14 : ∀ w ∈ ([(Cond.methodLink "MonitorBoardModel" (112 : Nat) ({ cls := "MonitorBoardModel", name := "set", desc := "(II)V" } : MethodName)), (Cond.instanceMethod ({ cls := "MonitorBoardModel", name := "set", desc := "(II)V" } : MethodName)), (Cond.selects "MonitorBoardModel" ({ cls := "MonitorBoardModel", name := "set", desc := "(II)V" } : MethodName) ({ cls := "MonitorBoardModel", name := "set", desc := "(II)V" } : MethodName)), (Cond.initialized "MonitorBoardModel")] : List Cond), w ∈ fwT := c_rSetWord_3
theorem c_rRecordAt_40 : ∀ w ∈ ([(Cond.methodLink "MonitorBoardModel" (284 : Nat) ({ cls := "MonitorBoardModel", name := "sectorAt", desc := "(III)I" } : MethodName)), (Cond.instanceMethod ({ cls := "MonitorBoardModel", name := "sectorAt", desc := "(III)I" } : MethodName)), (Cond.selects "MonitorBoardModel" ({ cls := "MonitorBoardModel", name := "sectorAt", desc := "(III)I" } : MethodName) ({ cls := "MonitorBoardModel", name := "sectorAt", desc := "(III)I" } : MethodName)), (Cond.initialized "MonitorBoardModel")] : List Cond), w ∈ fwT := fwT_all [1998, 2000, 157, 298] (by decide +kernel) (by decide +kernel)
theorem c_rEntryAt_12 : ∀ w ∈ ([(Cond.methodLink "MonitorBoardModel" (287 : Nat) ({ cls := "MonitorBoardModel", name := "recordAt", desc := "(III)I" } : MethodName)), (Cond.instanceMethod ({ cls := "MonitorBoardModel", name := "recordAt", desc := "(III)I" } : MethodName)), (Cond.selects "MonitorBoardModel" ({ cls := "MonitorBoardModel", name := "recordAt", desc := "(III)I" } : MethodName) ({ cls := "MonitorBoardModel", name := "recordAt", desc := "(III)I" } : MethodName)), (Cond.initialized "MonitorBoardModel")] : List Cond), w ∈ fwT := fwT_all [1994, 1996, 156, 298] (by decide +kernel) (by decide +kernel)
theorem c_rEntry_8 : ∀ w ∈ ([(Cond.methodLink "MonitorBoardModel" (290 : Nat) ({ cls := "MonitorBoardModel", name := "entryAt", desc := "(III)I" } : MethodName)), (Cond.instanceMethod ({ cls := "MonitorBoardModel", name := "entryAt", desc := "(III)I" } : MethodName)), (Cond.selects "MonitorBoardModel" ({ cls := "MonitorBoardModel", name := "entryAt", desc := "(III)I" } : MethodName) ({ cls := "MonitorBoardModel", name := "entryAt", desc := "(III)I" } : MethodName)), (Cond.initialized "MonitorBoardModel")] : List Cond), w ∈ fwT := fwT_all [1990, 1992, 155, 298] (by decide +kernel) (by decide +kernel)
theorem c_rLogin_74 : ∀ w ∈ ([(Cond.methodLink "MonitorBoardModel" (293 : Nat) ({ cls := "MonitorBoardModel", name := "entry", desc := "(III)I" } : MethodName)), (Cond.instanceMethod ({ cls := "MonitorBoardModel", name := "entry", desc := "(III)I" } : MethodName)), (Cond.selects "MonitorBoardModel" ({ cls := "MonitorBoardModel", name := "entry", desc := "(III)I" } : MethodName) ({ cls := "MonitorBoardModel", name := "entry", desc := "(III)I" } : MethodName)), (Cond.initialized "MonitorBoardModel")] : List Cond), w ∈ fwT := fwT_all [1986, 1988, 154, 298] (by decide +kernel) (by decide +kernel)
theorem c_rLogin_99 : ∀ w ∈ ([(Cond.methodLink "MonitorBoardModel" (293 : Nat) ({ cls := "MonitorBoardModel", name := "entry", desc := "(III)I" } : MethodName)), (Cond.instanceMethod ({ cls := "MonitorBoardModel", name := "entry", desc := "(III)I" } : MethodName)), (Cond.selects "MonitorBoardModel" ({ cls := "MonitorBoardModel", name := "entry", desc := "(III)I" } : MethodName) ({ cls := "MonitorBoardModel", name := "entry", desc := "(III)I" } : MethodName)), (Cond.initialized "MonitorBoardModel")] : List Cond), w ∈ fwT := c_rLogin_74
theorem c_rLogin_121 : ∀ w ∈ ([(Cond.methodLink "MonitorBoardModel" (293 : Nat) ({ cls := "MonitorBoardModel", name := "entry", desc := "(III)I" } : MethodName)), (Cond.instanceMethod ({ cls := "MonitorBoardModel", name := "entry", desc := "(III)I" } : MethodName)), (Cond.selects "MonitorBoardModel" ({ cls := "MonitorBoardModel", name := "entry", desc := "(III)I" } : MethodName) ({ cls := "MonitorBoardModel", name := "entry", desc := "(III)I" } : MethodName)), (Cond.initialized "MonitorBoardModel")] : List Cond), w ∈ fwT := c_rLogin_74
theorem c_rPrompt_1 : ∀ w ∈ ([(Cond.methodLink "MonitorBoardModel" (259 : Nat) ({ cls := "MonitorBoardModel", name := "newLine", desc := "()V" } : MethodName)), (Cond.instanceMethod ({ cls := "MonitorBoardModel", name := "newLine", desc := "()V" } : MethodName)), (Cond.selects "MonitorBoardModel" ({ cls := "MonitorBoardModel", name := "newLine", desc := "()V" } : MethodName) ({ cls := "MonitorBoardModel", name := "newLine", desc := "()V" } : MethodName)), (Cond.initialized "MonitorBoardModel")] : List Cond), w ∈ fwT := fwT_all [1951, 1953, 147, 298] (by decide +kernel) (by decide +kernel)
theorem c_rPrompt_12 : ∀ w ∈ ([(Cond.methodLink "MonitorBoardModel" (149 : Nat) ({ cls := "MonitorBoardModel", name := "tell", desc := "(I)V" } : MethodName)), (Cond.instanceMethod ({ cls := "MonitorBoardModel", name := "tell", desc := "(I)V" } : MethodName)), (Cond.selects "MonitorBoardModel" ({ cls := "MonitorBoardModel", name := "tell", desc := "(I)V" } : MethodName) ({ cls := "MonitorBoardModel", name := "tell", desc := "(I)V" } : MethodName)), (Cond.initialized "MonitorBoardModel")] : List Cond), w ∈ fwT := c_rNewLine_3
theorem c_rPrompt_27 : ∀ w ∈ ([(Cond.methodLink "MonitorBoardModel" (419 : Nat) ({ cls := "MonitorBoardModel", name := "tellNumber", desc := "(I)V" } : MethodName)), (Cond.instanceMethod ({ cls := "MonitorBoardModel", name := "tellNumber", desc := "(I)V" } : MethodName)), (Cond.selects "MonitorBoardModel" ({ cls := "MonitorBoardModel", name := "tellNumber", desc := "(I)V" } : MethodName) ({ cls := "MonitorBoardModel", name := "tellNumber", desc := "(I)V" } : MethodName)), (Cond.initialized "MonitorBoardModel")] : List Cond), w ∈ fwT := fwT_all [2010, 2012, 160, 298] (by decide +kernel) (by decide +kernel)
theorem c_rPrompt_33 : ∀ w ∈ ([(Cond.methodLink "MonitorBoardModel" (149 : Nat) ({ cls := "MonitorBoardModel", name := "tell", desc := "(I)V" } : MethodName)), (Cond.instanceMethod ({ cls := "MonitorBoardModel", name := "tell", desc := "(I)V" } : MethodName)), (Cond.selects "MonitorBoardModel" ({ cls := "MonitorBoardModel", name := "tell", desc := "(I)V" } : MethodName) ({ cls := "MonitorBoardModel", name := "tell", desc := "(I)V" } : MethodName)), (Cond.initialized "MonitorBoardModel")] : List Cond), w ∈ fwT := c_rNewLine_3
theorem c_rWarm_15 : ∀ w ∈ ([(Cond.methodLink "MonitorBoardModel" (112 : Nat) ({ cls := "MonitorBoardModel", name := "set", desc := "(II)V" } : MethodName)), (Cond.instanceMethod ({ cls := "MonitorBoardModel", name := "set", desc := "(II)V" } : MethodName)), (Cond.selects "MonitorBoardModel" ({ cls := "MonitorBoardModel", name := "set", desc := "(II)V" } : MethodName) ({ cls := "MonitorBoardModel", name := "set", desc := "(II)V" } : MethodName)), (Cond.initialized "MonitorBoardModel")] : List Cond), w ∈ fwT := c_rSetWord_3
theorem c_rWarm_23 : ∀ w ∈ ([(Cond.methodLink "MonitorBoardModel" (163 : Nat) ({ cls := "MonitorBoardModel", name := "setWord", desc := "(II)V" } : MethodName)), (Cond.instanceMethod ({ cls := "MonitorBoardModel", name := "setWord", desc := "(II)V" } : MethodName)), (Cond.selects "MonitorBoardModel" ({ cls := "MonitorBoardModel", name := "setWord", desc := "(II)V" } : MethodName) ({ cls := "MonitorBoardModel", name := "setWord", desc := "(II)V" } : MethodName)), (Cond.initialized "MonitorBoardModel")] : List Cond), w ∈ fwT := fwT_all [1977, 1979, 152, 298] (by decide +kernel) (by decide +kernel)
theorem c_rWarm_31 : ∀ w ∈ ([(Cond.methodLink "MonitorBoardModel" (112 : Nat) ({ cls := "MonitorBoardModel", name := "set", desc := "(II)V" } : MethodName)), (Cond.instanceMethod ({ cls := "MonitorBoardModel", name := "set", desc := "(II)V" } : MethodName)), (Cond.selects "MonitorBoardModel" ({ cls := "MonitorBoardModel", name := "set", desc := "(II)V" } : MethodName) ({ cls := "MonitorBoardModel", name := "set", desc := "(II)V" } : MethodName)), (Cond.initialized "MonitorBoardModel")] : List Cond), w ∈ fwT := c_rSetWord_3
theorem c_rWarm_39 : ∀ w ∈ ([(Cond.methodLink "MonitorBoardModel" (163 : Nat) ({ cls := "MonitorBoardModel", name := "setWord", desc := "(II)V" } : MethodName)), (Cond.instanceMethod ({ cls := "MonitorBoardModel", name := "setWord", desc := "(II)V" } : MethodName)), (Cond.selects "MonitorBoardModel" ({ cls := "MonitorBoardModel", name := "setWord", desc := "(II)V" } : MethodName) ({ cls := "MonitorBoardModel", name := "setWord", desc := "(II)V" } : MethodName)), (Cond.initialized "MonitorBoardModel")] : List Cond), w ∈ fwT := c_rWarm_23
theorem c_rWarm_59 : ∀ w ∈ ([(Cond.methodLink "MonitorBoardModel" (275 : Nat) ({ cls := "MonitorBoardModel", name := "login", desc := "(I)V" } : MethodName)), (Cond.instanceMethod ({ cls := "MonitorBoardModel", name := "login", desc := "(I)V" } : MethodName)), (Cond.selects "MonitorBoardModel" ({ cls := "MonitorBoardModel", name := "login", desc := "(I)V" } : MethodName) ({ cls := "MonitorBoardModel", name := "login", desc := "(I)V" } : MethodName)), (Cond.initialized "MonitorBoardModel")] : List Cond), w ∈ fwT := fwT_all [1982, 1984, 153, 298] (by decide +kernel) (by decide +kernel)
theorem c_rWarm_63 : ∀ w ∈ ([(Cond.methodLink "MonitorBoardModel" (123 : Nat) ({ cls := "MonitorBoardModel", name := "forget", desc := "()V" } : MethodName)), (Cond.instanceMethod ({ cls := "MonitorBoardModel", name := "forget", desc := "()V" } : MethodName)), (Cond.selects "MonitorBoardModel" ({ cls := "MonitorBoardModel", name := "forget", desc := "()V" } : MethodName) ({ cls := "MonitorBoardModel", name := "forget", desc := "()V" } : MethodName)), (Cond.initialized "MonitorBoardModel")] : List Cond), w ∈ fwT := fwT_all [2002, 2004, 158, 298] (by decide +kernel) (by decide +kernel)
theorem c_rWarm_84 : ∀ w ∈ ([(Cond.methodLink "MonitorBoardModel" (281 : Nat) ({ cls := "MonitorBoardModel", name := "prompt", desc := "()V" } : MethodName)), (Cond.instanceMethod ({ cls := "MonitorBoardModel", name := "prompt", desc := "()V" } : MethodName)), (Cond.selects "MonitorBoardModel" ({ cls := "MonitorBoardModel", name := "prompt", desc := "()V" } : MethodName) ({ cls := "MonitorBoardModel", name := "prompt", desc := "()V" } : MethodName)), (Cond.initialized "MonitorBoardModel")] : List Cond), w ∈ fwT := fwT_all [2006, 2008, 159, 298] (by decide +kernel) (by decide +kernel)
theorem c_rCold_98 : ∀ w ∈ ([(Cond.methodLink "MonitorBoardModel" (259 : Nat) ({ cls := "MonitorBoardModel", name := "newLine", desc := "()V" } : MethodName)), (Cond.instanceMethod ({ cls := "MonitorBoardModel", name := "newLine", desc := "()V" } : MethodName)), (Cond.selects "MonitorBoardModel" ({ cls := "MonitorBoardModel", name := "newLine", desc := "()V" } : MethodName) ({ cls := "MonitorBoardModel", name := "newLine", desc := "()V" } : MethodName)), (Cond.initialized "MonitorBoardModel")] : List Cond), w ∈ fwT := c_rPrompt_1
theorem c_rCold_105 : ∀ w ∈ ([(Cond.methodLink "MonitorBoardModel" (264 : Nat) ({ cls := "MonitorBoardModel", name := "tellText", desc := "(Ljava/lang/String;)V" } : MethodName)), (Cond.instanceMethod ({ cls := "MonitorBoardModel", name := "tellText", desc := "(Ljava/lang/String;)V" } : MethodName)), (Cond.selects "MonitorBoardModel" ({ cls := "MonitorBoardModel", name := "tellText", desc := "(Ljava/lang/String;)V" } : MethodName) ({ cls := "MonitorBoardModel", name := "tellText", desc := "(Ljava/lang/String;)V" } : MethodName)), (Cond.initialized "MonitorBoardModel")] : List Cond), w ∈ fwT := fwT_all [1960, 1962, 149, 298] (by decide +kernel) (by decide +kernel)
theorem c_rCold_109 : ∀ w ∈ ([(Cond.methodLink "MonitorBoardModel" (268 : Nat) ({ cls := "MonitorBoardModel", name := "warm", desc := "()V" } : MethodName)), (Cond.instanceMethod ({ cls := "MonitorBoardModel", name := "warm", desc := "()V" } : MethodName)), (Cond.selects "MonitorBoardModel" ({ cls := "MonitorBoardModel", name := "warm", desc := "()V" } : MethodName) ({ cls := "MonitorBoardModel", name := "warm", desc := "()V" } : MethodName)), (Cond.initialized "MonitorBoardModel")] : List Cond), w ∈ fwT := fwT_all [1966, 1968, 150, 298] (by decide +kernel) (by decide +kernel)
theorem c_rInit_1 : ∀ w ∈ ([(Cond.methodLink "MonitorBoardModel" (3 : Nat) ({ cls := "java/lang/Object", name := "<init>", desc := "()V" } : MethodName)), (Cond.instanceMethod ({ cls := "java/lang/Object", name := "<init>", desc := "()V" } : MethodName)), (Cond.code ({ cls := "java/lang/Object", name := "<init>", desc := "()V" } : MethodName) object_method_1_code (1 : Nat) (Option.none : Option FieldType))] : List Cond), w ∈ fwT := fwT_all [1942, 309, 310] (by decide +kernel) (by decide +kernel)
theorem c_rInit_268 : ∀ w ∈ ([(Cond.methodLink "MonitorBoardModel" (77 : Nat) ({ cls := "MonitorBoardModel", name := "cold", desc := "()V" } : MethodName)), (Cond.instanceMethod ({ cls := "MonitorBoardModel", name := "cold", desc := "()V" } : MethodName)), (Cond.selects "MonitorBoardModel" ({ cls := "MonitorBoardModel", name := "cold", desc := "()V" } : MethodName) ({ cls := "MonitorBoardModel", name := "cold", desc := "()V" } : MethodName)), (Cond.initialized "MonitorBoardModel")] : List Cond), w ∈ fwT := fwT_all [1947, 1949, 146, 298] (by decide +kernel) (by decide +kernel)
theorem c_rLoad_25 : ∀ w ∈ ([(Cond.methodLink "MonitorBoardModel" (112 : Nat) ({ cls := "MonitorBoardModel", name := "set", desc := "(II)V" } : MethodName)), (Cond.instanceMethod ({ cls := "MonitorBoardModel", name := "set", desc := "(II)V" } : MethodName)), (Cond.selects "MonitorBoardModel" ({ cls := "MonitorBoardModel", name := "set", desc := "(II)V" } : MethodName) ({ cls := "MonitorBoardModel", name := "set", desc := "(II)V" } : MethodName)), (Cond.initialized "MonitorBoardModel")] : List Cond), w ∈ fwT := c_rSetWord_3
theorem c_rJump_19 : ∀ w ∈ ([(Cond.methodLink "MonitorBoardModel" (123 : Nat) ({ cls := "MonitorBoardModel", name := "forget", desc := "()V" } : MethodName)), (Cond.instanceMethod ({ cls := "MonitorBoardModel", name := "forget", desc := "()V" } : MethodName)), (Cond.selects "MonitorBoardModel" ({ cls := "MonitorBoardModel", name := "forget", desc := "()V" } : MethodName) ({ cls := "MonitorBoardModel", name := "forget", desc := "()V" } : MethodName)), (Cond.initialized "MonitorBoardModel")] : List Cond), w ∈ fwT := c_rWarm_63
theorem c_rDisk_48 : ∀ w ∈ ([(Cond.methodLink "MonitorBoardModel" (284 : Nat) ({ cls := "MonitorBoardModel", name := "sectorAt", desc := "(III)I" } : MethodName)), (Cond.instanceMethod ({ cls := "MonitorBoardModel", name := "sectorAt", desc := "(III)I" } : MethodName)), (Cond.selects "MonitorBoardModel" ({ cls := "MonitorBoardModel", name := "sectorAt", desc := "(III)I" } : MethodName) ({ cls := "MonitorBoardModel", name := "sectorAt", desc := "(III)I" } : MethodName)), (Cond.initialized "MonitorBoardModel")] : List Cond), w ∈ fwT := c_rRecordAt_40
theorem c_rBoot_1 : ∀ w ∈ ([(Cond.methodLink "MonitorBoardModel" (77 : Nat) ({ cls := "MonitorBoardModel", name := "cold", desc := "()V" } : MethodName)), (Cond.instanceMethod ({ cls := "MonitorBoardModel", name := "cold", desc := "()V" } : MethodName)), (Cond.selects "MonitorBoardModel" ({ cls := "MonitorBoardModel", name := "cold", desc := "()V" } : MethodName) ({ cls := "MonitorBoardModel", name := "cold", desc := "()V" } : MethodName)), (Cond.initialized "MonitorBoardModel")] : List Cond), w ∈ fwT := c_rInit_268
theorem c_rRun_67 : ∀ w ∈ ([(Cond.methodLink "MonitorBoardModel" (226 : Nat) ({ cls := "MonitorBoardModel", name := "line", desc := "()Z" } : MethodName)), (Cond.instanceMethod ({ cls := "MonitorBoardModel", name := "line", desc := "()Z" } : MethodName)), (Cond.selects "MonitorBoardModel" ({ cls := "MonitorBoardModel", name := "line", desc := "()Z" } : MethodName) ({ cls := "MonitorBoardModel", name := "line", desc := "()Z" } : MethodName)), (Cond.initialized "MonitorBoardModel")] : List Cond), w ∈ fwT := fwT_all [2301, 2303, 161, 298] (by decide +kernel) (by decide +kernel)
theorem c_rRun_146 : ∀ w ∈ ([(Cond.methodLink "MonitorBoardModel" (236 : Nat) ({ cls := "MonitorBoardModel", name := "bios", desc := "(I)Z" } : MethodName)), (Cond.instanceMethod ({ cls := "MonitorBoardModel", name := "bios", desc := "(I)Z" } : MethodName)), (Cond.selects "MonitorBoardModel" ({ cls := "MonitorBoardModel", name := "bios", desc := "(I)Z" } : MethodName) ({ cls := "MonitorBoardModel", name := "bios", desc := "(I)Z" } : MethodName)), (Cond.initialized "MonitorBoardModel")] : List Cond), w ∈ fwT := fwT_all [2527, 2529, 209, 298] (by decide +kernel) (by decide +kernel)
theorem c_rRun_153 : ∀ w ∈ ([(Cond.methodLink "MonitorBoardModel" (239 : Nat) ({ cls := "MonitorBoardModel", name := "call", desc := "()Z" } : MethodName)), (Cond.instanceMethod ({ cls := "MonitorBoardModel", name := "call", desc := "()Z" } : MethodName)), (Cond.selects "MonitorBoardModel" ({ cls := "MonitorBoardModel", name := "call", desc := "()Z" } : MethodName) ({ cls := "MonitorBoardModel", name := "call", desc := "()Z" } : MethodName)), (Cond.initialized "MonitorBoardModel")] : List Cond), w ∈ fwT := fwT_all [2544, 2546, 213, 298] (by decide +kernel) (by decide +kernel)
theorem c_rRun_186 : ∀ w ∈ ([(Cond.methodLink "MonitorBoardModel" (213 : Nat) ({ cls := "MonitorBoardModel", name := "pop", desc := "()I" } : MethodName)), (Cond.instanceMethod ({ cls := "MonitorBoardModel", name := "pop", desc := "()I" } : MethodName)), (Cond.selects "MonitorBoardModel" ({ cls := "MonitorBoardModel", name := "pop", desc := "()I" } : MethodName) ({ cls := "MonitorBoardModel", name := "pop", desc := "()I" } : MethodName)), (Cond.initialized "MonitorBoardModel")] : List Cond), w ∈ fwT := fwT_all [2592, 2594, 224, 298] (by decide +kernel) (by decide +kernel)
theorem c_rRun_201 : ∀ w ∈ ([(Cond.methodLink "MonitorBoardModel" (244 : Nat) ({ cls := "MonitorBoardModel", name := "code", desc := "()I" } : MethodName)), (Cond.instanceMethod ({ cls := "MonitorBoardModel", name := "code", desc := "()I" } : MethodName)), (Cond.selects "MonitorBoardModel" ({ cls := "MonitorBoardModel", name := "code", desc := "()I" } : MethodName) ({ cls := "MonitorBoardModel", name := "code", desc := "()I" } : MethodName)), (Cond.initialized "MonitorBoardModel")] : List Cond), w ∈ fwT := fwT_all [2600, 2602, 226, 298] (by decide +kernel) (by decide +kernel)
