/-! methods, their instructions, by program (wip/whole/methods.py) -/
/-- MonitorBoard$Console.tell(I)V -/
abbrev m_tell : fwM := (⟨"MonitorBoard$Console", "tell", "(I)V"⟩, prog_4_method_2_code, 2, (none : Option FieldType))
theorem m_tell_in : Cond.code m_tell.1 m_tell.2.1 m_tell.2.2.1 m_tell.2.2.2 ∈ fwT := fwT_mem (List.mem_of_getElem? (i := 824) (by decide +kernel)) rfl
def k_tell_0 : List fwO := [(.aload_n 0, 0, 0, .null), (.getfield 9, 3, 0, .retAddr 0), (.aload_n 0, 0, 0, .null), (.getfield 22, 3, 3, .retAddr 5), (.aload_n 0, 0, 0, .null), (.getfield 26, 3, 4, .retAddr 6), (.iadd, 0, 0, .null), (.sipush 8000, 0, 0, .int 8000), (.irem, 0, 0, .null), (.iload_n 1, 0, 0, .null), (.i2b, 0, 0, .null), (.bastore, 0, 0, .null), (.aload_n 0, 0, 0, .null), (.getfield 26, 3, 4, .retAddr 6), (.sipush 8000, 0, 0, .int 8000)]
theorem k_tell_0_ok : fwChain m_tell.1.cls m_tell.2.1 0 k_tell_0 27 = true := by decide +kernel
theorem d_tell_27 : decode m_tell.2.1 27 = .ok (.if_icmp .ge 16, 3) := by decide +kernel
def k_tell_30 : List fwO := [(.aload_n 0, 0, 0, .null), (.dup, 0, 0, .null), (.getfield 26, 3, 4, .retAddr 6), (.iconst 1, 0, 0, .int 1), (.iadd, 0, 0, .null), (.putfield 26, 3, 4, .retAddr 6)]
theorem k_tell_30_ok : fwChain m_tell.1.cls m_tell.2.1 30 k_tell_30 40 = true := by decide +kernel
theorem d_tell_40 : decode m_tell.2.1 40 = .ok (.goto 17, 3) := by decide +kernel
def k_tell_43 : List fwO := [(.aload_n 0, 0, 0, .null), (.aload_n 0, 0, 0, .null), (.getfield 22, 3, 3, .retAddr 5), (.iconst 1, 0, 0, .int 1), (.iadd, 0, 0, .null), (.sipush 8000, 0, 0, .int 8000), (.irem, 0, 0, .null), (.putfield 22, 3, 3, .retAddr 5)]
theorem k_tell_43_ok : fwChain m_tell.1.cls m_tell.2.1 43 k_tell_43 57 = true := by decide +kernel
theorem d_tell_57 : decode m_tell.2.1 57 = .ok (.return_, 1) := by decide +kernel
/-- MonitorBoard$Console.tellLine(Ljava/lang/String;)V -/
abbrev m_tellLine : fwM := (⟨"MonitorBoard$Console", "tellLine", "(Ljava/lang/String;)V"⟩, prog_4_method_4_code, 3, (none : Option FieldType))
theorem m_tellLine_in : Cond.code m_tellLine.1 m_tellLine.2.1 m_tellLine.2.2.1 m_tellLine.2.2.2 ∈ fwT := fwT_mem (List.mem_of_getElem? (i := 820) (by decide +kernel)) rfl
def k_tellLine_0 : List fwO := [(.aload_n 0, 0, 0, .null), (.bipush 13, 0, 0, .int 13)]
theorem k_tellLine_0_ok : fwChain m_tellLine.1.cls m_tellLine.2.1 0 k_tellLine_0 3 = true := by decide +kernel
theorem d_tellLine_3 : decode m_tellLine.2.1 3 = .ok (.invokevirtual 39, 3) := by decide +kernel
def k_tellLine_6 : List fwO := [(.aload_n 0, 0, 0, .null), (.bipush 10, 0, 0, .int 10)]
theorem k_tellLine_6_ok : fwChain m_tellLine.1.cls m_tellLine.2.1 6 k_tellLine_6 9 = true := by decide +kernel
theorem d_tellLine_9 : decode m_tellLine.2.1 9 = .ok (.invokevirtual 39, 3) := by decide +kernel
def k_tellLine_12 : List fwO := [(.iconst 0, 0, 0, .int 0), (.istore_n 2, 0, 0, .null)]
theorem k_tellLine_12_ok : fwChain m_tellLine.1.cls m_tellLine.2.1 12 k_tellLine_12 14 = true := by decide +kernel
def k_tellLine_14 : List fwO := [(.iload_n 2, 0, 0, .null), (.aload_n 1, 0, 0, .null)]
theorem k_tellLine_14_ok : fwChain m_tellLine.1.cls m_tellLine.2.1 14 k_tellLine_14 16 = true := by decide +kernel
theorem d_tellLine_16 : decode m_tellLine.2.1 16 = .ok (.invokevirtual 29, 3) := by decide +kernel
theorem d_tellLine_19 : decode m_tellLine.2.1 19 = .ok (.if_icmp .ge 18, 3) := by decide +kernel
def k_tellLine_22 : List fwO := [(.aload_n 0, 0, 0, .null), (.aload_n 1, 0, 0, .null), (.iload_n 2, 0, 0, .null)]
theorem k_tellLine_22_ok : fwChain m_tellLine.1.cls m_tellLine.2.1 22 k_tellLine_22 25 = true := by decide +kernel
theorem d_tellLine_25 : decode m_tellLine.2.1 25 = .ok (.invokevirtual 35, 3) := by decide +kernel
theorem d_tellLine_28 : decode m_tellLine.2.1 28 = .ok (.invokevirtual 39, 3) := by decide +kernel
def k_tellLine_31 : List fwO := [(.iinc 2 1, 0, 0, .int 1)]
theorem k_tellLine_31_ok : fwChain m_tellLine.1.cls m_tellLine.2.1 31 k_tellLine_31 34 = true := by decide +kernel
theorem d_tellLine_34 : decode m_tellLine.2.1 34 = .ok (.goto (-20), 3) := by decide +kernel
theorem d_tellLine_37 : decode m_tellLine.2.1 37 = .ok (.return_, 1) := by decide +kernel
/-- MonitorBoard$Console.openLine(I)V -/
abbrev m_openLine : fwM := (⟨"MonitorBoard$Console", "openLine", "(I)V"⟩, prog_4_method_11_code, 2, (none : Option FieldType))
theorem m_openLine_in : Cond.code m_openLine.1 m_openLine.2.1 m_openLine.2.2.1 m_openLine.2.2.2 ∈ fwT := fwT_mem (List.mem_of_getElem? (i := 871) (by decide +kernel)) rfl
def k_openLine_0 : List fwO := [(.aload_n 0, 0, 0, .null), (.iload_n 1, 0, 0, .null), (.aload_n 0, 0, 0, .null), (.getfield 18, 3, 2, .retAddr 2), (.arraylength, 0, 0, .null)]
theorem k_openLine_0_ok : fwChain m_openLine.1.cls m_openLine.2.1 0 k_openLine_0 7 = true := by decide +kernel
theorem d_openLine_7 : decode m_openLine.2.1 7 = .ok (.invokestatic 45, 3) := by decide +kernel
def k_openLine_10 : List fwO := [(.putfield 57, 3, 8, .retAddr 14), (.aload_n 0, 0, 0, .null), (.iconst 0, 0, 0, .int 0), (.putfield 60, 3, 7, .retAddr 12), (.aload_n 0, 0, 0, .null), (.iconst 1, 0, 0, .int 1), (.putfield 63, 3, 9, .retAddr 15)]
theorem k_openLine_10_ok : fwChain m_openLine.1.cls m_openLine.2.1 10 k_openLine_10 23 = true := by decide +kernel
theorem d_openLine_23 : decode m_openLine.2.1 23 = .ok (.return_, 1) := by decide +kernel
/-- MonitorBoard$Processor.poke(II)V -/
abbrev m_poke : fwM := (⟨"MonitorBoard$Processor", "poke", "(II)V"⟩, prog_9_method_4_code, 3, (none : Option FieldType))
theorem m_poke_in : Cond.code m_poke.1 m_poke.2.1 m_poke.2.2.1 m_poke.2.2.2 ∈ fwT := fwT_mem (List.mem_of_getElem? (i := 834) (by decide +kernel)) rfl
def k_poke_0 : List fwO := [(.aload_n 0, 0, 0, .null), (.getfield 10, 8, 0, .retAddr 18), (.iload_n 1, 0, 0, .null), (.ldc 37, 5, 0, .int 65535), (.iand, 0, 0, .null), (.iload_n 2, 0, 0, .null), (.i2b, 0, 0, .null), (.bastore, 0, 0, .null)]
theorem k_poke_0_ok : fwChain m_poke.1.cls m_poke.2.1 0 k_poke_0 11 = true := by decide +kernel
theorem d_poke_11 : decode m_poke.2.1 11 = .ok (.return_, 1) := by decide +kernel
/-- MonitorBoard$Processor.pokeWord(II)V -/
abbrev m_pokeWord : fwM := (⟨"MonitorBoard$Processor", "pokeWord", "(II)V"⟩, prog_9_method_6_code, 3, (none : Option FieldType))
theorem m_pokeWord_in : Cond.code m_pokeWord.1 m_pokeWord.2.1 m_pokeWord.2.2.1 m_pokeWord.2.2.2 ∈ fwT := fwT_mem (List.mem_of_getElem? (i := 840) (by decide +kernel)) rfl
def k_pokeWord_0 : List fwO := [(.aload_n 0, 0, 0, .null), (.getfield 10, 8, 0, .retAddr 18), (.iload_n 1, 0, 0, .null), (.ldc 37, 5, 0, .int 65535), (.iand, 0, 0, .null), (.iload_n 2, 0, 0, .null), (.i2b, 0, 0, .null), (.bastore, 0, 0, .null), (.aload_n 0, 0, 0, .null), (.getfield 10, 8, 0, .retAddr 18), (.iload_n 1, 0, 0, .null), (.iconst 1, 0, 0, .int 1), (.iadd, 0, 0, .null), (.ldc 37, 5, 0, .int 65535), (.iand, 0, 0, .null), (.iload_n 2, 0, 0, .null), (.bipush 8, 0, 0, .int 8), (.ishr, 0, 0, .null), (.i2b, 0, 0, .null), (.bastore, 0, 0, .null)]
theorem k_pokeWord_0_ok : fwChain m_pokeWord.1.cls m_pokeWord.2.1 0 k_pokeWord_0 27 = true := by decide +kernel
theorem d_pokeWord_27 : decode m_pokeWord.2.1 27 = .ok (.return_, 1) := by decide +kernel
/-- MonitorBoard$Processor.clearRegisters()V -/
abbrev m_clearRegs : fwM := (⟨"MonitorBoard$Processor", "clearRegisters", "()V"⟩, prog_9_method_2_code, 1, (none : Option FieldType))
theorem m_clearRegs_in : Cond.code m_clearRegs.1 m_clearRegs.2.1 m_clearRegs.2.2.1 m_clearRegs.2.2.2 ∈ fwT := fwT_mem (List.mem_of_getElem? (i := 812) (by decide +kernel)) rfl
def k_clearRegs_0 : List fwO := [(.aload_n 0, 0, 0, .null), (.getfield 16, 8, 1, .retAddr 22), (.iconst 0, 0, 0, .int 0)]
theorem k_clearRegs_0_ok : fwChain m_clearRegs.1.cls m_clearRegs.2.1 0 k_clearRegs_0 5 = true := by decide +kernel
theorem d_clearRegs_5 : decode m_clearRegs.2.1 5 = .ok (.invokestatic 28, 3) := by decide +kernel
def k_clearRegs_8 : List fwO := [(.aload_n 0, 0, 0, .null), (.iconst 2, 0, 0, .int 2), (.putfield 20, 8, 3, .retAddr 26), (.aload_n 0, 0, 0, .null), (.iconst 0, 0, 0, .int 0), (.putfield 34, 8, 4, .retAddr 28)]
theorem k_clearRegs_8_ok : fwChain m_clearRegs.1.cls m_clearRegs.2.1 8 k_clearRegs_8 18 = true := by decide +kernel
theorem d_clearRegs_18 : decode m_clearRegs.2.1 18 = .ok (.return_, 1) := by decide +kernel
/-- MonitorBoard$Files.forgetDrives()V -/
abbrev m_forget : fwM := (⟨"MonitorBoard$Files", "forgetDrives", "()V"⟩, prog_5_method_6_code, 1, (none : Option FieldType))
theorem m_forget_in : Cond.code m_forget.1 m_forget.2.1 m_forget.2.2.1 m_forget.2.2.2 ∈ fwT := fwT_mem (List.mem_of_getElem? (i := 845) (by decide +kernel)) rfl
def k_forget_0 : List fwO := [(.aload_n 0, 0, 0, .null), (.iconst 0, 0, 0, .int 0), (.putfield 45, 4, 8, .retAddr 58), (.aload_n 0, 0, 0, .null), (.iconst 0, 0, 0, .int 0), (.putfield 49, 4, 7, .retAddr 57)]
theorem k_forget_0_ok : fwChain m_forget.1.cls m_forget.2.1 0 k_forget_0 10 = true := by decide +kernel
theorem d_forget_10 : decode m_forget.2.1 10 = .ok (.return_, 1) := by decide +kernel
/-- MonitorBoard$Files.entryPlace(II)I -/
abbrev m_entryPlace : fwM := (⟨"MonitorBoard$Files", "entryPlace", "(II)I"⟩, prog_5_method_5_code, 3, (some FieldType.int))
theorem m_entryPlace_in : Cond.code m_entryPlace.1 m_entryPlace.2.1 m_entryPlace.2.2.1 m_entryPlace.2.2.2 ∈ fwT := fwT_mem (List.mem_of_getElem? (i := 853) (by decide +kernel)) rfl
def k_entryPlace_0 : List fwO := [(.iload_n 1, 0, 0, .null), (.ldc 44, 3, 0, .int 256256), (.imul, 0, 0, .null), (.aload_n 0, 0, 0, .null), (.getfield 16, 4, 1, .retAddr 47), (.iload_n 2, 0, 0, .null), (.iconst 2, 0, 0, .int 2), (.ishr, 0, 0, .null), (.iaload, 0, 0, .null), (.iadd, 0, 0, .null), (.iload_n 2, 0, 0, .null), (.iconst 3, 0, 0, .int 3), (.iand, 0, 0, .null), (.bipush 32, 0, 0, .int 32), (.imul, 0, 0, .null), (.iadd, 0, 0, .null)]
theorem k_entryPlace_0_ok : fwChain m_entryPlace.1.cls m_entryPlace.2.1 0 k_entryPlace_0 20 = true := by decide +kernel
theorem d_entryPlace_20 : decode m_entryPlace.2.1 20 = .ok (.ireturn, 1) := by decide +kernel
/-- MonitorBoard$Files.login(I)V -/
abbrev m_login : fwM := (⟨"MonitorBoard$Files", "login", "(I)V"⟩, prog_5_method_7_code, 4, (none : Option FieldType))
theorem m_login_in : Cond.code m_login.1 m_login.2.1 m_login.2.2.1 m_login.2.2.2 ∈ fwT := fwT_mem (List.mem_of_getElem? (i := 849) (by decide +kernel)) rfl
def k_login_0 : List fwO := [(.aload_n 0, 0, 0, .null), (.getfield 45, 4, 8, .retAddr 58), (.iload_n 1, 0, 0, .null), (.ishr, 0, 0, .null), (.iconst 1, 0, 0, .int 1), (.iand, 0, 0, .null)]
theorem k_login_0_ok : fwChain m_login.1.cls m_login.2.1 0 k_login_0 8 = true := by decide +kernel
theorem d_login_8 : decode m_login.2.1 8 = .ok (.ifCond .eq 4, 3) := by decide +kernel
theorem d_login_11 : decode m_login.2.1 11 = .ok (.return_, 1) := by decide +kernel
def k_login_12 : List fwO := [(.aload_n 0, 0, 0, .null), (.dup, 0, 0, .null), (.getfield 45, 4, 8, .retAddr 58), (.iconst 1, 0, 0, .int 1), (.iload_n 1, 0, 0, .null), (.ishl, 0, 0, .null), (.ior, 0, 0, .null), (.putfield 45, 4, 8, .retAddr 58), (.iconst 0, 0, 0, .int 0), (.istore_n 2, 0, 0, .null)]
theorem k_login_12_ok : fwChain m_login.1.cls m_login.2.1 12 k_login_12 26 = true := by decide +kernel
def k_login_26 : List fwO := [(.iload_n 2, 0, 0, .null), (.sipush 243, 0, 0, .int 243)]
theorem k_login_26_ok : fwChain m_login.1.cls m_login.2.1 26 k_login_26 30 = true := by decide +kernel
theorem d_login_30 : decode m_login.2.1 30 = .ok (.if_icmp .ge 31, 3) := by decide +kernel
def k_login_33 : List fwO := [(.aload_n 0, 0, 0, .null), (.getfield 20, 4, 2, .retAddr 49), (.iload_n 1, 0, 0, .null), (.sipush 243, 0, 0, .int 243), (.imul, 0, 0, .null), (.iload_n 2, 0, 0, .null), (.iadd, 0, 0, .null), (.iload_n 2, 0, 0, .null), (.iconst 2, 0, 0, .int 2)]
theorem k_login_33_ok : fwChain m_login.1.cls m_login.2.1 33 k_login_33 46 = true := by decide +kernel
theorem d_login_46 : decode m_login.2.1 46 = .ok (.if_icmp .ge 7, 3) := by decide +kernel
def k_login_49 : List fwO := [(.iconst 1, 0, 0, .int 1)]
theorem k_login_49_ok : fwChain m_login.1.cls m_login.2.1 49 k_login_49 50 = true := by decide +kernel
theorem d_login_50 : decode m_login.2.1 50 = .ok (.goto 4, 3) := by decide +kernel
def k_login_53 : List fwO := [(.iconst 0, 0, 0, .int 0)]
theorem k_login_53_ok : fwChain m_login.1.cls m_login.2.1 53 k_login_53 54 = true := by decide +kernel
def k_login_54 : List fwO := [(.bastore, 0, 0, .null), (.iinc 2 1, 0, 0, .int 1)]
theorem k_login_54_ok : fwChain m_login.1.cls m_login.2.1 54 k_login_54 58 = true := by decide +kernel
theorem d_login_58 : decode m_login.2.1 58 = .ok (.goto (-32), 3) := by decide +kernel
def k_login_61 : List fwO := [(.iconst 0, 0, 0, .int 0), (.istore_n 2, 0, 0, .null)]
theorem k_login_61_ok : fwChain m_login.1.cls m_login.2.1 61 k_login_61 63 = true := by decide +kernel
def k_login_63 : List fwO := [(.iload_n 2, 0, 0, .null), (.bipush 64, 0, 0, .int 64)]
theorem k_login_63_ok : fwChain m_login.1.cls m_login.2.1 63 k_login_63 66 = true := by decide +kernel
theorem d_login_66 : decode m_login.2.1 66 = .ok (.if_icmp .ge 39, 3) := by decide +kernel
def k_login_69 : List fwO := [(.aload_n 0, 0, 0, .null), (.iload_n 1, 0, 0, .null), (.iload_n 2, 0, 0, .null)]
theorem k_login_69_ok : fwChain m_login.1.cls m_login.2.1 69 k_login_69 72 = true := by decide +kernel
theorem d_login_72 : decode m_login.2.1 72 = .ok (.invokevirtual 53, 3) := by decide +kernel
def k_login_75 : List fwO := [(.istore_n 3, 0, 0, .null), (.aload_n 0, 0, 0, .null), (.getfield 10, 4, 0, .retAddr 42), (.iload_n 3, 0, 0, .null), (.baload, 0, 0, .null), (.sipush 255, 0, 0, .int 255), (.iand, 0, 0, .null), (.sipush 229, 0, 0, .int 229)]
theorem k_login_75_ok : fwChain m_login.1.cls m_login.2.1 75 k_login_75 89 = true := by decide +kernel
theorem d_login_89 : decode m_login.2.1 89 = .ok (.if_icmp .eq 10, 3) := by decide +kernel
def k_login_92 : List fwO := [(.aload_n 0, 0, 0, .null), (.iload_n 1, 0, 0, .null), (.iload_n 3, 0, 0, .null), (.iconst 1, 0, 0, .int 1)]
theorem k_login_92_ok : fwChain m_login.1.cls m_login.2.1 92 k_login_92 96 = true := by decide +kernel
theorem d_login_96 : decode m_login.2.1 96 = .ok (.invokevirtual 57, 3) := by decide +kernel
def k_login_99 : List fwO := [(.iinc 2 1, 0, 0, .int 1)]
theorem k_login_99_ok : fwChain m_login.1.cls m_login.2.1 99 k_login_99 102 = true := by decide +kernel
theorem d_login_102 : decode m_login.2.1 102 = .ok (.goto (-39), 3) := by decide +kernel
theorem d_login_105 : decode m_login.2.1 105 = .ok (.return_, 1) := by decide +kernel
/-- MonitorBoard$Monitor.goToCommand()V -/
abbrev m_goCmd : fwM := (⟨"MonitorBoard$Monitor", "goToCommand", "()V"⟩, prog_8_method_5_code, 1, (none : Option FieldType))
theorem m_goCmd_in : Cond.code m_goCmd.1 m_goCmd.2.1 m_goCmd.2.2.1 m_goCmd.2.2.2 ∈ fwT := fwT_mem (List.mem_of_getElem? (i := 861) (by decide +kernel)) rfl
def k_goCmd_0 : List fwO := [(.aload_n 0, 0, 0, .null), (.getfield 11, 7, 0, .retAddr 74), (.ldc 84, 6, 0, .int 60419), (.putfield 101, 8, 5, .retAddr 31), (.aload_n 0, 0, 0, .null), (.iconst 1, 0, 0, .int 1), (.putfield 104, 7, 7, .retAddr 86), (.aload_n 0, 0, 0, .null), (.getfield 15, 7, 1, .retAddr 76), (.ldc 107, 3, 0, .retAddr 3)]
theorem k_goCmd_0_ok : fwChain m_goCmd.1.cls m_goCmd.2.1 0 k_goCmd_0 20 = true := by decide +kernel
theorem d_goCmd_20 : decode m_goCmd.2.1 20 = .ok (.invokevirtual 73, 3) := by decide +kernel
def k_goCmd_23 : List fwO := [(.aload_n 0, 0, 0, .null), (.getfield 15, 7, 1, .retAddr 76), (.bipush 65, 0, 0, .int 65), (.aload_n 0, 0, 0, .null), (.getfield 19, 7, 2, .retAddr 78), (.getfield 51, 4, 10, .retAddr 62), (.iadd, 0, 0, .null)]
theorem k_goCmd_23_ok : fwChain m_goCmd.1.cls m_goCmd.2.1 23 k_goCmd_23 37 = true := by decide +kernel
theorem d_goCmd_37 : decode m_goCmd.2.1 37 = .ok (.invokevirtual 109, 3) := by decide +kernel
def k_goCmd_40 : List fwO := [(.aload_n 0, 0, 0, .null), (.getfield 19, 7, 2, .retAddr 78), (.getfield 54, 4, 11, .retAddr 66)]
theorem k_goCmd_40_ok : fwChain m_goCmd.1.cls m_goCmd.2.1 40 k_goCmd_40 47 = true := by decide +kernel
theorem d_goCmd_47 : decode m_goCmd.2.1 47 = .ok (.ifCond .eq 17, 3) := by decide +kernel
def k_goCmd_50 : List fwO := [(.aload_n 0, 0, 0, .null), (.getfield 15, 7, 1, .retAddr 76), (.aload_n 0, 0, 0, .null), (.getfield 19, 7, 2, .retAddr 78), (.getfield 54, 4, 11, .retAddr 66)]
theorem k_goCmd_50_ok : fwChain m_goCmd.1.cls m_goCmd.2.1 50 k_goCmd_50 61 = true := by decide +kernel
theorem d_goCmd_61 : decode m_goCmd.2.1 61 = .ok (.invokevirtual 112, 3) := by decide +kernel
def k_goCmd_64 : List fwO := [(.aload_n 0, 0, 0, .null), (.getfield 15, 7, 1, .retAddr 76), (.bipush 62, 0, 0, .int 62)]
theorem k_goCmd_64_ok : fwChain m_goCmd.1.cls m_goCmd.2.1 64 k_goCmd_64 70 = true := by decide +kernel
theorem d_goCmd_70 : decode m_goCmd.2.1 70 = .ok (.invokevirtual 109, 3) := by decide +kernel
def k_goCmd_73 : List fwO := [(.aload_n 0, 0, 0, .null), (.getfield 15, 7, 1, .retAddr 76), (.bipush 127, 0, 0, .int 127)]
theorem k_goCmd_73_ok : fwChain m_goCmd.1.cls m_goCmd.2.1 73 k_goCmd_73 79 = true := by decide +kernel
theorem d_goCmd_79 : decode m_goCmd.2.1 79 = .ok (.invokevirtual 115, 3) := by decide +kernel
theorem d_goCmd_82 : decode m_goCmd.2.1 82 = .ok (.return_, 1) := by decide +kernel
/-- MonitorBoard$Monitor.bootWarm()V -/
abbrev m_warm : fwM := (⟨"MonitorBoard$Monitor", "bootWarm", "()V"⟩, prog_8_method_4_code, 1, (none : Option FieldType))
theorem m_warm_in : Cond.code m_warm.1 m_warm.2.1 m_warm.2.2.1 m_warm.2.2.2 ∈ fwT := fwT_mem (List.mem_of_getElem? (i := 830) (by decide +kernel)) rfl
def k_warm_0 : List fwO := [(.aload_n 0, 0, 0, .null), (.getfield 11, 7, 0, .retAddr 74), (.iconst 0, 0, 0, .int 0), (.sipush 195, 0, 0, .int 195)]
theorem k_warm_0_ok : fwChain m_warm.1.cls m_warm.2.1 0 k_warm_0 8 = true := by decide +kernel
theorem d_warm_8 : decode m_warm.2.1 8 = .ok (.invokevirtual 80, 3) := by decide +kernel
def k_warm_11 : List fwO := [(.aload_n 0, 0, 0, .null), (.getfield 11, 7, 0, .retAddr 74), (.iconst 1, 0, 0, .int 1), (.ldc 84, 6, 0, .int 60419)]
theorem k_warm_11_ok : fwChain m_warm.1.cls m_warm.2.1 11 k_warm_11 18 = true := by decide +kernel
theorem d_warm_18 : decode m_warm.2.1 18 = .ok (.invokevirtual 85, 3) := by decide +kernel
def k_warm_21 : List fwO := [(.aload_n 0, 0, 0, .null), (.getfield 11, 7, 0, .retAddr 74), (.iconst 5, 0, 0, .int 5), (.sipush 195, 0, 0, .int 195)]
theorem k_warm_21_ok : fwChain m_warm.1.cls m_warm.2.1 21 k_warm_21 29 = true := by decide +kernel
theorem d_warm_29 : decode m_warm.2.1 29 = .ok (.invokevirtual 80, 3) := by decide +kernel
def k_warm_32 : List fwO := [(.aload_n 0, 0, 0, .null), (.getfield 11, 7, 0, .retAddr 74), (.bipush 6, 0, 0, .int 6), (.ldc 24, 7, 0, .int 60934)]
theorem k_warm_32_ok : fwChain m_warm.1.cls m_warm.2.1 32 k_warm_32 40 = true := by decide +kernel
theorem d_warm_40 : decode m_warm.2.1 40 = .ok (.invokevirtual 85, 3) := by decide +kernel
def k_warm_43 : List fwO := [(.aload_n 0, 0, 0, .null), (.getfield 19, 7, 2, .retAddr 78)]
theorem k_warm_43_ok : fwChain m_warm.1.cls m_warm.2.1 43 k_warm_43 47 = true := by decide +kernel
theorem d_warm_47 : decode m_warm.2.1 47 = .ok (.invokevirtual 88, 3) := by decide +kernel
def k_warm_50 : List fwO := [(.aload_n 0, 0, 0, .null), (.getfield 19, 7, 2, .retAddr 78), (.aload_n 0, 0, 0, .null), (.getfield 19, 7, 2, .retAddr 78), (.getfield 51, 4, 10, .retAddr 62)]
theorem k_warm_50_ok : fwChain m_warm.1.cls m_warm.2.1 50 k_warm_50 61 = true := by decide +kernel
theorem d_warm_61 : decode m_warm.2.1 61 = .ok (.invokevirtual 91, 3) := by decide +kernel
def k_warm_64 : List fwO := [(.aload_n 0, 0, 0, .null), (.sipush 128, 0, 0, .int 128), (.putfield 95, 7, 3, .retAddr 80), (.aload_n 0, 0, 0, .null)]
theorem k_warm_64_ok : fwChain m_warm.1.cls m_warm.2.1 64 k_warm_64 72 = true := by decide +kernel
theorem d_warm_72 : decode m_warm.2.1 72 = .ok (.invokevirtual 98, 3) := by decide +kernel
theorem d_warm_75 : decode m_warm.2.1 75 = .ok (.return_, 1) := by decide +kernel
/-- MonitorBoard$Monitor.bootCold()V -/
abbrev m_cold : fwM := (⟨"MonitorBoard$Monitor", "bootCold", "()V"⟩, prog_8_method_3_code, 1, (none : Option FieldType))
theorem m_cold_in : Cond.code m_cold.1 m_cold.2.1 m_cold.2.2.1 m_cold.2.2.2 ∈ fwT := fwT_mem (List.mem_of_getElem? (i := 807) (by decide +kernel)) rfl
def k_cold_0 : List fwO := [(.aload_n 0, 0, 0, .null), (.getfield 11, 7, 0, .retAddr 74), (.getfield 26, 8, 0, .retAddr 20), (.iconst 0, 0, 0, .int 0)]
theorem k_cold_0_ok : fwChain m_cold.1.cls m_cold.2.1 0 k_cold_0 8 = true := by decide +kernel
theorem d_cold_8 : decode m_cold.2.1 8 = .ok (.invokestatic 32, 3) := by decide +kernel
def k_cold_11 : List fwO := [(.aload_n 0, 0, 0, .null), (.getfield 11, 7, 0, .retAddr 74)]
theorem k_cold_11_ok : fwChain m_cold.1.cls m_cold.2.1 11 k_cold_11 15 = true := by decide +kernel
theorem d_cold_15 : decode m_cold.2.1 15 = .ok (.invokevirtual 38, 3) := by decide +kernel
def k_cold_18 : List fwO := [(.aload_n 0, 0, 0, .null), (.getfield 11, 7, 0, .retAddr 74), (.iconst 0, 0, 0, .int 0), (.putfield 41, 8, 7, .retAddr 39), (.aload_n 0, 0, 0, .null), (.getfield 19, 7, 2, .retAddr 78), (.iconst 0, 0, 0, .int 0), (.putfield 45, 4, 9, .retAddr 60), (.aload_n 0, 0, 0, .null), (.getfield 19, 7, 2, .retAddr 78), (.iconst 0, 0, 0, .int 0), (.putfield 51, 4, 10, .retAddr 62), (.aload_n 0, 0, 0, .null), (.getfield 19, 7, 2, .retAddr 78), (.iconst 0, 0, 0, .int 0), (.putfield 54, 4, 11, .retAddr 66), (.aload_n 0, 0, 0, .null), (.iconst 0, 0, 0, .int 0), (.putfield 57, 7, 4, .retAddr 83), (.aload_n 0, 0, 0, .null), (.iconst 0, 0, 0, .int 0), (.putfield 60, 7, 5, .retAddr 84), (.aload_n 0, 0, 0, .null), (.iconst 1, 0, 0, .int 1), (.putfield 63, 7, 6, .retAddr 85), (.aload_n 0, 0, 0, .null), (.getfield 15, 7, 1, .retAddr 76), (.iconst 0, 0, 0, .int 0), (.putfield 66, 3, 6, .retAddr 8), (.aload_n 0, 0, 0, .null), (.getfield 15, 7, 1, .retAddr 76), (.ldc 71, 2, 0, .retAddr 2)]
theorem k_cold_18_ok : fwChain m_cold.1.cls m_cold.2.1 18 k_cold_18 79 = true := by decide +kernel
theorem d_cold_79 : decode m_cold.2.1 79 = .ok (.invokevirtual 73, 3) := by decide +kernel
def k_cold_82 : List fwO := [(.aload_n 0, 0, 0, .null)]
theorem k_cold_82_ok : fwChain m_cold.1.cls m_cold.2.1 82 k_cold_82 83 = true := by decide +kernel
theorem d_cold_83 : decode m_cold.2.1 83 = .ok (.invokevirtual 77, 3) := by decide +kernel
theorem d_cold_86 : decode m_cold.2.1 86 = .ok (.return_, 1) := by decide +kernel
theorem c_tellLine_3 : ∀ w ∈ ([(Cond.methodLink "MonitorBoard$Console" (39 : Nat) ({ cls := "MonitorBoard$Console", name := "tell", desc := "(I)V" } : MethodName)), (Cond.instanceMethod ({ cls := "MonitorBoard$Console", name := "tell", desc := "(I)V" } : MethodName)), (Cond.selects "MonitorBoard$Console" ({ cls := "MonitorBoard$Console", name := "tell", desc := "(I)V" } : MethodName) ({ cls := "MonitorBoard$Console", name := "tell", desc := "(I)V" } : MethodName)), (Cond.initialized "MonitorBoard$Console")] : List Cond), w ∈ fwT := fwT_all [821, 822, 823, 283] (by decide +kernel) (by decide +kernel)
theorem c_tellLine_9 : ∀ w ∈ ([(Cond.methodLink "MonitorBoard$Console" (39 : Nat) ({ cls := "MonitorBoard$Console", name := "tell", desc := "(I)V" } : MethodName)), (Cond.instanceMethod ({ cls := "MonitorBoard$Console", name := "tell", desc := "(I)V" } : MethodName)), (Cond.selects "MonitorBoard$Console" ({ cls := "MonitorBoard$Console", name := "tell", desc := "(I)V" } : MethodName) ({ cls := "MonitorBoard$Console", name := "tell", desc := "(I)V" } : MethodName)), (Cond.initialized "MonitorBoard$Console")] : List Cond), w ∈ fwT := c_tellLine_3
theorem c_tellLine_16 : ∀ w ∈ ([(Cond.methodLink "MonitorBoard$Console" (29 : Nat) ({ cls := "java/lang/String", name := "length", desc := "()I" } : MethodName)), (Cond.instanceMethod ({ cls := "java/lang/String", name := "length", desc := "()I" } : MethodName)), (Cond.selects "java/lang/String" ({ cls := "java/lang/String", name := "length", desc := "()I" } : MethodName) ({ cls := "java/lang/String", name := "length", desc := "()I" } : MethodName)), (Cond.initialized "java/lang/String")] : List Cond), w ∈ fwT := fwT_all [825, 571, 572, 290] (by decide +kernel) (by decide +kernel)
theorem c_tellLine_25 : ∀ w ∈ ([(Cond.methodLink "MonitorBoard$Console" (35 : Nat) ({ cls := "java/lang/String", name := "charAt", desc := "(I)C" } : MethodName)), (Cond.instanceMethod ({ cls := "java/lang/String", name := "charAt", desc := "(I)C" } : MethodName)), (Cond.selects "java/lang/String" ({ cls := "java/lang/String", name := "charAt", desc := "(I)C" } : MethodName) ({ cls := "java/lang/String", name := "charAt", desc := "(I)C" } : MethodName)), (Cond.initialized "java/lang/String")] : List Cond), w ∈ fwT := fwT_all [826, 581, 582, 290] (by decide +kernel) (by decide +kernel)
theorem c_tellLine_28 : ∀ w ∈ ([(Cond.methodLink "MonitorBoard$Console" (39 : Nat) ({ cls := "MonitorBoard$Console", name := "tell", desc := "(I)V" } : MethodName)), (Cond.instanceMethod ({ cls := "MonitorBoard$Console", name := "tell", desc := "(I)V" } : MethodName)), (Cond.selects "MonitorBoard$Console" ({ cls := "MonitorBoard$Console", name := "tell", desc := "(I)V" } : MethodName) ({ cls := "MonitorBoard$Console", name := "tell", desc := "(I)V" } : MethodName)), (Cond.initialized "MonitorBoard$Console")] : List Cond), w ∈ fwT := c_tellLine_3
theorem c_openLine_7 : ∀ w ∈ ([(Cond.methodLink "MonitorBoard$Console" (45 : Nat) ({ cls := "java/lang/Math", name := "min", desc := "(II)I" } : MethodName)), (Cond.static ({ cls := "java/lang/Math", name := "min", desc := "(II)I" } : MethodName)), (Cond.initialized "java/lang/Math")] : List Cond), w ∈ fwT := fwT_all [872, 873, 297] (by decide +kernel) (by decide +kernel)
theorem c_clearRegs_5 : ∀ w ∈ ([(Cond.methodLink "MonitorBoard$Processor" (28 : Nat) ({ cls := "java/util/Arrays", name := "fill", desc := "([II)V" } : MethodName)), (Cond.static ({ cls := "java/util/Arrays", name := "fill", desc := "([II)V" } : MethodName)), (Cond.initialized "java/util/Arrays")] : List Cond), w ∈ fwT := fwT_all [813, 814, 286] (by decide +kernel) (by decide +kernel)
theorem c_login_72 : ∀ w ∈ ([(Cond.methodLink "MonitorBoard$Files" (53 : Nat) ({ cls := "MonitorBoard$Files", name := "entryPlace", desc := "(II)I" } : MethodName)), (Cond.instanceMethod ({ cls := "MonitorBoard$Files", name := "entryPlace", desc := "(II)I" } : MethodName)), (Cond.selects "MonitorBoard$Files" ({ cls := "MonitorBoard$Files", name := "entryPlace", desc := "(II)I" } : MethodName) ({ cls := "MonitorBoard$Files", name := "entryPlace", desc := "(II)I" } : MethodName)), (Cond.initialized "MonitorBoard$Files")] : List Cond), w ∈ fwT := fwT_all [850, 851, 852, 285] (by decide +kernel) (by decide +kernel)
theorem c_login_96 : ∀ w ∈ ([(Cond.methodLink "MonitorBoard$Files" (57 : Nat) ({ cls := "MonitorBoard$Files", name := "setUse", desc := "(IIZ)V" } : MethodName)), (Cond.instanceMethod ({ cls := "MonitorBoard$Files", name := "setUse", desc := "(IIZ)V" } : MethodName)), (Cond.selects "MonitorBoard$Files" ({ cls := "MonitorBoard$Files", name := "setUse", desc := "(IIZ)V" } : MethodName) ({ cls := "MonitorBoard$Files", name := "setUse", desc := "(IIZ)V" } : MethodName)), (Cond.initialized "MonitorBoard$Files")] : List Cond), w ∈ fwT := fwT_all [854, 856, 0, 285] (by decide +kernel) (by decide +kernel)
theorem c_goCmd_20 : ∀ w ∈ ([(Cond.methodLink "MonitorBoard$Monitor" (73 : Nat) ({ cls := "MonitorBoard$Console", name := "tellLine", desc := "(Ljava/lang/String;)V" } : MethodName)), (Cond.instanceMethod ({ cls := "MonitorBoard$Console", name := "tellLine", desc := "(Ljava/lang/String;)V" } : MethodName)), (Cond.selects "MonitorBoard$Console" ({ cls := "MonitorBoard$Console", name := "tellLine", desc := "(Ljava/lang/String;)V" } : MethodName) ({ cls := "MonitorBoard$Console", name := "tellLine", desc := "(Ljava/lang/String;)V" } : MethodName)), (Cond.initialized "MonitorBoard$Console")] : List Cond), w ∈ fwT := fwT_all [817, 818, 819, 283] (by decide +kernel) (by decide +kernel)
theorem c_goCmd_37 : ∀ w ∈ ([(Cond.methodLink "MonitorBoard$Monitor" (109 : Nat) ({ cls := "MonitorBoard$Console", name := "tell", desc := "(I)V" } : MethodName)), (Cond.instanceMethod ({ cls := "MonitorBoard$Console", name := "tell", desc := "(I)V" } : MethodName)), (Cond.selects "MonitorBoard$Console" ({ cls := "MonitorBoard$Console", name := "tell", desc := "(I)V" } : MethodName) ({ cls := "MonitorBoard$Console", name := "tell", desc := "(I)V" } : MethodName)), (Cond.initialized "MonitorBoard$Console")] : List Cond), w ∈ fwT := fwT_all [863, 822, 823, 283] (by decide +kernel) (by decide +kernel)
theorem c_goCmd_61 : ∀ w ∈ ([(Cond.methodLink "MonitorBoard$Monitor" (112 : Nat) ({ cls := "MonitorBoard$Console", name := "tellNumber", desc := "(I)V" } : MethodName)), (Cond.instanceMethod ({ cls := "MonitorBoard$Console", name := "tellNumber", desc := "(I)V" } : MethodName)), (Cond.selects "MonitorBoard$Console" ({ cls := "MonitorBoard$Console", name := "tellNumber", desc := "(I)V" } : MethodName) ({ cls := "MonitorBoard$Console", name := "tellNumber", desc := "(I)V" } : MethodName)), (Cond.initialized "MonitorBoard$Console")] : List Cond), w ∈ fwT := fwT_all [864, 865, 866, 283] (by decide +kernel) (by decide +kernel)
theorem c_goCmd_70 : ∀ w ∈ ([(Cond.methodLink "MonitorBoard$Monitor" (109 : Nat) ({ cls := "MonitorBoard$Console", name := "tell", desc := "(I)V" } : MethodName)), (Cond.instanceMethod ({ cls := "MonitorBoard$Console", name := "tell", desc := "(I)V" } : MethodName)), (Cond.selects "MonitorBoard$Console" ({ cls := "MonitorBoard$Console", name := "tell", desc := "(I)V" } : MethodName) ({ cls := "MonitorBoard$Console", name := "tell", desc := "(I)V" } : MethodName)), (Cond.initialized "MonitorBoard$Console")] : List Cond), w ∈ fwT := c_goCmd_37
theorem c_goCmd_79 : ∀ w ∈ ([(Cond.methodLink "MonitorBoard$Monitor" (115 : Nat) ({ cls := "MonitorBoard$Console", name := "openLine", desc := "(I)V" } : MethodName)), (Cond.instanceMethod ({ cls := "MonitorBoard$Console", name := "openLine", desc := "(I)V" } : MethodName)), (Cond.selects "MonitorBoard$Console" ({ cls := "MonitorBoard$Console", name := "openLine", desc := "(I)V" } : MethodName) ({ cls := "MonitorBoard$Console", name := "openLine", desc := "(I)V" } : MethodName)), (Cond.initialized "MonitorBoard$Console")] : List Cond), w ∈ fwT := fwT_all [868, 869, 870, 283] (by decide +kernel) (by decide +kernel)
theorem c_warm_8 : ∀ w ∈ ([(Cond.methodLink "MonitorBoard$Monitor" (80 : Nat) ({ cls := "MonitorBoard$Processor", name := "poke", desc := "(II)V" } : MethodName)), (Cond.instanceMethod ({ cls := "MonitorBoard$Processor", name := "poke", desc := "(II)V" } : MethodName)), (Cond.selects "MonitorBoard$Processor" ({ cls := "MonitorBoard$Processor", name := "poke", desc := "(II)V" } : MethodName) ({ cls := "MonitorBoard$Processor", name := "poke", desc := "(II)V" } : MethodName)), (Cond.initialized "MonitorBoard$Processor")] : List Cond), w ∈ fwT := fwT_all [831, 832, 833, 284] (by decide +kernel) (by decide +kernel)
theorem c_warm_18 : ∀ w ∈ ([(Cond.methodLink "MonitorBoard$Monitor" (85 : Nat) ({ cls := "MonitorBoard$Processor", name := "pokeWord", desc := "(II)V" } : MethodName)), (Cond.instanceMethod ({ cls := "MonitorBoard$Processor", name := "pokeWord", desc := "(II)V" } : MethodName)), (Cond.selects "MonitorBoard$Processor" ({ cls := "MonitorBoard$Processor", name := "pokeWord", desc := "(II)V" } : MethodName) ({ cls := "MonitorBoard$Processor", name := "pokeWord", desc := "(II)V" } : MethodName)), (Cond.initialized "MonitorBoard$Processor")] : List Cond), w ∈ fwT := fwT_all [837, 838, 839, 284] (by decide +kernel) (by decide +kernel)
theorem c_warm_29 : ∀ w ∈ ([(Cond.methodLink "MonitorBoard$Monitor" (80 : Nat) ({ cls := "MonitorBoard$Processor", name := "poke", desc := "(II)V" } : MethodName)), (Cond.instanceMethod ({ cls := "MonitorBoard$Processor", name := "poke", desc := "(II)V" } : MethodName)), (Cond.selects "MonitorBoard$Processor" ({ cls := "MonitorBoard$Processor", name := "poke", desc := "(II)V" } : MethodName) ({ cls := "MonitorBoard$Processor", name := "poke", desc := "(II)V" } : MethodName)), (Cond.initialized "MonitorBoard$Processor")] : List Cond), w ∈ fwT := c_warm_8
theorem c_warm_40 : ∀ w ∈ ([(Cond.methodLink "MonitorBoard$Monitor" (85 : Nat) ({ cls := "MonitorBoard$Processor", name := "pokeWord", desc := "(II)V" } : MethodName)), (Cond.instanceMethod ({ cls := "MonitorBoard$Processor", name := "pokeWord", desc := "(II)V" } : MethodName)), (Cond.selects "MonitorBoard$Processor" ({ cls := "MonitorBoard$Processor", name := "pokeWord", desc := "(II)V" } : MethodName) ({ cls := "MonitorBoard$Processor", name := "pokeWord", desc := "(II)V" } : MethodName)), (Cond.initialized "MonitorBoard$Processor")] : List Cond), w ∈ fwT := c_warm_18
theorem c_warm_47 : ∀ w ∈ ([(Cond.methodLink "MonitorBoard$Monitor" (88 : Nat) ({ cls := "MonitorBoard$Files", name := "forgetDrives", desc := "()V" } : MethodName)), (Cond.instanceMethod ({ cls := "MonitorBoard$Files", name := "forgetDrives", desc := "()V" } : MethodName)), (Cond.selects "MonitorBoard$Files" ({ cls := "MonitorBoard$Files", name := "forgetDrives", desc := "()V" } : MethodName) ({ cls := "MonitorBoard$Files", name := "forgetDrives", desc := "()V" } : MethodName)), (Cond.initialized "MonitorBoard$Files")] : List Cond), w ∈ fwT := fwT_all [842, 843, 844, 285] (by decide +kernel) (by decide +kernel)
theorem c_warm_61 : ∀ w ∈ ([(Cond.methodLink "MonitorBoard$Monitor" (91 : Nat) ({ cls := "MonitorBoard$Files", name := "login", desc := "(I)V" } : MethodName)), (Cond.instanceMethod ({ cls := "MonitorBoard$Files", name := "login", desc := "(I)V" } : MethodName)), (Cond.selects "MonitorBoard$Files" ({ cls := "MonitorBoard$Files", name := "login", desc := "(I)V" } : MethodName) ({ cls := "MonitorBoard$Files", name := "login", desc := "(I)V" } : MethodName)), (Cond.initialized "MonitorBoard$Files")] : List Cond), w ∈ fwT := fwT_all [846, 847, 848, 285] (by decide +kernel) (by decide +kernel)
theorem c_warm_72 : ∀ w ∈ ([(Cond.methodLink "MonitorBoard$Monitor" (98 : Nat) ({ cls := "MonitorBoard$Monitor", name := "goToCommand", desc := "()V" } : MethodName)), (Cond.instanceMethod ({ cls := "MonitorBoard$Monitor", name := "goToCommand", desc := "()V" } : MethodName)), (Cond.selects "MonitorBoard$Monitor" ({ cls := "MonitorBoard$Monitor", name := "goToCommand", desc := "()V" } : MethodName) ({ cls := "MonitorBoard$Monitor", name := "goToCommand", desc := "()V" } : MethodName)), (Cond.initialized "MonitorBoard$Monitor")] : List Cond), w ∈ fwT := fwT_all [858, 859, 860, 287] (by decide +kernel) (by decide +kernel)
theorem c_cold_8 : ∀ w ∈ ([(Cond.methodLink "MonitorBoard$Monitor" (32 : Nat) ({ cls := "java/util/Arrays", name := "fill", desc := "([BB)V" } : MethodName)), (Cond.static ({ cls := "java/util/Arrays", name := "fill", desc := "([BB)V" } : MethodName)), (Cond.initialized "java/util/Arrays")] : List Cond), w ∈ fwT := fwT_all [808, 415, 286] (by decide +kernel) (by decide +kernel)
theorem c_cold_15 : ∀ w ∈ ([(Cond.methodLink "MonitorBoard$Monitor" (38 : Nat) ({ cls := "MonitorBoard$Processor", name := "clearRegisters", desc := "()V" } : MethodName)), (Cond.instanceMethod ({ cls := "MonitorBoard$Processor", name := "clearRegisters", desc := "()V" } : MethodName)), (Cond.selects "MonitorBoard$Processor" ({ cls := "MonitorBoard$Processor", name := "clearRegisters", desc := "()V" } : MethodName) ({ cls := "MonitorBoard$Processor", name := "clearRegisters", desc := "()V" } : MethodName)), (Cond.initialized "MonitorBoard$Processor")] : List Cond), w ∈ fwT := fwT_all [809, 810, 811, 284] (by decide +kernel) (by decide +kernel)
theorem c_cold_79 : ∀ w ∈ ([(Cond.methodLink "MonitorBoard$Monitor" (73 : Nat) ({ cls := "MonitorBoard$Console", name := "tellLine", desc := "(Ljava/lang/String;)V" } : MethodName)), (Cond.instanceMethod ({ cls := "MonitorBoard$Console", name := "tellLine", desc := "(Ljava/lang/String;)V" } : MethodName)), (Cond.selects "MonitorBoard$Console" ({ cls := "MonitorBoard$Console", name := "tellLine", desc := "(Ljava/lang/String;)V" } : MethodName) ({ cls := "MonitorBoard$Console", name := "tellLine", desc := "(Ljava/lang/String;)V" } : MethodName)), (Cond.initialized "MonitorBoard$Console")] : List Cond), w ∈ fwT := c_goCmd_20
theorem c_cold_83 : ∀ w ∈ ([(Cond.methodLink "MonitorBoard$Monitor" (77 : Nat) ({ cls := "MonitorBoard$Monitor", name := "bootWarm", desc := "()V" } : MethodName)), (Cond.instanceMethod ({ cls := "MonitorBoard$Monitor", name := "bootWarm", desc := "()V" } : MethodName)), (Cond.selects "MonitorBoard$Monitor" ({ cls := "MonitorBoard$Monitor", name := "bootWarm", desc := "()V" } : MethodName) ({ cls := "MonitorBoard$Monitor", name := "bootWarm", desc := "()V" } : MethodName)), (Cond.initialized "MonitorBoard$Monitor")] : List Cond), w ∈ fwT := fwT_all [827, 828, 829, 287] (by decide +kernel) (by decide +kernel)
