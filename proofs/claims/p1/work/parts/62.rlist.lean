/-! methods, their instructions, by program (wip/whole/methods.py) -/
/-- MonitorBoardModel.get(I)I -/
abbrev m_rGet : fwM := (⟨"MonitorBoardModel", "get", "(I)I"⟩, prog_13_method_13_code, 2, (some FieldType.int))
theorem m_rGet_in : Cond.code m_rGet.1 m_rGet.2.1 m_rGet.2.2.1 m_rGet.2.2.2 ∈ fwT := fwT_mem (List.mem_of_getElem? (i := 2372) (by decide +kernel)) rfl
def k_rGet_0 : List fwO := [(.iload_n 1, 0, 0, .null), (.ldc 135, 37, 0, .int 1048576)]
theorem k_rGet_0_ok : fwChain m_rGet.1.cls m_rGet.2.1 0 k_rGet_0 3 = true := by decide +kernel
theorem d_rGet_3 : decode m_rGet.2.1 3 = .ok (.if_icmp .lt 15, 3) := by decide +kernel
def k_rGet_6 : List fwO := [(.aload_n 0, 0, 0, .null), (.getfield 35, 1, 19, .retAddr 182), (.iload_n 1, 0, 0, .null), (.ldc 135, 37, 0, .int 1048576), (.isub, 0, 0, .null), (.baload, 0, 0, .null)]
theorem k_rGet_6_ok : fwChain m_rGet.1.cls m_rGet.2.1 6 k_rGet_6 15 = true := by decide +kernel
theorem d_rGet_15 : decode m_rGet.2.1 15 = .ok (.goto 12, 3) := by decide +kernel
def k_rGet_18 : List fwO := [(.aload_n 0, 0, 0, .null), (.getfield 10, 1, 0, .retAddr 163), (.iload_n 1, 0, 0, .null), (.ldc 111, 38, 0, .int 65535), (.iand, 0, 0, .null), (.baload, 0, 0, .null)]
theorem k_rGet_18_ok : fwChain m_rGet.1.cls m_rGet.2.1 18 k_rGet_18 27 = true := by decide +kernel
def k_rGet_27 : List fwO := [(.sipush 255, 0, 0, .int 255), (.iand, 0, 0, .null)]
theorem k_rGet_27_ok : fwChain m_rGet.1.cls m_rGet.2.1 27 k_rGet_27 31 = true := by decide +kernel
theorem d_rGet_31 : decode m_rGet.2.1 31 = .ok (.ireturn, 1) := by decide +kernel
/-- MonitorBoardModel.hexa(I)I -/
abbrev m_rHexa : fwM := (⟨"MonitorBoardModel", "hexa", "(I)I"⟩, prog_13_method_130_code, 1, (some FieldType.int))
theorem m_rHexa_in : Cond.code m_rHexa.1 m_rHexa.2.1 m_rHexa.2.2.1 m_rHexa.2.2.2 ∈ fwT := fwT_mem (List.mem_of_getElem? (i := 2735) (by decide +kernel)) rfl
def k_rHexa_0 : List fwO := [(.iload_n 0, 0, 0, .null), (.bipush 48, 0, 0, .int 48)]
theorem k_rHexa_0_ok : fwChain m_rHexa.1.cls m_rHexa.2.1 0 k_rHexa_0 3 = true := by decide +kernel
theorem d_rHexa_3 : decode m_rHexa.2.1 3 = .ok (.if_icmp .lt 16, 3) := by decide +kernel
def k_rHexa_6 : List fwO := [(.iload_n 0, 0, 0, .null), (.bipush 57, 0, 0, .int 57)]
theorem k_rHexa_6_ok : fwChain m_rHexa.1.cls m_rHexa.2.1 6 k_rHexa_6 9 = true := by decide +kernel
theorem d_rHexa_9 : decode m_rHexa.2.1 9 = .ok (.if_icmp .gt 10, 3) := by decide +kernel
def k_rHexa_12 : List fwO := [(.iload_n 0, 0, 0, .null), (.bipush 48, 0, 0, .int 48), (.isub, 0, 0, .null)]
theorem k_rHexa_12_ok : fwChain m_rHexa.1.cls m_rHexa.2.1 12 k_rHexa_12 16 = true := by decide +kernel
theorem d_rHexa_16 : decode m_rHexa.2.1 16 = .ok (.goto 10, 3) := by decide +kernel
def k_rHexa_19 : List fwO := [(.iload_n 0, 0, 0, .null), (.bipush 65, 0, 0, .int 65), (.isub, 0, 0, .null), (.bipush 10, 0, 0, .int 10), (.iadd, 0, 0, .null)]
theorem k_rHexa_19_ok : fwChain m_rHexa.1.cls m_rHexa.2.1 19 k_rHexa_19 26 = true := by decide +kernel
theorem d_rHexa_26 : decode m_rHexa.2.1 26 = .ok (.ireturn, 1) := by decide +kernel
/-- MonitorBoardModel.hexDigit(I)I -/
abbrev m_rHexDigit : fwM := (⟨"MonitorBoardModel", "hexDigit", "(I)I"⟩, prog_13_method_104_code, 1, (some FieldType.int))
theorem m_rHexDigit_in : Cond.code m_rHexDigit.1 m_rHexDigit.2.1 m_rHexDigit.2.2.1 m_rHexDigit.2.2.2 ∈ fwT := fwT_mem (List.mem_of_getElem? (i := 2476) (by decide +kernel)) rfl
def k_rHexDigit_0 : List fwO := [(.iload_n 0, 0, 0, .null), (.bipush 10, 0, 0, .int 10)]
theorem k_rHexDigit_0_ok : fwChain m_rHexDigit.1.cls m_rHexDigit.2.1 0 k_rHexDigit_0 3 = true := by decide +kernel
theorem d_rHexDigit_3 : decode m_rHexDigit.2.1 3 = .ok (.if_icmp .ge 10, 3) := by decide +kernel
def k_rHexDigit_6 : List fwO := [(.bipush 48, 0, 0, .int 48), (.iload_n 0, 0, 0, .null), (.iadd, 0, 0, .null)]
theorem k_rHexDigit_6_ok : fwChain m_rHexDigit.1.cls m_rHexDigit.2.1 6 k_rHexDigit_6 10 = true := by decide +kernel
theorem d_rHexDigit_10 : decode m_rHexDigit.2.1 10 = .ok (.goto 10, 3) := by decide +kernel
def k_rHexDigit_13 : List fwO := [(.bipush 65, 0, 0, .int 65), (.iload_n 0, 0, 0, .null), (.iadd, 0, 0, .null), (.bipush 10, 0, 0, .int 10), (.isub, 0, 0, .null)]
theorem k_rHexDigit_13_ok : fwChain m_rHexDigit.1.cls m_rHexDigit.2.1 13 k_rHexDigit_13 20 = true := by decide +kernel
theorem d_rHexDigit_20 : decode m_rHexDigit.2.1 20 = .ok (.ireturn, 1) := by decide +kernel
/-- MonitorBoardModel.isCode(III)Z -/
abbrev m_isCode : fwM := (⟨"MonitorBoardModel", "isCode", "(III)Z"⟩, prog_13_method_155_code, 3, (some FieldType.boolean))
theorem m_isCode_in : Cond.code m_isCode.1 m_isCode.2.1 m_isCode.2.2.1 m_isCode.2.2.2 ∈ fwT := fwT_mem (List.mem_of_getElem? (i := 2832) (by decide +kernel)) rfl
def k_isCode_0 : List fwO := [(.iload_n 1, 0, 0, .null)]
theorem k_isCode_0_ok : fwChain m_isCode.1.cls m_isCode.2.1 0 k_isCode_0 1 = true := by decide +kernel
theorem d_isCode_1 : decode m_isCode.2.1 1 = .ok (.tableswitch 179 100 120 #[114, 179, 179, 179, 179, 114, 179, 179, 129, 179, 179, 179, 129, 129, 114, 99, 179, 179, 159, 179, 144], 99) := by decide +kernel
def k_isCode_100 : List fwO := [(.iload_n 0, 0, 0, .null), (.sipush 248, 0, 0, .int 248), (.iand, 0, 0, .null), (.iload_n 2, 0, 0, .null)]
theorem k_isCode_100_ok : fwChain m_isCode.1.cls m_isCode.2.1 100 k_isCode_100 106 = true := by decide +kernel
theorem d_isCode_106 : decode m_isCode.2.1 106 = .ok (.if_icmp .ne 7, 3) := by decide +kernel
def k_isCode_109 : List fwO := [(.iconst 1, 0, 0, .int 1)]
theorem k_isCode_109_ok : fwChain m_isCode.1.cls m_isCode.2.1 109 k_isCode_109 110 = true := by decide +kernel
theorem d_isCode_110 : decode m_isCode.2.1 110 = .ok (.goto 4, 3) := by decide +kernel
def k_isCode_113 : List fwO := [(.iconst 0, 0, 0, .int 0)]
theorem k_isCode_113_ok : fwChain m_isCode.1.cls m_isCode.2.1 113 k_isCode_113 114 = true := by decide +kernel
theorem d_isCode_114 : decode m_isCode.2.1 114 = .ok (.ireturn, 1) := by decide +kernel
def k_isCode_115 : List fwO := [(.iload_n 0, 0, 0, .null), (.sipush 199, 0, 0, .int 199), (.iand, 0, 0, .null), (.iload_n 2, 0, 0, .null)]
theorem k_isCode_115_ok : fwChain m_isCode.1.cls m_isCode.2.1 115 k_isCode_115 121 = true := by decide +kernel
theorem d_isCode_121 : decode m_isCode.2.1 121 = .ok (.if_icmp .ne 7, 3) := by decide +kernel
def k_isCode_124 : List fwO := [(.iconst 1, 0, 0, .int 1)]
theorem k_isCode_124_ok : fwChain m_isCode.1.cls m_isCode.2.1 124 k_isCode_124 125 = true := by decide +kernel
theorem d_isCode_125 : decode m_isCode.2.1 125 = .ok (.goto 4, 3) := by decide +kernel
def k_isCode_128 : List fwO := [(.iconst 0, 0, 0, .int 0)]
theorem k_isCode_128_ok : fwChain m_isCode.1.cls m_isCode.2.1 128 k_isCode_128 129 = true := by decide +kernel
theorem d_isCode_129 : decode m_isCode.2.1 129 = .ok (.ireturn, 1) := by decide +kernel
def k_isCode_130 : List fwO := [(.iload_n 0, 0, 0, .null), (.sipush 207, 0, 0, .int 207), (.iand, 0, 0, .null), (.iload_n 2, 0, 0, .null)]
theorem k_isCode_130_ok : fwChain m_isCode.1.cls m_isCode.2.1 130 k_isCode_130 136 = true := by decide +kernel
theorem d_isCode_136 : decode m_isCode.2.1 136 = .ok (.if_icmp .ne 7, 3) := by decide +kernel
def k_isCode_139 : List fwO := [(.iconst 1, 0, 0, .int 1)]
theorem k_isCode_139_ok : fwChain m_isCode.1.cls m_isCode.2.1 139 k_isCode_139 140 = true := by decide +kernel
theorem d_isCode_140 : decode m_isCode.2.1 140 = .ok (.goto 4, 3) := by decide +kernel
def k_isCode_143 : List fwO := [(.iconst 0, 0, 0, .int 0)]
theorem k_isCode_143_ok : fwChain m_isCode.1.cls m_isCode.2.1 143 k_isCode_143 144 = true := by decide +kernel
theorem d_isCode_144 : decode m_isCode.2.1 144 = .ok (.ireturn, 1) := by decide +kernel
def k_isCode_145 : List fwO := [(.iload_n 0, 0, 0, .null), (.sipush 239, 0, 0, .int 239), (.iand, 0, 0, .null), (.iload_n 2, 0, 0, .null)]
theorem k_isCode_145_ok : fwChain m_isCode.1.cls m_isCode.2.1 145 k_isCode_145 151 = true := by decide +kernel
theorem d_isCode_151 : decode m_isCode.2.1 151 = .ok (.if_icmp .ne 7, 3) := by decide +kernel
def k_isCode_154 : List fwO := [(.iconst 1, 0, 0, .int 1)]
theorem k_isCode_154_ok : fwChain m_isCode.1.cls m_isCode.2.1 154 k_isCode_154 155 = true := by decide +kernel
theorem d_isCode_155 : decode m_isCode.2.1 155 = .ok (.goto 4, 3) := by decide +kernel
def k_isCode_158 : List fwO := [(.iconst 0, 0, 0, .int 0)]
theorem k_isCode_158_ok : fwChain m_isCode.1.cls m_isCode.2.1 158 k_isCode_158 159 = true := by decide +kernel
theorem d_isCode_159 : decode m_isCode.2.1 159 = .ok (.ireturn, 1) := by decide +kernel
def k_isCode_160 : List fwO := [(.iload_n 0, 0, 0, .null), (.bipush 6, 0, 0, .int 6), (.ishr, 0, 0, .null), (.iconst 1, 0, 0, .int 1)]
theorem k_isCode_160_ok : fwChain m_isCode.1.cls m_isCode.2.1 160 k_isCode_160 165 = true := by decide +kernel
theorem d_isCode_165 : decode m_isCode.2.1 165 = .ok (.if_icmp .ne 13, 3) := by decide +kernel
def k_isCode_168 : List fwO := [(.iload_n 0, 0, 0, .null), (.bipush 118, 0, 0, .int 118)]
theorem k_isCode_168_ok : fwChain m_isCode.1.cls m_isCode.2.1 168 k_isCode_168 171 = true := by decide +kernel
theorem d_isCode_171 : decode m_isCode.2.1 171 = .ok (.if_icmp .eq 7, 3) := by decide +kernel
def k_isCode_174 : List fwO := [(.iconst 1, 0, 0, .int 1)]
theorem k_isCode_174_ok : fwChain m_isCode.1.cls m_isCode.2.1 174 k_isCode_174 175 = true := by decide +kernel
theorem d_isCode_175 : decode m_isCode.2.1 175 = .ok (.goto 4, 3) := by decide +kernel
def k_isCode_178 : List fwO := [(.iconst 0, 0, 0, .int 0)]
theorem k_isCode_178_ok : fwChain m_isCode.1.cls m_isCode.2.1 178 k_isCode_178 179 = true := by decide +kernel
theorem d_isCode_179 : decode m_isCode.2.1 179 = .ok (.ireturn, 1) := by decide +kernel
def k_isCode_180 : List fwO := [(.iload_n 0, 0, 0, .null), (.iload_n 2, 0, 0, .null)]
theorem k_isCode_180_ok : fwChain m_isCode.1.cls m_isCode.2.1 180 k_isCode_180 182 = true := by decide +kernel
theorem d_isCode_182 : decode m_isCode.2.1 182 = .ok (.if_icmp .ne 7, 3) := by decide +kernel
def k_isCode_185 : List fwO := [(.iconst 1, 0, 0, .int 1)]
theorem k_isCode_185_ok : fwChain m_isCode.1.cls m_isCode.2.1 185 k_isCode_185 186 = true := by decide +kernel
theorem d_isCode_186 : decode m_isCode.2.1 186 = .ok (.goto 4, 3) := by decide +kernel
def k_isCode_189 : List fwO := [(.iconst 0, 0, 0, .int 0)]
theorem k_isCode_189_ok : fwChain m_isCode.1.cls m_isCode.2.1 189 k_isCode_189 190 = true := by decide +kernel
theorem d_isCode_190 : decode m_isCode.2.1 190 = .ok (.ireturn, 1) := by decide +kernel
/-- MonitorBoardModel.addHex(II)V -/
abbrev m_rAddHex : fwM := (⟨"MonitorBoardModel", "addHex", "(II)V"⟩, prog_13_method_151_code, 4, (none : Option FieldType))
theorem m_rAddHex_in : Cond.code m_rAddHex.1 m_rAddHex.2.1 m_rAddHex.2.2.1 m_rAddHex.2.2.2 ∈ fwT := fwT_mem (List.mem_of_getElem? (i := 2848) (by decide +kernel)) rfl
def k_rAddHex_0 : List fwO := [(.iload_n 1, 0, 0, .null), (.iconst 4, 0, 0, .int 4), (.iload_n 2, 0, 0, .null), (.iconst 1, 0, 0, .int 1), (.isub, 0, 0, .null), (.imul, 0, 0, .null), (.ishr, 0, 0, .null), (.bipush 15, 0, 0, .int 15), (.iand, 0, 0, .null), (.bipush 9, 0, 0, .int 9)]
theorem k_rAddHex_0_ok : fwChain m_rAddHex.1.cls m_rAddHex.2.1 0 k_rAddHex_0 12 = true := by decide +kernel
theorem d_rAddHex_12 : decode m_rAddHex.2.1 12 = .ok (.if_icmp .le 9, 3) := by decide +kernel
def k_rAddHex_15 : List fwO := [(.aload_n 0, 0, 0, .null), (.bipush 48, 0, 0, .int 48)]
theorem k_rAddHex_15_ok : fwChain m_rAddHex.1.cls m_rAddHex.2.1 15 k_rAddHex_15 18 = true := by decide +kernel
theorem d_rAddHex_18 : decode m_rAddHex.2.1 18 = .ok (.invokevirtual 773, 3) := by decide +kernel
def k_rAddHex_21 : List fwO := [(.iload_n 2, 0, 0, .null), (.iconst 1, 0, 0, .int 1), (.isub, 0, 0, .null), (.istore_n 3, 0, 0, .null)]
theorem k_rAddHex_21_ok : fwChain m_rAddHex.1.cls m_rAddHex.2.1 21 k_rAddHex_21 25 = true := by decide +kernel
def k_rAddHex_25 : List fwO := [(.iload_n 3, 0, 0, .null)]
theorem k_rAddHex_25_ok : fwChain m_rAddHex.1.cls m_rAddHex.2.1 25 k_rAddHex_25 26 = true := by decide +kernel
theorem d_rAddHex_26 : decode m_rAddHex.2.1 26 = .ok (.ifCond .lt 24, 3) := by decide +kernel
def k_rAddHex_29 : List fwO := [(.aload_n 0, 0, 0, .null), (.iload_n 1, 0, 0, .null), (.iconst 4, 0, 0, .int 4), (.iload_n 3, 0, 0, .null), (.imul, 0, 0, .null), (.ishr, 0, 0, .null), (.bipush 15, 0, 0, .int 15), (.iand, 0, 0, .null)]
theorem k_rAddHex_29_ok : fwChain m_rAddHex.1.cls m_rAddHex.2.1 29 k_rAddHex_29 38 = true := by decide +kernel
theorem d_rAddHex_38 : decode m_rAddHex.2.1 38 = .ok (.invokestatic 551, 3) := by decide +kernel
theorem d_rAddHex_41 : decode m_rAddHex.2.1 41 = .ok (.invokevirtual 773, 3) := by decide +kernel
def k_rAddHex_44 : List fwO := [(.iinc 3 (-1), 0, 0, .int (-1))]
theorem k_rAddHex_44_ok : fwChain m_rAddHex.1.cls m_rAddHex.2.1 44 k_rAddHex_44 47 = true := by decide +kernel
theorem d_rAddHex_47 : decode m_rAddHex.2.1 47 = .ok (.goto (-22), 3) := by decide +kernel
def k_rAddHex_50 : List fwO := [(.aload_n 0, 0, 0, .null), (.bipush 72, 0, 0, .int 72)]
theorem k_rAddHex_50_ok : fwChain m_rAddHex.1.cls m_rAddHex.2.1 50 k_rAddHex_50 53 = true := by decide +kernel
theorem d_rAddHex_53 : decode m_rAddHex.2.1 53 = .ok (.invokevirtual 773, 3) := by decide +kernel
theorem d_rAddHex_56 : decode m_rAddHex.2.1 56 = .ok (.return_, 1) := by decide +kernel
/-- MonitorBoardModel.addRegister(I)V -/
abbrev m_rAddReg : fwM := (⟨"MonitorBoardModel", "addRegister", "(I)V"⟩, prog_13_method_152_code, 2, (none : Option FieldType))
theorem m_rAddReg_in : Cond.code m_rAddReg.1 m_rAddReg.2.1 m_rAddReg.2.2.1 m_rAddReg.2.2.2 ∈ fwT := fwT_mem (List.mem_of_getElem? (i := 2852) (by decide +kernel)) rfl
def k_rAddReg_0 : List fwO := [(.aload_n 0, 0, 0, .null)]
theorem k_rAddReg_0_ok : fwChain m_rAddReg.1.cls m_rAddReg.2.1 0 k_rAddReg_0 1 = true := by decide +kernel
theorem d_rAddReg_1 : decode m_rAddReg.2.1 1 = .ok (.ldc_w 728, 3) := by decide +kernel
def k_rAddReg_4 : List fwO := [(.iload_n 1, 0, 0, .null)]
theorem k_rAddReg_4_ok : fwChain m_rAddReg.1.cls m_rAddReg.2.1 4 k_rAddReg_4 5 = true := by decide +kernel
theorem d_rAddReg_5 : decode m_rAddReg.2.1 5 = .ok (.invokevirtual 145, 3) := by decide +kernel
theorem d_rAddReg_8 : decode m_rAddReg.2.1 8 = .ok (.invokevirtual 773, 3) := by decide +kernel
theorem d_rAddReg_11 : decode m_rAddReg.2.1 11 = .ok (.return_, 1) := by decide +kernel
/-- MonitorBoardModel.addPair(IZ)V -/
abbrev m_rAddPair : fwM := (⟨"MonitorBoardModel", "addPair", "(IZ)V"⟩, prog_13_method_153_code, 4, (none : Option FieldType))
theorem m_rAddPair_in : Cond.code m_rAddPair.1 m_rAddPair.2.1 m_rAddPair.2.2.1 m_rAddPair.2.2.2 ∈ fwT := fwT_mem (List.mem_of_getElem? (i := 2856) (by decide +kernel)) rfl
def k_rAddPair_0 : List fwO := [(.iload_n 1, 0, 0, .null), (.iconst 3, 0, 0, .int 3)]
theorem k_rAddPair_0_ok : fwChain m_rAddPair.1.cls m_rAddPair.2.1 0 k_rAddPair_0 2 = true := by decide +kernel
theorem d_rAddPair_2 : decode m_rAddPair.2.1 2 = .ok (.if_icmp .ge 17, 3) := by decide +kernel
def k_rAddPair_5 : List fwO := [(.aload_n 0, 0, 0, .null)]
theorem k_rAddPair_5_ok : fwChain m_rAddPair.1.cls m_rAddPair.2.1 5 k_rAddPair_5 6 = true := by decide +kernel
theorem d_rAddPair_6 : decode m_rAddPair.2.1 6 = .ok (.ldc_w 776, 3) := by decide +kernel
def k_rAddPair_9 : List fwO := [(.iload_n 1, 0, 0, .null)]
theorem k_rAddPair_9_ok : fwChain m_rAddPair.1.cls m_rAddPair.2.1 9 k_rAddPair_9 10 = true := by decide +kernel
theorem d_rAddPair_10 : decode m_rAddPair.2.1 10 = .ok (.invokevirtual 145, 3) := by decide +kernel
theorem d_rAddPair_13 : decode m_rAddPair.2.1 13 = .ok (.invokevirtual 773, 3) := by decide +kernel
theorem d_rAddPair_16 : decode m_rAddPair.2.1 16 = .ok (.goto 27, 3) := by decide +kernel
def k_rAddPair_19 : List fwO := [(.iload_n 2, 0, 0, .null)]
theorem k_rAddPair_19_ok : fwChain m_rAddPair.1.cls m_rAddPair.2.1 19 k_rAddPair_19 20 = true := by decide +kernel
theorem d_rAddPair_20 : decode m_rAddPair.2.1 20 = .ok (.ifCond .eq 9, 3) := by decide +kernel
theorem d_rAddPair_23 : decode m_rAddPair.2.1 23 = .ok (.ldc_w 738, 3) := by decide +kernel
theorem d_rAddPair_26 : decode m_rAddPair.2.1 26 = .ok (.goto 6, 3) := by decide +kernel
theorem d_rAddPair_29 : decode m_rAddPair.2.1 29 = .ok (.ldc_w 736, 3) := by decide +kernel
def k_rAddPair_32 : List fwO := [(.astore_n 3, 0, 0, .null), (.aload_n 0, 0, 0, .null), (.aload_n 3, 0, 0, .null), (.iconst 0, 0, 0, .int 0), (.aload_n 3, 0, 0, .null)]
theorem k_rAddPair_32_ok : fwChain m_rAddPair.1.cls m_rAddPair.2.1 32 k_rAddPair_32 37 = true := by decide +kernel
theorem d_rAddPair_37 : decode m_rAddPair.2.1 37 = .ok (.invokevirtual 140, 3) := by decide +kernel
theorem d_rAddPair_40 : decode m_rAddPair.2.1 40 = .ok (.invokevirtual 778, 3) := by decide +kernel
theorem d_rAddPair_43 : decode m_rAddPair.2.1 43 = .ok (.return_, 1) := by decide +kernel
/-- MonitorBoardModel.operands(III)V -/
abbrev m_rOps : fwM := (⟨"MonitorBoardModel", "operands", "(III)V"⟩, prog_13_method_156_code, 5, (none : Option FieldType))
theorem m_rOps_in : Cond.code m_rOps.1 m_rOps.2.1 m_rOps.2.2.1 m_rOps.2.2.2 ∈ fwT := fwT_mem (List.mem_of_getElem? (i := 2844) (by decide +kernel)) rfl
def k_rOps_0 : List fwO := [(.iload_n 2, 0, 0, .null), (.bipush 110, 0, 0, .int 110)]
theorem k_rOps_0_ok : fwChain m_rOps.1.cls m_rOps.2.1 0 k_rOps_0 3 = true := by decide +kernel
theorem d_rOps_3 : decode m_rOps.2.1 3 = .ok (.if_icmp .eq 9, 3) := by decide +kernel
def k_rOps_6 : List fwO := [(.aload_n 0, 0, 0, .null), (.bipush 32, 0, 0, .int 32)]
theorem k_rOps_6_ok : fwChain m_rOps.1.cls m_rOps.2.1 6 k_rOps_6 9 = true := by decide +kernel
theorem d_rOps_9 : decode m_rOps.2.1 9 = .ok (.invokevirtual 773, 3) := by decide +kernel
def k_rOps_12 : List fwO := [(.iload_n 1, 0, 0, .null), (.iconst 3, 0, 0, .int 3), (.ishr, 0, 0, .null), (.bipush 7, 0, 0, .int 7), (.iand, 0, 0, .null), (.istore 4, 0, 0, .null), (.iload_n 2, 0, 0, .null)]
theorem k_rOps_12_ok : fwChain m_rOps.1.cls m_rOps.2.1 12 k_rOps_12 21 = true := by decide +kernel
theorem d_rOps_21 : decode m_rOps.2.1 21 = .ok (.tableswitch 298 98 120 #[133, 298, 159, 298, 298, 298, 298, 217, 298, 298, 244, 298, 298, 298, 168, 181, 286, 148, 298, 298, 194, 107, 168], 107) := by decide +kernel
def k_rOps_128 : List fwO := [(.aload_n 0, 0, 0, .null), (.aload_n 0, 0, 0, .null), (.iload_n 3, 0, 0, .null), (.iconst 1, 0, 0, .int 1), (.iadd, 0, 0, .null)]
theorem k_rOps_128_ok : fwChain m_rOps.1.cls m_rOps.2.1 128 k_rOps_128 133 = true := by decide +kernel
theorem d_rOps_133 : decode m_rOps.2.1 133 = .ok (.invokevirtual 136, 3) := by decide +kernel
def k_rOps_136 : List fwO := [(.aload_n 0, 0, 0, .null), (.iload_n 3, 0, 0, .null), (.iconst 2, 0, 0, .int 2), (.iadd, 0, 0, .null)]
theorem k_rOps_136_ok : fwChain m_rOps.1.cls m_rOps.2.1 136 k_rOps_136 140 = true := by decide +kernel
theorem d_rOps_140 : decode m_rOps.2.1 140 = .ok (.invokevirtual 136, 3) := by decide +kernel
def k_rOps_143 : List fwO := [(.bipush 8, 0, 0, .int 8), (.ishl, 0, 0, .null), (.ior, 0, 0, .null), (.iconst 4, 0, 0, .int 4)]
theorem k_rOps_143_ok : fwChain m_rOps.1.cls m_rOps.2.1 143 k_rOps_143 148 = true := by decide +kernel
theorem d_rOps_148 : decode m_rOps.2.1 148 = .ok (.invokevirtual 791, 3) := by decide +kernel
theorem d_rOps_151 : decode m_rOps.2.1 151 = .ok (.goto 168, 3) := by decide +kernel
def k_rOps_154 : List fwO := [(.aload_n 0, 0, 0, .null), (.aload_n 0, 0, 0, .null), (.iload_n 3, 0, 0, .null), (.iconst 1, 0, 0, .int 1), (.iadd, 0, 0, .null)]
theorem k_rOps_154_ok : fwChain m_rOps.1.cls m_rOps.2.1 154 k_rOps_154 159 = true := by decide +kernel
theorem d_rOps_159 : decode m_rOps.2.1 159 = .ok (.invokevirtual 136, 3) := by decide +kernel
def k_rOps_162 : List fwO := [(.iconst 2, 0, 0, .int 2)]
theorem k_rOps_162_ok : fwChain m_rOps.1.cls m_rOps.2.1 162 k_rOps_162 163 = true := by decide +kernel
theorem d_rOps_163 : decode m_rOps.2.1 163 = .ok (.invokevirtual 791, 3) := by decide +kernel
theorem d_rOps_166 : decode m_rOps.2.1 166 = .ok (.goto 153, 3) := by decide +kernel
def k_rOps_169 : List fwO := [(.aload_n 0, 0, 0, .null), (.iload_n 1, 0, 0, .null), (.bipush 7, 0, 0, .int 7), (.iand, 0, 0, .null)]
theorem k_rOps_169_ok : fwChain m_rOps.1.cls m_rOps.2.1 169 k_rOps_169 174 = true := by decide +kernel
theorem d_rOps_174 : decode m_rOps.2.1 174 = .ok (.invokevirtual 794, 3) := by decide +kernel
theorem d_rOps_177 : decode m_rOps.2.1 177 = .ok (.goto 142, 3) := by decide +kernel
def k_rOps_180 : List fwO := [(.aload_n 0, 0, 0, .null), (.iload 4, 0, 0, .null)]
theorem k_rOps_180_ok : fwChain m_rOps.1.cls m_rOps.2.1 180 k_rOps_180 183 = true := by decide +kernel
theorem d_rOps_183 : decode m_rOps.2.1 183 = .ok (.invokevirtual 794, 3) := by decide +kernel
theorem d_rOps_186 : decode m_rOps.2.1 186 = .ok (.goto 133, 3) := by decide +kernel
def k_rOps_189 : List fwO := [(.aload_n 0, 0, 0, .null), (.iload_n 1, 0, 0, .null), (.iconst 4, 0, 0, .int 4), (.ishr, 0, 0, .null), (.iconst 3, 0, 0, .int 3), (.iand, 0, 0, .null), (.iconst 0, 0, 0, .int 0)]
theorem k_rOps_189_ok : fwChain m_rOps.1.cls m_rOps.2.1 189 k_rOps_189 196 = true := by decide +kernel
theorem d_rOps_196 : decode m_rOps.2.1 196 = .ok (.invokevirtual 797, 3) := by decide +kernel
theorem d_rOps_199 : decode m_rOps.2.1 199 = .ok (.goto 120, 3) := by decide +kernel
def k_rOps_202 : List fwO := [(.aload_n 0, 0, 0, .null), (.iload_n 1, 0, 0, .null), (.iconst 4, 0, 0, .int 4), (.ishr, 0, 0, .null), (.iconst 3, 0, 0, .int 3), (.iand, 0, 0, .null), (.iconst 1, 0, 0, .int 1)]
theorem k_rOps_202_ok : fwChain m_rOps.1.cls m_rOps.2.1 202 k_rOps_202 209 = true := by decide +kernel
theorem d_rOps_209 : decode m_rOps.2.1 209 = .ok (.invokevirtual 797, 3) := by decide +kernel
theorem d_rOps_212 : decode m_rOps.2.1 212 = .ok (.goto 107, 3) := by decide +kernel
def k_rOps_215 : List fwO := [(.aload_n 0, 0, 0, .null), (.iload 4, 0, 0, .null)]
theorem k_rOps_215_ok : fwChain m_rOps.1.cls m_rOps.2.1 215 k_rOps_215 218 = true := by decide +kernel
theorem d_rOps_218 : decode m_rOps.2.1 218 = .ok (.invokevirtual 794, 3) := by decide +kernel
def k_rOps_221 : List fwO := [(.aload_n 0, 0, 0, .null), (.bipush 44, 0, 0, .int 44)]
theorem k_rOps_221_ok : fwChain m_rOps.1.cls m_rOps.2.1 221 k_rOps_221 224 = true := by decide +kernel
theorem d_rOps_224 : decode m_rOps.2.1 224 = .ok (.invokevirtual 773, 3) := by decide +kernel
def k_rOps_227 : List fwO := [(.aload_n 0, 0, 0, .null), (.iload_n 1, 0, 0, .null), (.bipush 7, 0, 0, .int 7), (.iand, 0, 0, .null)]
theorem k_rOps_227_ok : fwChain m_rOps.1.cls m_rOps.2.1 227 k_rOps_227 232 = true := by decide +kernel
theorem d_rOps_232 : decode m_rOps.2.1 232 = .ok (.invokevirtual 794, 3) := by decide +kernel
theorem d_rOps_235 : decode m_rOps.2.1 235 = .ok (.goto 84, 3) := by decide +kernel
def k_rOps_238 : List fwO := [(.aload_n 0, 0, 0, .null), (.iload 4, 0, 0, .null)]
theorem k_rOps_238_ok : fwChain m_rOps.1.cls m_rOps.2.1 238 k_rOps_238 241 = true := by decide +kernel
theorem d_rOps_241 : decode m_rOps.2.1 241 = .ok (.invokevirtual 794, 3) := by decide +kernel
def k_rOps_244 : List fwO := [(.aload_n 0, 0, 0, .null), (.bipush 44, 0, 0, .int 44)]
theorem k_rOps_244_ok : fwChain m_rOps.1.cls m_rOps.2.1 244 k_rOps_244 247 = true := by decide +kernel
theorem d_rOps_247 : decode m_rOps.2.1 247 = .ok (.invokevirtual 773, 3) := by decide +kernel
def k_rOps_250 : List fwO := [(.aload_n 0, 0, 0, .null), (.aload_n 0, 0, 0, .null), (.iload_n 3, 0, 0, .null), (.iconst 1, 0, 0, .int 1), (.iadd, 0, 0, .null)]
theorem k_rOps_250_ok : fwChain m_rOps.1.cls m_rOps.2.1 250 k_rOps_250 255 = true := by decide +kernel
theorem d_rOps_255 : decode m_rOps.2.1 255 = .ok (.invokevirtual 136, 3) := by decide +kernel
def k_rOps_258 : List fwO := [(.iconst 2, 0, 0, .int 2)]
theorem k_rOps_258_ok : fwChain m_rOps.1.cls m_rOps.2.1 258 k_rOps_258 259 = true := by decide +kernel
theorem d_rOps_259 : decode m_rOps.2.1 259 = .ok (.invokevirtual 791, 3) := by decide +kernel
theorem d_rOps_262 : decode m_rOps.2.1 262 = .ok (.goto 57, 3) := by decide +kernel
def k_rOps_265 : List fwO := [(.aload_n 0, 0, 0, .null), (.iload_n 1, 0, 0, .null), (.iconst 4, 0, 0, .int 4), (.ishr, 0, 0, .null), (.iconst 3, 0, 0, .int 3), (.iand, 0, 0, .null), (.iconst 0, 0, 0, .int 0)]
theorem k_rOps_265_ok : fwChain m_rOps.1.cls m_rOps.2.1 265 k_rOps_265 272 = true := by decide +kernel
theorem d_rOps_272 : decode m_rOps.2.1 272 = .ok (.invokevirtual 797, 3) := by decide +kernel
def k_rOps_275 : List fwO := [(.aload_n 0, 0, 0, .null), (.bipush 44, 0, 0, .int 44)]
theorem k_rOps_275_ok : fwChain m_rOps.1.cls m_rOps.2.1 275 k_rOps_275 278 = true := by decide +kernel
theorem d_rOps_278 : decode m_rOps.2.1 278 = .ok (.invokevirtual 773, 3) := by decide +kernel
def k_rOps_281 : List fwO := [(.aload_n 0, 0, 0, .null), (.aload_n 0, 0, 0, .null), (.iload_n 3, 0, 0, .null), (.iconst 1, 0, 0, .int 1), (.iadd, 0, 0, .null)]
theorem k_rOps_281_ok : fwChain m_rOps.1.cls m_rOps.2.1 281 k_rOps_281 286 = true := by decide +kernel
theorem d_rOps_286 : decode m_rOps.2.1 286 = .ok (.invokevirtual 136, 3) := by decide +kernel
def k_rOps_289 : List fwO := [(.aload_n 0, 0, 0, .null), (.iload_n 3, 0, 0, .null), (.iconst 2, 0, 0, .int 2), (.iadd, 0, 0, .null)]
theorem k_rOps_289_ok : fwChain m_rOps.1.cls m_rOps.2.1 289 k_rOps_289 293 = true := by decide +kernel
theorem d_rOps_293 : decode m_rOps.2.1 293 = .ok (.invokevirtual 136, 3) := by decide +kernel
def k_rOps_296 : List fwO := [(.bipush 8, 0, 0, .int 8), (.ishl, 0, 0, .null), (.ior, 0, 0, .null), (.iconst 4, 0, 0, .int 4)]
theorem k_rOps_296_ok : fwChain m_rOps.1.cls m_rOps.2.1 296 k_rOps_296 301 = true := by decide +kernel
theorem d_rOps_301 : decode m_rOps.2.1 301 = .ok (.invokevirtual 791, 3) := by decide +kernel
theorem d_rOps_304 : decode m_rOps.2.1 304 = .ok (.goto 15, 3) := by decide +kernel
def k_rOps_307 : List fwO := [(.aload_n 0, 0, 0, .null), (.bipush 48, 0, 0, .int 48), (.iload 4, 0, 0, .null), (.iadd, 0, 0, .null)]
theorem k_rOps_307_ok : fwChain m_rOps.1.cls m_rOps.2.1 307 k_rOps_307 313 = true := by decide +kernel
theorem d_rOps_313 : decode m_rOps.2.1 313 = .ok (.invokevirtual 773, 3) := by decide +kernel
theorem d_rOps_316 : decode m_rOps.2.1 316 = .ok (.goto 3, 3) := by decide +kernel
theorem d_rOps_319 : decode m_rOps.2.1 319 = .ok (.return_, 1) := by decide +kernel
/-- MonitorBoardModel.list(I)I -/
abbrev m_rList : fwM := (⟨"MonitorBoardModel", "list", "(I)I"⟩, prog_13_method_154_code, 8, (some FieldType.int))
theorem m_rList_in : Cond.code m_rList.1 m_rList.2.1 m_rList.2.2.1 m_rList.2.2.2 ∈ fwT := fwT_mem (List.mem_of_getElem? (i := 2829) (by decide +kernel)) rfl
def k_rList_0 : List fwO := [(.iload_n 1, 0, 0, .null), (.ldc 111, 38, 0, .int 65535), (.iand, 0, 0, .null), (.istore_n 2, 0, 0, .null), (.aload_n 0, 0, 0, .null), (.iload_n 2, 0, 0, .null)]
theorem k_rList_0_ok : fwChain m_rList.1.cls m_rList.2.1 0 k_rList_0 7 = true := by decide +kernel
theorem d_rList_7 : decode m_rList.2.1 7 = .ok (.invokevirtual 136, 3) := by decide +kernel
def k_rList_10 : List fwO := [(.istore_n 3, 0, 0, .null), (.aload_n 0, 0, 0, .null), (.iconst 0, 0, 0, .int 0), (.putfield 129, 1, 11, .retAddr 174), (.iconst 0, 0, 0, .int 0), (.istore 4, 0, 0, .null)]
theorem k_rList_10_ok : fwChain m_rList.1.cls m_rList.2.1 10 k_rList_10 19 = true := by decide +kernel
def k_rList_19 : List fwO := [(.iload 4, 0, 0, .null)]
theorem k_rList_19_ok : fwChain m_rList.1.cls m_rList.2.1 19 k_rList_19 21 = true := by decide +kernel
theorem d_rList_21 : decode m_rList.2.1 21 = .ok (.ldc_w 666, 3) := by decide +kernel
theorem d_rList_24 : decode m_rList.2.1 24 = .ok (.invokevirtual 140, 3) := by decide +kernel
theorem d_rList_27 : decode m_rList.2.1 27 = .ok (.if_icmp .ge 145, 3) := by decide +kernel
def k_rList_30 : List fwO := [(.iconst 0, 0, 0, .int 0), (.istore 5, 0, 0, .null)]
theorem k_rList_30_ok : fwChain m_rList.1.cls m_rList.2.1 30 k_rList_30 33 = true := by decide +kernel
theorem d_rList_33 : decode m_rList.2.1 33 = .ok (.ldc_w 666, 3) := by decide +kernel
def k_rList_36 : List fwO := [(.iload 4, 0, 0, .null), (.iload 5, 0, 0, .null), (.iadd, 0, 0, .null)]
theorem k_rList_36_ok : fwChain m_rList.1.cls m_rList.2.1 36 k_rList_36 41 = true := by decide +kernel
theorem d_rList_41 : decode m_rList.2.1 41 = .ok (.invokevirtual 145, 3) := by decide +kernel
def k_rList_44 : List fwO := [(.bipush 65, 0, 0, .int 65)]
theorem k_rList_44_ok : fwChain m_rList.1.cls m_rList.2.1 44 k_rList_44 46 = true := by decide +kernel
theorem d_rList_46 : decode m_rList.2.1 46 = .ok (.if_icmp .lt 25, 3) := by decide +kernel
theorem d_rList_49 : decode m_rList.2.1 49 = .ok (.ldc_w 666, 3) := by decide +kernel
def k_rList_52 : List fwO := [(.iload 4, 0, 0, .null), (.iload 5, 0, 0, .null), (.iadd, 0, 0, .null)]
theorem k_rList_52_ok : fwChain m_rList.1.cls m_rList.2.1 52 k_rList_52 57 = true := by decide +kernel
theorem d_rList_57 : decode m_rList.2.1 57 = .ok (.invokevirtual 145, 3) := by decide +kernel
def k_rList_60 : List fwO := [(.bipush 90, 0, 0, .int 90)]
theorem k_rList_60_ok : fwChain m_rList.1.cls m_rList.2.1 60 k_rList_60 62 = true := by decide +kernel
theorem d_rList_62 : decode m_rList.2.1 62 = .ok (.if_icmp .gt 9, 3) := by decide +kernel
def k_rList_65 : List fwO := [(.iinc 5 1, 0, 0, .int 1)]
theorem k_rList_65_ok : fwChain m_rList.1.cls m_rList.2.1 65 k_rList_65 68 = true := by decide +kernel
theorem d_rList_68 : decode m_rList.2.1 68 = .ok (.goto (-35), 3) := by decide +kernel
theorem d_rList_71 : decode m_rList.2.1 71 = .ok (.ldc_w 666, 3) := by decide +kernel
def k_rList_74 : List fwO := [(.iload 4, 0, 0, .null), (.iload 5, 0, 0, .null), (.iadd, 0, 0, .null)]
theorem k_rList_74_ok : fwChain m_rList.1.cls m_rList.2.1 74 k_rList_74 79 = true := by decide +kernel
theorem d_rList_79 : decode m_rList.2.1 79 = .ok (.invokevirtual 145, 3) := by decide +kernel
def k_rList_82 : List fwO := [(.istore 6, 0, 0, .null), (.bipush 16, 0, 0, .int 16)]
theorem k_rList_82_ok : fwChain m_rList.1.cls m_rList.2.1 82 k_rList_82 86 = true := by decide +kernel
theorem d_rList_86 : decode m_rList.2.1 86 = .ok (.ldc_w 666, 3) := by decide +kernel
def k_rList_89 : List fwO := [(.iload 4, 0, 0, .null), (.iload 5, 0, 0, .null), (.iadd, 0, 0, .null), (.iconst 1, 0, 0, .int 1), (.iadd, 0, 0, .null)]
theorem k_rList_89_ok : fwChain m_rList.1.cls m_rList.2.1 89 k_rList_89 96 = true := by decide +kernel
theorem d_rList_96 : decode m_rList.2.1 96 = .ok (.invokevirtual 145, 3) := by decide +kernel
theorem d_rList_99 : decode m_rList.2.1 99 = .ok (.invokestatic 671, 3) := by decide +kernel
def k_rList_102 : List fwO := [(.imul, 0, 0, .null)]
theorem k_rList_102_ok : fwChain m_rList.1.cls m_rList.2.1 102 k_rList_102 103 = true := by decide +kernel
theorem d_rList_103 : decode m_rList.2.1 103 = .ok (.ldc_w 666, 3) := by decide +kernel
def k_rList_106 : List fwO := [(.iload 4, 0, 0, .null), (.iload 5, 0, 0, .null), (.iadd, 0, 0, .null), (.iconst 2, 0, 0, .int 2), (.iadd, 0, 0, .null)]
theorem k_rList_106_ok : fwChain m_rList.1.cls m_rList.2.1 106 k_rList_106 113 = true := by decide +kernel
theorem d_rList_113 : decode m_rList.2.1 113 = .ok (.invokevirtual 145, 3) := by decide +kernel
theorem d_rList_116 : decode m_rList.2.1 116 = .ok (.invokestatic 671, 3) := by decide +kernel
def k_rList_119 : List fwO := [(.iadd, 0, 0, .null), (.istore 7, 0, 0, .null), (.iload_n 3, 0, 0, .null), (.iload 6, 0, 0, .null), (.iload 7, 0, 0, .null)]
theorem k_rList_119_ok : fwChain m_rList.1.cls m_rList.2.1 119 k_rList_119 127 = true := by decide +kernel
theorem d_rList_127 : decode m_rList.2.1 127 = .ok (.invokestatic 782, 3) := by decide +kernel
theorem d_rList_130 : decode m_rList.2.1 130 = .ok (.ifCond .eq 30, 3) := by decide +kernel
def k_rList_133 : List fwO := [(.aload_n 0, 0, 0, .null)]
theorem k_rList_133_ok : fwChain m_rList.1.cls m_rList.2.1 133 k_rList_133 134 = true := by decide +kernel
theorem d_rList_134 : decode m_rList.2.1 134 = .ok (.ldc_w 666, 3) := by decide +kernel
def k_rList_137 : List fwO := [(.iload 4, 0, 0, .null), (.iload 4, 0, 0, .null), (.iload 5, 0, 0, .null), (.iadd, 0, 0, .null)]
theorem k_rList_137_ok : fwChain m_rList.1.cls m_rList.2.1 137 k_rList_137 144 = true := by decide +kernel
theorem d_rList_144 : decode m_rList.2.1 144 = .ok (.invokevirtual 778, 3) := by decide +kernel
def k_rList_147 : List fwO := [(.aload_n 0, 0, 0, .null), (.iload_n 3, 0, 0, .null), (.iload 6, 0, 0, .null), (.iload_n 2, 0, 0, .null)]
theorem k_rList_147_ok : fwChain m_rList.1.cls m_rList.2.1 147 k_rList_147 152 = true := by decide +kernel
theorem d_rList_152 : decode m_rList.2.1 152 = .ok (.invokevirtual 786, 3) := by decide +kernel
def k_rList_155 : List fwO := [(.aload_n 0, 0, 0, .null), (.getfield 129, 1, 11, .retAddr 174)]
theorem k_rList_155_ok : fwChain m_rList.1.cls m_rList.2.1 155 k_rList_155 159 = true := by decide +kernel
theorem d_rList_159 : decode m_rList.2.1 159 = .ok (.ireturn, 1) := by decide +kernel
def k_rList_160 : List fwO := [(.iload 4, 0, 0, .null), (.iload 5, 0, 0, .null), (.iconst 4, 0, 0, .int 4), (.iadd, 0, 0, .null), (.iadd, 0, 0, .null), (.istore 4, 0, 0, .null)]
theorem k_rList_160_ok : fwChain m_rList.1.cls m_rList.2.1 160 k_rList_160 169 = true := by decide +kernel
theorem d_rList_169 : decode m_rList.2.1 169 = .ok (.goto (-150), 3) := by decide +kernel
def k_rList_172 : List fwO := [(.aload_n 0, 0, 0, .null)]
theorem k_rList_172_ok : fwChain m_rList.1.cls m_rList.2.1 172 k_rList_172 173 = true := by decide +kernel
theorem d_rList_173 : decode m_rList.2.1 173 = .ok (.ldc_w 789, 3) := by decide +kernel
def k_rList_176 : List fwO := [(.iconst 0, 0, 0, .int 0), (.iconst 3, 0, 0, .int 3)]
theorem k_rList_176_ok : fwChain m_rList.1.cls m_rList.2.1 176 k_rList_176 178 = true := by decide +kernel
theorem d_rList_178 : decode m_rList.2.1 178 = .ok (.invokevirtual 778, 3) := by decide +kernel
def k_rList_181 : List fwO := [(.aload_n 0, 0, 0, .null), (.iload_n 3, 0, 0, .null), (.iconst 2, 0, 0, .int 2)]
theorem k_rList_181_ok : fwChain m_rList.1.cls m_rList.2.1 181 k_rList_181 184 = true := by decide +kernel
theorem d_rList_184 : decode m_rList.2.1 184 = .ok (.invokevirtual 791, 3) := by decide +kernel
def k_rList_187 : List fwO := [(.aload_n 0, 0, 0, .null), (.getfield 129, 1, 11, .retAddr 174)]
theorem k_rList_187_ok : fwChain m_rList.1.cls m_rList.2.1 187 k_rList_187 191 = true := by decide +kernel
theorem d_rList_191 : decode m_rList.2.1 191 = .ok (.ireturn, 1) := by decide +kernel
theorem c_rAddHex_18 : ∀ w ∈ ([(Cond.methodLink "MonitorBoardModel" (773 : Nat) ({ cls := "MonitorBoardModel", name := "add", desc := "(I)V" } : MethodName)), (Cond.instanceMethod ({ cls := "MonitorBoardModel", name := "add", desc := "(I)V" } : MethodName)), (Cond.selects "MonitorBoardModel" ({ cls := "MonitorBoardModel", name := "add", desc := "(I)V" } : MethodName) ({ cls := "MonitorBoardModel", name := "add", desc := "(I)V" } : MethodName)), (Cond.initialized "MonitorBoardModel")] : List Cond), w ∈ fwT := fwT_all [2837, 2839, 275, 298] (by decide +kernel) (by decide +kernel)
theorem c_rAddHex_38 : ∀ w ∈ ([(Cond.methodLink "MonitorBoardModel" (551 : Nat) ({ cls := "MonitorBoardModel", name := "hexDigit", desc := "(I)I" } : MethodName)), (Cond.static ({ cls := "MonitorBoardModel", name := "hexDigit", desc := "(I)I" } : MethodName)), (Cond.initialized "MonitorBoardModel")] : List Cond), w ∈ fwT := fwT_all [2474, 2475, 298] (by decide +kernel) (by decide +kernel)
theorem c_rAddHex_41 : ∀ w ∈ ([(Cond.methodLink "MonitorBoardModel" (773 : Nat) ({ cls := "MonitorBoardModel", name := "add", desc := "(I)V" } : MethodName)), (Cond.instanceMethod ({ cls := "MonitorBoardModel", name := "add", desc := "(I)V" } : MethodName)), (Cond.selects "MonitorBoardModel" ({ cls := "MonitorBoardModel", name := "add", desc := "(I)V" } : MethodName) ({ cls := "MonitorBoardModel", name := "add", desc := "(I)V" } : MethodName)), (Cond.initialized "MonitorBoardModel")] : List Cond), w ∈ fwT := c_rAddHex_18
theorem c_rAddHex_53 : ∀ w ∈ ([(Cond.methodLink "MonitorBoardModel" (773 : Nat) ({ cls := "MonitorBoardModel", name := "add", desc := "(I)V" } : MethodName)), (Cond.instanceMethod ({ cls := "MonitorBoardModel", name := "add", desc := "(I)V" } : MethodName)), (Cond.selects "MonitorBoardModel" ({ cls := "MonitorBoardModel", name := "add", desc := "(I)V" } : MethodName) ({ cls := "MonitorBoardModel", name := "add", desc := "(I)V" } : MethodName)), (Cond.initialized "MonitorBoardModel")] : List Cond), w ∈ fwT := c_rAddHex_18
theorem c_rAddReg_5 : ∀ w ∈ ([(Cond.methodLink "MonitorBoardModel" (145 : Nat) ({ cls := "java/lang/String", name := "charAt", desc := "(I)C" } : MethodName)), (Cond.instanceMethod ({ cls := "java/lang/String", name := "charAt", desc := "(I)C" } : MethodName)), (Cond.selects "java/lang/String" ({ cls := "java/lang/String", name := "charAt", desc := "(I)C" } : MethodName) ({ cls := "java/lang/String", name := "charAt", desc := "(I)C" } : MethodName)), (Cond.initialized "java/lang/String")] : List Cond), w ∈ fwT := fwT_all [1965, 581, 582, 290] (by decide +kernel) (by decide +kernel)
theorem c_rAddReg_8 : ∀ w ∈ ([(Cond.methodLink "MonitorBoardModel" (773 : Nat) ({ cls := "MonitorBoardModel", name := "add", desc := "(I)V" } : MethodName)), (Cond.instanceMethod ({ cls := "MonitorBoardModel", name := "add", desc := "(I)V" } : MethodName)), (Cond.selects "MonitorBoardModel" ({ cls := "MonitorBoardModel", name := "add", desc := "(I)V" } : MethodName) ({ cls := "MonitorBoardModel", name := "add", desc := "(I)V" } : MethodName)), (Cond.initialized "MonitorBoardModel")] : List Cond), w ∈ fwT := c_rAddHex_18
theorem c_rAddPair_10 : ∀ w ∈ ([(Cond.methodLink "MonitorBoardModel" (145 : Nat) ({ cls := "java/lang/String", name := "charAt", desc := "(I)C" } : MethodName)), (Cond.instanceMethod ({ cls := "java/lang/String", name := "charAt", desc := "(I)C" } : MethodName)), (Cond.selects "java/lang/String" ({ cls := "java/lang/String", name := "charAt", desc := "(I)C" } : MethodName) ({ cls := "java/lang/String", name := "charAt", desc := "(I)C" } : MethodName)), (Cond.initialized "java/lang/String")] : List Cond), w ∈ fwT := c_rAddReg_5
theorem c_rAddPair_13 : ∀ w ∈ ([(Cond.methodLink "MonitorBoardModel" (773 : Nat) ({ cls := "MonitorBoardModel", name := "add", desc := "(I)V" } : MethodName)), (Cond.instanceMethod ({ cls := "MonitorBoardModel", name := "add", desc := "(I)V" } : MethodName)), (Cond.selects "MonitorBoardModel" ({ cls := "MonitorBoardModel", name := "add", desc := "(I)V" } : MethodName) ({ cls := "MonitorBoardModel", name := "add", desc := "(I)V" } : MethodName)), (Cond.initialized "MonitorBoardModel")] : List Cond), w ∈ fwT := c_rAddHex_18
theorem c_rAddPair_37 : ∀ w ∈ ([(Cond.methodLink "MonitorBoardModel" (140 : Nat) ({ cls := "java/lang/String", name := "length", desc := "()I" } : MethodName)), (Cond.instanceMethod ({ cls := "java/lang/String", name := "length", desc := "()I" } : MethodName)), (Cond.selects "java/lang/String" ({ cls := "java/lang/String", name := "length", desc := "()I" } : MethodName) ({ cls := "java/lang/String", name := "length", desc := "()I" } : MethodName)), (Cond.initialized "java/lang/String")] : List Cond), w ∈ fwT := fwT_all [1964, 571, 572, 290] (by decide +kernel) (by decide +kernel)
theorem c_rAddPair_40 : ∀ w ∈ ([(Cond.methodLink "MonitorBoardModel" (778 : Nat) ({ cls := "MonitorBoardModel", name := "addText", desc := "(Ljava/lang/String;II)V" } : MethodName)), (Cond.instanceMethod ({ cls := "MonitorBoardModel", name := "addText", desc := "(Ljava/lang/String;II)V" } : MethodName)), (Cond.selects "MonitorBoardModel" ({ cls := "MonitorBoardModel", name := "addText", desc := "(Ljava/lang/String;II)V" } : MethodName) ({ cls := "MonitorBoardModel", name := "addText", desc := "(Ljava/lang/String;II)V" } : MethodName)), (Cond.initialized "MonitorBoardModel")] : List Cond), w ∈ fwT := fwT_all [2833, 2835, 274, 298] (by decide +kernel) (by decide +kernel)
theorem c_rOps_9 : ∀ w ∈ ([(Cond.methodLink "MonitorBoardModel" (773 : Nat) ({ cls := "MonitorBoardModel", name := "add", desc := "(I)V" } : MethodName)), (Cond.instanceMethod ({ cls := "MonitorBoardModel", name := "add", desc := "(I)V" } : MethodName)), (Cond.selects "MonitorBoardModel" ({ cls := "MonitorBoardModel", name := "add", desc := "(I)V" } : MethodName) ({ cls := "MonitorBoardModel", name := "add", desc := "(I)V" } : MethodName)), (Cond.initialized "MonitorBoardModel")] : List Cond), w ∈ fwT := c_rAddHex_18
theorem c_rOps_133 : ∀ w ∈ ([(Cond.methodLink "MonitorBoardModel" (136 : Nat) ({ cls := "MonitorBoardModel", name := "get", desc := "(I)I" } : MethodName)), (Cond.instanceMethod ({ cls := "MonitorBoardModel", name := "get", desc := "(I)I" } : MethodName)), (Cond.selects "MonitorBoardModel" ({ cls := "MonitorBoardModel", name := "get", desc := "(I)I" } : MethodName) ({ cls := "MonitorBoardModel", name := "get", desc := "(I)I" } : MethodName)), (Cond.initialized "MonitorBoardModel")] : List Cond), w ∈ fwT := fwT_all [2369, 2371, 177, 298] (by decide +kernel) (by decide +kernel)
theorem c_rOps_140 : ∀ w ∈ ([(Cond.methodLink "MonitorBoardModel" (136 : Nat) ({ cls := "MonitorBoardModel", name := "get", desc := "(I)I" } : MethodName)), (Cond.instanceMethod ({ cls := "MonitorBoardModel", name := "get", desc := "(I)I" } : MethodName)), (Cond.selects "MonitorBoardModel" ({ cls := "MonitorBoardModel", name := "get", desc := "(I)I" } : MethodName) ({ cls := "MonitorBoardModel", name := "get", desc := "(I)I" } : MethodName)), (Cond.initialized "MonitorBoardModel")] : List Cond), w ∈ fwT := c_rOps_133
theorem c_rOps_148 : ∀ w ∈ ([(Cond.methodLink "MonitorBoardModel" (791 : Nat) ({ cls := "MonitorBoardModel", name := "addHex", desc := "(II)V" } : MethodName)), (Cond.instanceMethod ({ cls := "MonitorBoardModel", name := "addHex", desc := "(II)V" } : MethodName)), (Cond.selects "MonitorBoardModel" ({ cls := "MonitorBoardModel", name := "addHex", desc := "(II)V" } : MethodName) ({ cls := "MonitorBoardModel", name := "addHex", desc := "(II)V" } : MethodName)), (Cond.initialized "MonitorBoardModel")] : List Cond), w ∈ fwT := fwT_all [2845, 2847, 277, 298] (by decide +kernel) (by decide +kernel)
theorem c_rOps_159 : ∀ w ∈ ([(Cond.methodLink "MonitorBoardModel" (136 : Nat) ({ cls := "MonitorBoardModel", name := "get", desc := "(I)I" } : MethodName)), (Cond.instanceMethod ({ cls := "MonitorBoardModel", name := "get", desc := "(I)I" } : MethodName)), (Cond.selects "MonitorBoardModel" ({ cls := "MonitorBoardModel", name := "get", desc := "(I)I" } : MethodName) ({ cls := "MonitorBoardModel", name := "get", desc := "(I)I" } : MethodName)), (Cond.initialized "MonitorBoardModel")] : List Cond), w ∈ fwT := c_rOps_133
theorem c_rOps_163 : ∀ w ∈ ([(Cond.methodLink "MonitorBoardModel" (791 : Nat) ({ cls := "MonitorBoardModel", name := "addHex", desc := "(II)V" } : MethodName)), (Cond.instanceMethod ({ cls := "MonitorBoardModel", name := "addHex", desc := "(II)V" } : MethodName)), (Cond.selects "MonitorBoardModel" ({ cls := "MonitorBoardModel", name := "addHex", desc := "(II)V" } : MethodName) ({ cls := "MonitorBoardModel", name := "addHex", desc := "(II)V" } : MethodName)), (Cond.initialized "MonitorBoardModel")] : List Cond), w ∈ fwT := c_rOps_148
theorem c_rOps_174 : ∀ w ∈ ([(Cond.methodLink "MonitorBoardModel" (794 : Nat) ({ cls := "MonitorBoardModel", name := "addRegister", desc := "(I)V" } : MethodName)), (Cond.instanceMethod ({ cls := "MonitorBoardModel", name := "addRegister", desc := "(I)V" } : MethodName)), (Cond.selects "MonitorBoardModel" ({ cls := "MonitorBoardModel", name := "addRegister", desc := "(I)V" } : MethodName) ({ cls := "MonitorBoardModel", name := "addRegister", desc := "(I)V" } : MethodName)), (Cond.initialized "MonitorBoardModel")] : List Cond), w ∈ fwT := fwT_all [2849, 2851, 278, 298] (by decide +kernel) (by decide +kernel)
theorem c_rOps_183 : ∀ w ∈ ([(Cond.methodLink "MonitorBoardModel" (794 : Nat) ({ cls := "MonitorBoardModel", name := "addRegister", desc := "(I)V" } : MethodName)), (Cond.instanceMethod ({ cls := "MonitorBoardModel", name := "addRegister", desc := "(I)V" } : MethodName)), (Cond.selects "MonitorBoardModel" ({ cls := "MonitorBoardModel", name := "addRegister", desc := "(I)V" } : MethodName) ({ cls := "MonitorBoardModel", name := "addRegister", desc := "(I)V" } : MethodName)), (Cond.initialized "MonitorBoardModel")] : List Cond), w ∈ fwT := c_rOps_174
theorem c_rOps_196 : ∀ w ∈ ([(Cond.methodLink "MonitorBoardModel" (797 : Nat) ({ cls := "MonitorBoardModel", name := "addPair", desc := "(IZ)V" } : MethodName)), (Cond.instanceMethod ({ cls := "MonitorBoardModel", name := "addPair", desc := "(IZ)V" } : MethodName)), (Cond.selects "MonitorBoardModel" ({ cls := "MonitorBoardModel", name := "addPair", desc := "(IZ)V" } : MethodName) ({ cls := "MonitorBoardModel", name := "addPair", desc := "(IZ)V" } : MethodName)), (Cond.initialized "MonitorBoardModel")] : List Cond), w ∈ fwT := fwT_all [2853, 2855, 279, 298] (by decide +kernel) (by decide +kernel)
theorem c_rOps_209 : ∀ w ∈ ([(Cond.methodLink "MonitorBoardModel" (797 : Nat) ({ cls := "MonitorBoardModel", name := "addPair", desc := "(IZ)V" } : MethodName)), (Cond.instanceMethod ({ cls := "MonitorBoardModel", name := "addPair", desc := "(IZ)V" } : MethodName)), (Cond.selects "MonitorBoardModel" ({ cls := "MonitorBoardModel", name := "addPair", desc := "(IZ)V" } : MethodName) ({ cls := "MonitorBoardModel", name := "addPair", desc := "(IZ)V" } : MethodName)), (Cond.initialized "MonitorBoardModel")] : List Cond), w ∈ fwT := c_rOps_196
theorem c_rOps_218 : ∀ w ∈ ([(Cond.methodLink "MonitorBoardModel" (794 : Nat) ({ cls := "MonitorBoardModel", name := "addRegister", desc := "(I)V" } : MethodName)), (Cond.instanceMethod ({ cls := "MonitorBoardModel", name := "addRegister", desc := "(I)V" } : MethodName)), (Cond.selects "MonitorBoardModel" ({ cls := "MonitorBoardModel", name := "addRegister", desc := "(I)V" } : MethodName) ({ cls := "MonitorBoardModel", name := "addRegister", desc := "(I)V" } : MethodName)), (Cond.initialized "MonitorBoardModel")] : List Cond), w ∈ fwT := c_rOps_174
theorem c_rOps_224 : ∀ w ∈ ([(Cond.methodLink "MonitorBoardModel" (773 : Nat) ({ cls := "MonitorBoardModel", name := "add", desc := "(I)V" } : MethodName)), (Cond.instanceMethod ({ cls := "MonitorBoardModel", name := "add", desc := "(I)V" } : MethodName)), (Cond.selects "MonitorBoardModel" ({ cls := "MonitorBoardModel", name := "add", desc := "(I)V" } : MethodName) ({ cls := "MonitorBoardModel", name := "add", desc := "(I)V" } : MethodName)), (Cond.initialized "MonitorBoardModel")] : List Cond), w ∈ fwT := c_rAddHex_18
theorem c_rOps_232 : ∀ w ∈ ([(Cond.methodLink "MonitorBoardModel" (794 : Nat) ({ cls := "MonitorBoardModel", name := "addRegister", desc := "(I)V" } : MethodName)), (Cond.instanceMethod ({ cls := "MonitorBoardModel", name := "addRegister", desc := "(I)V" } : MethodName)), (Cond.selects "MonitorBoardModel" ({ cls := "MonitorBoardModel", name := "addRegister", desc := "(I)V" } : MethodName) ({ cls := "MonitorBoardModel", name := "addRegister", desc := "(I)V" } : MethodName)), (Cond.initialized "MonitorBoardModel")] : List Cond), w ∈ fwT := c_rOps_174
theorem c_rOps_241 : ∀ w ∈ ([(Cond.methodLink "MonitorBoardModel" (794 : Nat) ({ cls := "MonitorBoardModel", name := "addRegister", desc := "(I)V" } : MethodName)), (Cond.instanceMethod ({ cls := "MonitorBoardModel", name := "addRegister", desc := "(I)V" } : MethodName)), (Cond.selects "MonitorBoardModel" ({ cls := "MonitorBoardModel", name := "addRegister", desc := "(I)V" } : MethodName) ({ cls := "MonitorBoardModel", name := "addRegister", desc := "(I)V" } : MethodName)), (Cond.initialized "MonitorBoardModel")] : List Cond), w ∈ fwT := c_rOps_174
theorem c_rOps_247 : ∀ w ∈ ([(Cond.methodLink "MonitorBoardModel" (773 : Nat) ({ cls := "MonitorBoardModel", name := "add", desc := "(I)V" } : MethodName)), (Cond.instanceMethod ({ cls := "MonitorBoardModel", name := "add", desc := "(I)V" } : MethodName)), (Cond.selects "MonitorBoardModel" ({ cls := "MonitorBoardModel", name := "add", desc := "(I)V" } : MethodName) ({ cls := "MonitorBoardModel", name := "add", desc := "(I)V" } : MethodName)), (Cond.initialized "MonitorBoardModel")] : List Cond), w ∈ fwT := c_rAddHex_18
theorem c_rOps_255 : ∀ w ∈ ([(Cond.methodLink "MonitorBoardModel" (136 : Nat) ({ cls := "MonitorBoardModel", name := "get", desc := "(I)I" } : MethodName)), (Cond.instanceMethod ({ cls := "MonitorBoardModel", name := "get", desc := "(I)I" } : MethodName)), (Cond.selects "MonitorBoardModel" ({ cls := "MonitorBoardModel", name := "get", desc := "(I)I" } : MethodName) ({ cls := "MonitorBoardModel", name := "get", desc := "(I)I" } : MethodName)), (Cond.initialized "MonitorBoardModel")] : List Cond), w ∈ fwT := c_rOps_133
theorem c_rOps_259 : ∀ w ∈ ([(Cond.methodLink "MonitorBoardModel" (791 : Nat) ({ cls := "MonitorBoardModel", name := "addHex", desc := "(II)V" } : MethodName)), (Cond.instanceMethod ({ cls := "MonitorBoardModel", name := "addHex", desc := "(II)V" } : MethodName)), (Cond.selects "MonitorBoardModel" ({ cls := "MonitorBoardModel", name := "addHex", desc := "(II)V" } : MethodName) ({ cls := "MonitorBoardModel", name := "addHex", desc := "(II)V" } : MethodName)), (Cond.initialized "MonitorBoardModel")] : List Cond), w ∈ fwT := c_rOps_148
theorem c_rOps_272 : ∀ w ∈ ([(Cond.methodLink "MonitorBoardModel" (797 : Nat) ({ cls := "MonitorBoardModel", name := "addPair", desc := "(IZ)V" } : MethodName)), (Cond.instanceMethod ({ cls := "MonitorBoardModel", name := "addPair", desc := "(IZ)V" } : MethodName)), (Cond.selects "MonitorBoardModel" ({ cls := "MonitorBoardModel", name := "addPair", desc := "(IZ)V" } : MethodName) ({ cls := "MonitorBoardModel", name := "addPair", desc := "(IZ)V" } : MethodName)), (Cond.initialized "MonitorBoardModel")] : List Cond), w ∈ fwT := c_rOps_196
theorem c_rOps_278 : ∀ w ∈ ([(Cond.methodLink "MonitorBoardModel" (773 : Nat) ({ cls := "MonitorBoardModel", name := "add", desc := "(I)V" } : MethodName)), (Cond.instanceMethod ({ cls := "MonitorBoardModel", name := "add", desc := "(I)V" } : MethodName)), (Cond.selects "MonitorBoardModel" ({ cls := "MonitorBoardModel", name := "add", desc := "(I)V" } : MethodName) ({ cls := "MonitorBoardModel", name := "add", desc := "(I)V" } : MethodName)), (Cond.initialized "MonitorBoardModel")] : List Cond), w ∈ fwT := c_rAddHex_18
theorem c_rOps_286 : ∀ w ∈ ([(Cond.methodLink "MonitorBoardModel" (136 : Nat) ({ cls := "MonitorBoardModel", name := "get", desc := "(I)I" } : MethodName)), (Cond.instanceMethod ({ cls := "MonitorBoardModel", name := "get", desc := "(I)I" } : MethodName)), (Cond.selects "MonitorBoardModel" ({ cls := "MonitorBoardModel", name := "get", desc := "(I)I" } : MethodName) ({ cls := "MonitorBoardModel", name := "get", desc := "(I)I" } : MethodName)), (Cond.initialized "MonitorBoardModel")] : List Cond), w ∈ fwT := c_rOps_133
theorem c_rOps_293 : ∀ w ∈ ([(Cond.methodLink "MonitorBoardModel" (136 : Nat) ({ cls := "MonitorBoardModel", name := "get", desc := "(I)I" } : MethodName)), (Cond.instanceMethod ({ cls := "MonitorBoardModel", name := "get", desc := "(I)I" } : MethodName)), (Cond.selects "MonitorBoardModel" ({ cls := "MonitorBoardModel", name := "get", desc := "(I)I" } : MethodName) ({ cls := "MonitorBoardModel", name := "get", desc := "(I)I" } : MethodName)), (Cond.initialized "MonitorBoardModel")] : List Cond), w ∈ fwT := c_rOps_133
theorem c_rOps_301 : ∀ w ∈ ([(Cond.methodLink "MonitorBoardModel" (791 : Nat) ({ cls := "MonitorBoardModel", name := "addHex", desc := "(II)V" } : MethodName)), (Cond.instanceMethod ({ cls := "MonitorBoardModel", name := "addHex", desc := "(II)V" } : MethodName)), (Cond.selects "MonitorBoardModel" ({ cls := "MonitorBoardModel", name := "addHex", desc := "(II)V" } : MethodName) ({ cls := "MonitorBoardModel", name := "addHex", desc := "(II)V" } : MethodName)), (Cond.initialized "MonitorBoardModel")] : List Cond), w ∈ fwT := c_rOps_148
theorem c_rOps_313 : ∀ w ∈ ([(Cond.methodLink "MonitorBoardModel" (773 : Nat) ({ cls := "MonitorBoardModel", name := "add", desc := "(I)V" } : MethodName)), (Cond.instanceMethod ({ cls := "MonitorBoardModel", name := "add", desc := "(I)V" } : MethodName)), (Cond.selects "MonitorBoardModel" ({ cls := "MonitorBoardModel", name := "add", desc := "(I)V" } : MethodName) ({ cls := "MonitorBoardModel", name := "add", desc := "(I)V" } : MethodName)), (Cond.initialized "MonitorBoardModel")] : List Cond), w ∈ fwT := c_rAddHex_18
theorem c_rList_7 : ∀ w ∈ ([(Cond.methodLink "MonitorBoardModel" (136 : Nat) ({ cls := "MonitorBoardModel", name := "get", desc := "(I)I" } : MethodName)), (Cond.instanceMethod ({ cls := "MonitorBoardModel", name := "get", desc := "(I)I" } : MethodName)), (Cond.selects "MonitorBoardModel" ({ cls := "MonitorBoardModel", name := "get", desc := "(I)I" } : MethodName) ({ cls := "MonitorBoardModel", name := "get", desc := "(I)I" } : MethodName)), (Cond.initialized "MonitorBoardModel")] : List Cond), w ∈ fwT := c_rOps_133
theorem c_rList_24 : ∀ w ∈ ([(Cond.methodLink "MonitorBoardModel" (140 : Nat) ({ cls := "java/lang/String", name := "length", desc := "()I" } : MethodName)), (Cond.instanceMethod ({ cls := "java/lang/String", name := "length", desc := "()I" } : MethodName)), (Cond.selects "java/lang/String" ({ cls := "java/lang/String", name := "length", desc := "()I" } : MethodName) ({ cls := "java/lang/String", name := "length", desc := "()I" } : MethodName)), (Cond.initialized "java/lang/String")] : List Cond), w ∈ fwT := c_rAddPair_37
theorem c_rList_41 : ∀ w ∈ ([(Cond.methodLink "MonitorBoardModel" (145 : Nat) ({ cls := "java/lang/String", name := "charAt", desc := "(I)C" } : MethodName)), (Cond.instanceMethod ({ cls := "java/lang/String", name := "charAt", desc := "(I)C" } : MethodName)), (Cond.selects "java/lang/String" ({ cls := "java/lang/String", name := "charAt", desc := "(I)C" } : MethodName) ({ cls := "java/lang/String", name := "charAt", desc := "(I)C" } : MethodName)), (Cond.initialized "java/lang/String")] : List Cond), w ∈ fwT := c_rAddReg_5
theorem c_rList_57 : ∀ w ∈ ([(Cond.methodLink "MonitorBoardModel" (145 : Nat) ({ cls := "java/lang/String", name := "charAt", desc := "(I)C" } : MethodName)), (Cond.instanceMethod ({ cls := "java/lang/String", name := "charAt", desc := "(I)C" } : MethodName)), (Cond.selects "java/lang/String" ({ cls := "java/lang/String", name := "charAt", desc := "(I)C" } : MethodName) ({ cls := "java/lang/String", name := "charAt", desc := "(I)C" } : MethodName)), (Cond.initialized "java/lang/String")] : List Cond), w ∈ fwT := c_rAddReg_5
theorem c_rList_79 : ∀ w ∈ ([(Cond.methodLink "MonitorBoardModel" (145 : Nat) ({ cls := "java/lang/String", name := "charAt", desc := "(I)C" } : MethodName)), (Cond.instanceMethod ({ cls := "java/lang/String", name := "charAt", desc := "(I)C" } : MethodName)), (Cond.selects "java/lang/String" ({ cls := "java/lang/String", name := "charAt", desc := "(I)C" } : MethodName) ({ cls := "java/lang/String", name := "charAt", desc := "(I)C" } : MethodName)), (Cond.initialized "java/lang/String")] : List Cond), w ∈ fwT := c_rAddReg_5
theorem c_rList_96 : ∀ w ∈ ([(Cond.methodLink "MonitorBoardModel" (145 : Nat) ({ cls := "java/lang/String", name := "charAt", desc := "(I)C" } : MethodName)), (Cond.instanceMethod ({ cls := "java/lang/String", name := "charAt", desc := "(I)C" } : MethodName)), (Cond.selects "java/lang/String" ({ cls := "java/lang/String", name := "charAt", desc := "(I)C" } : MethodName) ({ cls := "java/lang/String", name := "charAt", desc := "(I)C" } : MethodName)), (Cond.initialized "java/lang/String")] : List Cond), w ∈ fwT := c_rAddReg_5
theorem c_rList_99 : ∀ w ∈ ([(Cond.methodLink "MonitorBoardModel" (671 : Nat) ({ cls := "MonitorBoardModel", name := "hexa", desc := "(I)I" } : MethodName)), (Cond.static ({ cls := "MonitorBoardModel", name := "hexa", desc := "(I)I" } : MethodName)), (Cond.initialized "MonitorBoardModel")] : List Cond), w ∈ fwT := fwT_all [2733, 2734, 298] (by decide +kernel) (by decide +kernel)
theorem c_rList_113 : ∀ w ∈ ([(Cond.methodLink "MonitorBoardModel" (145 : Nat) ({ cls := "java/lang/String", name := "charAt", desc := "(I)C" } : MethodName)), (Cond.instanceMethod ({ cls := "java/lang/String", name := "charAt", desc := "(I)C" } : MethodName)), (Cond.selects "java/lang/String" ({ cls := "java/lang/String", name := "charAt", desc := "(I)C" } : MethodName) ({ cls := "java/lang/String", name := "charAt", desc := "(I)C" } : MethodName)), (Cond.initialized "java/lang/String")] : List Cond), w ∈ fwT := c_rAddReg_5
theorem c_rList_116 : ∀ w ∈ ([(Cond.methodLink "MonitorBoardModel" (671 : Nat) ({ cls := "MonitorBoardModel", name := "hexa", desc := "(I)I" } : MethodName)), (Cond.static ({ cls := "MonitorBoardModel", name := "hexa", desc := "(I)I" } : MethodName)), (Cond.initialized "MonitorBoardModel")] : List Cond), w ∈ fwT := c_rList_99
theorem c_rList_127 : ∀ w ∈ ([(Cond.methodLink "MonitorBoardModel" (782 : Nat) ({ cls := "MonitorBoardModel", name := "isCode", desc := "(III)Z" } : MethodName)), (Cond.static ({ cls := "MonitorBoardModel", name := "isCode", desc := "(III)Z" } : MethodName)), (Cond.initialized "MonitorBoardModel")] : List Cond), w ∈ fwT := fwT_all [2830, 2831, 298] (by decide +kernel) (by decide +kernel)
theorem c_rList_144 : ∀ w ∈ ([(Cond.methodLink "MonitorBoardModel" (778 : Nat) ({ cls := "MonitorBoardModel", name := "addText", desc := "(Ljava/lang/String;II)V" } : MethodName)), (Cond.instanceMethod ({ cls := "MonitorBoardModel", name := "addText", desc := "(Ljava/lang/String;II)V" } : MethodName)), (Cond.selects "MonitorBoardModel" ({ cls := "MonitorBoardModel", name := "addText", desc := "(Ljava/lang/String;II)V" } : MethodName) ({ cls := "MonitorBoardModel", name := "addText", desc := "(Ljava/lang/String;II)V" } : MethodName)), (Cond.initialized "MonitorBoardModel")] : List Cond), w ∈ fwT := c_rAddPair_40
theorem c_rList_152 : ∀ w ∈ ([(Cond.methodLink "MonitorBoardModel" (786 : Nat) ({ cls := "MonitorBoardModel", name := "operands", desc := "(III)V" } : MethodName)), (Cond.instanceMethod ({ cls := "MonitorBoardModel", name := "operands", desc := "(III)V" } : MethodName)), (Cond.selects "MonitorBoardModel" ({ cls := "MonitorBoardModel", name := "operands", desc := "(III)V" } : MethodName) ({ cls := "MonitorBoardModel", name := "operands", desc := "(III)V" } : MethodName)), (Cond.initialized "MonitorBoardModel")] : List Cond), w ∈ fwT := fwT_all [2841, 2843, 276, 298] (by decide +kernel) (by decide +kernel)
theorem c_rList_178 : ∀ w ∈ ([(Cond.methodLink "MonitorBoardModel" (778 : Nat) ({ cls := "MonitorBoardModel", name := "addText", desc := "(Ljava/lang/String;II)V" } : MethodName)), (Cond.instanceMethod ({ cls := "MonitorBoardModel", name := "addText", desc := "(Ljava/lang/String;II)V" } : MethodName)), (Cond.selects "MonitorBoardModel" ({ cls := "MonitorBoardModel", name := "addText", desc := "(Ljava/lang/String;II)V" } : MethodName) ({ cls := "MonitorBoardModel", name := "addText", desc := "(Ljava/lang/String;II)V" } : MethodName)), (Cond.initialized "MonitorBoardModel")] : List Cond), w ∈ fwT := c_rAddPair_40
theorem c_rList_184 : ∀ w ∈ ([(Cond.methodLink "MonitorBoardModel" (791 : Nat) ({ cls := "MonitorBoardModel", name := "addHex", desc := "(II)V" } : MethodName)), (Cond.instanceMethod ({ cls := "MonitorBoardModel", name := "addHex", desc := "(II)V" } : MethodName)), (Cond.selects "MonitorBoardModel" ({ cls := "MonitorBoardModel", name := "addHex", desc := "(II)V" } : MethodName) ({ cls := "MonitorBoardModel", name := "addHex", desc := "(II)V" } : MethodName)), (Cond.initialized "MonitorBoardModel")] : List Cond), w ∈ fwT := c_rOps_148
/-! the reference's list on a new object (laid by wip/whole/t20.py) -/
abbrev rlQ : String × Nat × String × Nat := ("MonitorBoardModel", 666, "NOPn00 RLCn07 RRCn0F RALn17 RARn1F DAAn27 CMAn2F STCn37 CMCn3F HLTn76 RETnC9 XTHLnE3 XCHGnEB PCHLnE9 SPHLnF9 DInF3 EInFB RNZnC0 RZnC8 RNCnD0 RCnD8 RPOnE0 RPEnE8 RPnF0 RMnF8 JMPwC3 CALLwCD SHLDw22 LHLDw2A STAw32 LDAw3A JNZwC2 JZwCA JNCwD2 JCwDA JPOwE2 JPEwEA JPwF2 JMwFA CNZwC4 CZwCC CNCwD4 CCwDC CPOwE4 CPEwEC CPwF4 CMwFC ADIbC6 ACIbCE SUIbD6 SBIbDE ANIbE6 XRIbEE ORIbF6 CPIbFE OUTbD3 INbDB ADDs80 ADCs88 SUBs90 SBBs98 ANAsA0 XRAsA8 ORAsB0 CMPsB8 INRd04 DCRd05 INXp03 DCXp0B DADp09 PUSHqC5 POPqC1 STAXx02 LDAXx0A MOVv40 MVIi06 LXIl01 RSTrC7 ", 40)
theorem rlQ_in : rlQ ∈ fwSr := List.mem_of_getElem? (i := 56) rfl
def hxa (x : Int32) : Int32 := if x < 48 then x - 65 + 10 else if 57 < x then x - 65 + 10 else x - 48
def rIs (c : Int32) (kd : Nat) (b : Int32) : Int32 := if kd = 115 then (if c &&& 248 = b then 1 else 0) else if kd = 100 ∨ kd = 105 ∨ kd = 114 then (if c &&& 199 = b then 1 else 0) else if kd = 108 ∨ kd = 112 ∨ kd = 113 then (if c &&& 207 = b then 1 else 0) else if kd = 120 then (if c &&& 239 = b then 1 else 0) else if kd = 118 then (if c >>> ((6 : Int32) &&& 31) = 1 ∧ ¬ c = 118 then 1 else 0) else (if c = b then 1 else 0)
/-- the codes' text: where an entry begins, its name's length, its kind, its byte -/
def rlE : List (Nat × Nat × Nat × Int32) := [(0, 3, 110, 0), (7, 3, 110, 7), (14, 3, 110, 15), (21, 3, 110, 23), (28, 3, 110, 31), (35, 3, 110, 39), (42, 3, 110, 47), (49, 3, 110, 55), (56, 3, 110, 63), (63, 3, 110, 118), (70, 3, 110, 201), (77, 4, 110, 227), (85, 4, 110, 235), (93, 4, 110, 233), (101, 4, 110, 249), (109, 2, 110, 243), (115, 2, 110, 251), (121, 3, 110, 192), (128, 2, 110, 200), (134, 3, 110, 208), (141, 2, 110, 216), (147, 3, 110, 224), (154, 3, 110, 232), (161, 2, 110, 240), (167, 2, 110, 248), (173, 3, 119, 195), (180, 4, 119, 205), (188, 4, 119, 34), (196, 4, 119, 42), (204, 3, 119, 50), (211, 3, 119, 58), (218, 3, 119, 194), (225, 2, 119, 202), (231, 3, 119, 210), (238, 2, 119, 218), (244, 3, 119, 226), (251, 3, 119, 234), (258, 2, 119, 242), (264, 2, 119, 250), (270, 3, 119, 196), (277, 2, 119, 204), (283, 3, 119, 212), (290, 2, 119, 220), (296, 3, 119, 228), (303, 3, 119, 236), (310, 2, 119, 244), (316, 2, 119, 252), (322, 3, 98, 198), (329, 3, 98, 206), (336, 3, 98, 214), (343, 3, 98, 222), (350, 3, 98, 230), (357, 3, 98, 238), (364, 3, 98, 246), (371, 3, 98, 254), (378, 3, 98, 211), (385, 2, 98, 219), (391, 3, 115, 128), (398, 3, 115, 136), (405, 3, 115, 144), (412, 3, 115, 152), (419, 3, 115, 160), (426, 3, 115, 168), (433, 3, 115, 176), (440, 3, 115, 184), (447, 3, 100, 4), (454, 3, 100, 5), (461, 3, 112, 3), (468, 3, 112, 11), (475, 3, 112, 9), (482, 4, 113, 197), (490, 3, 113, 193), (497, 4, 120, 2), (505, 4, 120, 10), (513, 3, 118, 64), (520, 3, 105, 6), (527, 3, 108, 1), (534, 3, 114, 199)]
def rlA (i : Nat) : Nat × Nat × Nat × Int32 := rlE.getD i (0, 0, 0, 0)
def rlC (j : Nat) : Int32 := fwCh 40 j
theorem rl_ok : ∀ i, i < 78 → (∀ j, j < (rlA i).2.1 → ¬ rlC ((rlA i).1 + j) < 65 ∧ ¬ 90 < rlC ((rlA i).1 + j)) ∧ (90 < rlC ((rlA i).1 + (rlA i).2.1)) ∧ rlC ((rlA i).1 + (rlA i).2.1) = nI (rlA i).2.2.1 ∧ (rlA i).2.2.1 ∈ [98, 100, 105, 108, 110, 112, 113, 114, 115, 118, 119, 120] ∧ 16 * hxa (rlC ((rlA i).1 + (rlA i).2.1 + 1)) + hxa (rlC ((rlA i).1 + (rlA i).2.1 + 2)) = (rlA i).2.2.2 ∧ (rlA i).1 + (rlA i).2.1 + 4 ≤ 541 ∧ (rlA (i + 1)).1 = (if i + 1 < 78 then (rlA i).1 + (rlA i).2.1 + 4 else 0) := by decide +kernel
section RLS
variable {l : Launch} {Z : fwZ} {re : List fwE} {sh : List fwE} {σ : fwS}
theorem ct_rGet {x : Int32} (hx : x < 1048576) : fwC l Z m_rGet 1 0 0 [.ref 37, .int x] (shMd re) σ (fwPure (.int (σ.1 38 (x &&& 65535).toNatClampNeg &&& 255)) (shMd re) σ) := by
  refine fwC_of (ls := [some (.ref 37), some (.int x)]) (by decide +kernel) rfl (by rw [fw_sl1]; exact Nat.le_refl 2) ?_
  refine fwRun_ok k_rGet_0_ok rfl trivial ?_
  refine fwg_cmp 18 d_rGet_3 (by decide) (fun _ => ?_) (fun q => absurd hx q)
  refine fwRun_ok k_rGet_18_ok rfl (pk_andIn x 16 (by decide) (by decide)) ?_
  refine fwRun_ok k_rGet_27_ok rfl trivial ?_
  exact fwg_iret rfl (Nat.le_refl _) (Nat.le_refl _) ⟨rfl, rfl, rfl⟩ d_rGet_31
theorem ct_rHexa {x : Int32} : fwC l Z m_rHexa 1 0 0 [.int x] sh σ (fwPure (.int (hxa x)) sh σ) := by
  refine fwC_of (ls := [some (.int x)]) (by decide +kernel) rfl (by rw [fw_sl1]; exact Nat.le_refl 1) ?_
  have k19 : hxa x = x - 65 + 10 → fwG l Z m_rHexa 1 0 0 (fwPure (.int (hxa x)) sh σ) 0 0 19 [some (.int x)] [] sh σ := by
    intro h
    refine fwRun_ok k_rHexa_19_ok rfl trivial ?_
    exact fwg_iret rfl (Nat.le_refl _) (Nat.le_refl _) ⟨by rw [h], rfl, rfl⟩ d_rHexa_26
  refine fwRun_ok k_rHexa_0_ok rfl trivial ?_
  refine fwg_cmp 19 d_rHexa_3 (by decide) (fun h => k19 (if_pos h)) (fun h => ?_)
  refine fwRun_ok k_rHexa_6_ok rfl trivial ?_
  refine fwg_cmp 19 d_rHexa_9 (by decide) (fun h2 => k19 ((if_neg h).trans (if_pos h2))) (fun h2 => ?_)
  refine fwRun_ok k_rHexa_12_ok rfl trivial ?_
  refine fwg_goto 26 d_rHexa_16 (by decide) ?_
  exact fwg_iret rfl (Nat.le_refl _) (Nat.le_refl _) ⟨by show some (Value.int (x - 48)) = some (Value.int (hxa x)); rw [show hxa x = x - 48 from (if_neg h).trans (if_neg h2)], rfl, rfl⟩ d_rHexa_26
theorem ct_rHexDigit {x : Int32} : fwC l Z m_rHexDigit 1 0 0 [.int x] sh σ (fun w sh' σ' => (∃ y : Int32, w = some (.int y)) ∧ sh' = sh ∧ σ' = σ) := by
  refine fwC_of (ls := [some (.int x)]) (by decide +kernel) rfl (by rw [fw_sl1]; exact Nat.le_refl 1) ?_
  refine fwRun_ok k_rHexDigit_0_ok rfl trivial ?_
  refine fwg_cmp 13 d_rHexDigit_3 (by decide) (fun h => ?_) (fun h => ?_)
  · refine fwRun_ok k_rHexDigit_13_ok rfl trivial ?_
    exact fwg_iret rfl (Nat.le_refl _) (Nat.le_refl _) ⟨⟨_, rfl⟩, rfl, rfl⟩ d_rHexDigit_20
  · refine fwRun_ok k_rHexDigit_6_ok rfl trivial ?_
    refine fwg_goto 20 d_rHexDigit_10 (by decide) ?_
    exact fwg_iret rfl (Nat.le_refl _) (Nat.le_refl _) ⟨⟨_, rfl⟩, rfl, rfl⟩ d_rHexDigit_20
theorem is_100 {c k b : Int32} {Post : fwPost} (h1 : c &&& 248 = b → Post (some (.int 1)) sh σ) (h0 : ¬ c &&& 248 = b → Post (some (.int 0)) sh σ) : fwG l Z m_isCode 1 0 0 Post 0 0 100 [some (.int c), some (.int k), some (.int b)] [] sh σ := by
  refine fwRun_ok k_isCode_100_ok rfl trivial ?_
  refine fwg_cmp 113 d_isCode_106 (by decide) (fun q => ?_) (fun q => ?_)
  · refine fwRun_ok k_isCode_113_ok rfl trivial ?_
    exact fwg_zret rfl rfl (Nat.le_refl _) (Nat.le_refl _) (h0 q) d_isCode_114
  · refine fwRun_ok k_isCode_109_ok rfl trivial ?_
    refine fwg_goto 114 d_isCode_110 (by decide) ?_
    exact fwg_zret rfl rfl (Nat.le_refl _) (Nat.le_refl _) (h1 (Decidable.of_not_not q)) d_isCode_114
theorem is_115 {c k b : Int32} {Post : fwPost} (h1 : c &&& 199 = b → Post (some (.int 1)) sh σ) (h0 : ¬ c &&& 199 = b → Post (some (.int 0)) sh σ) : fwG l Z m_isCode 1 0 0 Post 0 0 115 [some (.int c), some (.int k), some (.int b)] [] sh σ := by
  refine fwRun_ok k_isCode_115_ok rfl trivial ?_
  refine fwg_cmp 128 d_isCode_121 (by decide) (fun q => ?_) (fun q => ?_)
  · refine fwRun_ok k_isCode_128_ok rfl trivial ?_
    exact fwg_zret rfl rfl (Nat.le_refl _) (Nat.le_refl _) (h0 q) d_isCode_129
  · refine fwRun_ok k_isCode_124_ok rfl trivial ?_
    refine fwg_goto 129 d_isCode_125 (by decide) ?_
    exact fwg_zret rfl rfl (Nat.le_refl _) (Nat.le_refl _) (h1 (Decidable.of_not_not q)) d_isCode_129
theorem is_130 {c k b : Int32} {Post : fwPost} (h1 : c &&& 207 = b → Post (some (.int 1)) sh σ) (h0 : ¬ c &&& 207 = b → Post (some (.int 0)) sh σ) : fwG l Z m_isCode 1 0 0 Post 0 0 130 [some (.int c), some (.int k), some (.int b)] [] sh σ := by
  refine fwRun_ok k_isCode_130_ok rfl trivial ?_
  refine fwg_cmp 143 d_isCode_136 (by decide) (fun q => ?_) (fun q => ?_)
  · refine fwRun_ok k_isCode_143_ok rfl trivial ?_
    exact fwg_zret rfl rfl (Nat.le_refl _) (Nat.le_refl _) (h0 q) d_isCode_144
  · refine fwRun_ok k_isCode_139_ok rfl trivial ?_
    refine fwg_goto 144 d_isCode_140 (by decide) ?_
    exact fwg_zret rfl rfl (Nat.le_refl _) (Nat.le_refl _) (h1 (Decidable.of_not_not q)) d_isCode_144
theorem is_145 {c k b : Int32} {Post : fwPost} (h1 : c &&& 239 = b → Post (some (.int 1)) sh σ) (h0 : ¬ c &&& 239 = b → Post (some (.int 0)) sh σ) : fwG l Z m_isCode 1 0 0 Post 0 0 145 [some (.int c), some (.int k), some (.int b)] [] sh σ := by
  refine fwRun_ok k_isCode_145_ok rfl trivial ?_
  refine fwg_cmp 158 d_isCode_151 (by decide) (fun q => ?_) (fun q => ?_)
  · refine fwRun_ok k_isCode_158_ok rfl trivial ?_
    exact fwg_zret rfl rfl (Nat.le_refl _) (Nat.le_refl _) (h0 q) d_isCode_159
  · refine fwRun_ok k_isCode_154_ok rfl trivial ?_
    refine fwg_goto 159 d_isCode_155 (by decide) ?_
    exact fwg_zret rfl rfl (Nat.le_refl _) (Nat.le_refl _) (h1 (Decidable.of_not_not q)) d_isCode_159
theorem is_180 {c k b : Int32} {Post : fwPost} (h1 : c = b → Post (some (.int 1)) sh σ) (h0 : ¬ c = b → Post (some (.int 0)) sh σ) : fwG l Z m_isCode 1 0 0 Post 0 0 180 [some (.int c), some (.int k), some (.int b)] [] sh σ := by
  refine fwRun_ok k_isCode_180_ok rfl trivial ?_
  refine fwg_cmp 189 d_isCode_182 (by decide) (fun q => ?_) (fun q => ?_)
  · refine fwRun_ok k_isCode_189_ok rfl trivial ?_
    exact fwg_zret rfl rfl (Nat.le_refl _) (Nat.le_refl _) (h0 q) d_isCode_190
  · refine fwRun_ok k_isCode_185_ok rfl trivial ?_
    refine fwg_goto 190 d_isCode_186 (by decide) ?_
    exact fwg_zret rfl rfl (Nat.le_refl _) (Nat.le_refl _) (h1 (Decidable.of_not_not q)) d_isCode_190
theorem is_160 {c k b : Int32} {Post : fwPost} (h1 : c >>> ((6 : Int32) &&& 31) = 1 → ¬ c = 118 → Post (some (.int 1)) sh σ) (h0 : ¬ (c >>> ((6 : Int32) &&& 31) = 1 ∧ ¬ c = 118) → Post (some (.int 0)) sh σ) : fwG l Z m_isCode 1 0 0 Post 0 0 160 [some (.int c), some (.int k), some (.int b)] [] sh σ := by
  refine fwRun_ok k_isCode_160_ok rfl trivial ?_
  have k178 : (¬ (c >>> ((6 : Int32) &&& 31) = 1 ∧ ¬ c = 118)) → fwG l Z m_isCode 1 0 0 Post 0 0 178 [some (.int c), some (.int k), some (.int b)] [] sh σ := by
    intro q
    refine fwRun_ok k_isCode_178_ok rfl trivial ?_
    exact fwg_zret rfl rfl (Nat.le_refl _) (Nat.le_refl _) (h0 q) d_isCode_179
  refine fwg_cmp 178 d_isCode_165 (by decide) (fun q => k178 (fun z => q z.1)) (fun q => ?_)
  refine fwRun_ok k_isCode_168_ok rfl trivial ?_
  refine fwg_cmp 178 d_isCode_171 (by decide) (fun q2 => k178 (fun z => z.2 q2)) (fun q2 => ?_)
  refine fwRun_ok k_isCode_174_ok rfl trivial ?_
  refine fwg_goto 179 d_isCode_175 (by decide) ?_
  exact fwg_zret rfl rfl (Nat.le_refl _) (Nat.le_refl _) (h1 (Decidable.of_not_not q) q2) d_isCode_179
theorem ct_isCode {c b : Int32} {kd : Nat} (hk : kd ∈ [98, 100, 105, 108, 110, 112, 113, 114, 115, 118, 119, 120]) : fwC l Z m_isCode 1 0 0 [.int c, .int (nI kd), .int b] sh σ (fwPure (.int (rIs c kd b)) sh σ) := by
  refine fwC_of (ls := [some (.int c), some (.int (nI kd)), some (.int b)]) (by decide +kernel) rfl (by rw [fw_sl1]; exact Nat.le_refl 3) ?_
  simp only [List.mem_cons, List.not_mem_nil, or_false] at hk
  rcases hk with rfl | rfl | rfl | rfl | rfl | rfl | rfl | rfl | rfl | rfl | rfl | rfl
  · refine fwRun_ok k_isCode_0_ok rfl trivial ?_
    refine fwg_tabOut 180 d_isCode_1 (Or.inl (by decide)) (by decide) ?_
    exact is_180 (fun h => ⟨by simp [rIs, h], rfl, rfl⟩) (fun h => ⟨by simp [rIs, h], rfl, rfl⟩)
  · refine fwRun_ok k_isCode_0_ok rfl trivial ?_
    refine fwg_tabIn (off := 114) 115 d_isCode_1 (by decide) (by decide) (by decide) (by decide) ?_
    exact is_115 (fun h => ⟨by simp [rIs, h], rfl, rfl⟩) (fun h => ⟨by simp [rIs, h], rfl, rfl⟩)
  · refine fwRun_ok k_isCode_0_ok rfl trivial ?_
    refine fwg_tabIn (off := 114) 115 d_isCode_1 (by decide) (by decide) (by decide) (by decide) ?_
    exact is_115 (fun h => ⟨by simp [rIs, h], rfl, rfl⟩) (fun h => ⟨by simp [rIs, h], rfl, rfl⟩)
  · refine fwRun_ok k_isCode_0_ok rfl trivial ?_
    refine fwg_tabIn (off := 129) 130 d_isCode_1 (by decide) (by decide) (by decide) (by decide) ?_
    exact is_130 (fun h => ⟨by simp [rIs, h], rfl, rfl⟩) (fun h => ⟨by simp [rIs, h], rfl, rfl⟩)
  · refine fwRun_ok k_isCode_0_ok rfl trivial ?_
    refine fwg_tabIn (off := 179) 180 d_isCode_1 (by decide) (by decide) (by decide) (by decide) ?_
    exact is_180 (fun h => ⟨by simp [rIs, h], rfl, rfl⟩) (fun h => ⟨by simp [rIs, h], rfl, rfl⟩)
  · refine fwRun_ok k_isCode_0_ok rfl trivial ?_
    refine fwg_tabIn (off := 129) 130 d_isCode_1 (by decide) (by decide) (by decide) (by decide) ?_
    exact is_130 (fun h => ⟨by simp [rIs, h], rfl, rfl⟩) (fun h => ⟨by simp [rIs, h], rfl, rfl⟩)
  · refine fwRun_ok k_isCode_0_ok rfl trivial ?_
    refine fwg_tabIn (off := 129) 130 d_isCode_1 (by decide) (by decide) (by decide) (by decide) ?_
    exact is_130 (fun h => ⟨by simp [rIs, h], rfl, rfl⟩) (fun h => ⟨by simp [rIs, h], rfl, rfl⟩)
  · refine fwRun_ok k_isCode_0_ok rfl trivial ?_
    refine fwg_tabIn (off := 114) 115 d_isCode_1 (by decide) (by decide) (by decide) (by decide) ?_
    exact is_115 (fun h => ⟨by simp [rIs, h], rfl, rfl⟩) (fun h => ⟨by simp [rIs, h], rfl, rfl⟩)
  · refine fwRun_ok k_isCode_0_ok rfl trivial ?_
    refine fwg_tabIn (off := 99) 100 d_isCode_1 (by decide) (by decide) (by decide) (by decide) ?_
    exact is_100 (fun h => ⟨by simp [rIs, h], rfl, rfl⟩) (fun h => ⟨by simp [rIs, h], rfl, rfl⟩)
  · refine fwRun_ok k_isCode_0_ok rfl trivial ?_
    refine fwg_tabIn (off := 159) 160 d_isCode_1 (by decide) (by decide) (by decide) (by decide) ?_
    exact is_160 (fun h h2 => ⟨by simp [rIs, h, h2], rfl, rfl⟩) (fun h => ⟨by simp only [rIs]; rw [if_neg h]; rfl, rfl, rfl⟩)
  · refine fwRun_ok k_isCode_0_ok rfl trivial ?_
    refine fwg_tabIn (off := 179) 180 d_isCode_1 (by decide) (by decide) (by decide) (by decide) ?_
    exact is_180 (fun h => ⟨by simp [rIs, h], rfl, rfl⟩) (fun h => ⟨by simp [rIs, h], rfl, rfl⟩)
  · refine fwRun_ok k_isCode_0_ok rfl trivial ?_
    refine fwg_tabIn (off := 144) 145 d_isCode_1 (by decide) (by decide) (by decide) (by decide) ?_
    exact is_145 (fun h => ⟨by simp [rIs, h], rfl, rfl⟩) (fun h => ⟨by simp [rIs, h], rfl, rfl⟩)
theorem ct_rAdd2 {x : Int32} {t : Nat} (h : σ.1 37 11 = nI t) (ht : t < 70000) : fwC l Z m_rAdd 1 0 0 [.ref 37, .int x] (shMd re) σ (fun w sh' σ' => w = none ∧ sh' = shMd re ∧ σ'.1 37 11 = nI (t + 1) ∧ fwSame [37, 43] σ σ') := by
  refine fwC_of (ls := [some (.ref 37), some (.int x)]) (by decide +kernel) rfl (by rw [fw_sl1]; exact Nat.le_refl 2) ?_
  refine fwRun_ok k_rAdd_0_ok rfl (by show vp_in (σ.1 37 11) 70000; rw [h]; exact vp_in_nI ht (by decide)) ?_
  refine fwg_vret rfl (Nat.le_refl _) (Nat.le_refl _) ⟨rfl, rfl, ?_, (fwSame_I (by decide)).tr (fwSame_I (by decide))⟩ d_rAdd_21
  show (fwI _ 37 11 _).1 37 11 = _
  rw [fwI_eq, fwI_ne (by decide), h]
  exact nI_1 t
theorem rAddText_loop2 {c s n : Nat} (hc : c < fwNs) (hn : n ≤ fwSl.getD c 0) (hL : fwSl.getD c 0 < 2 ^ 31) {Post : fwPost} : ∀ (q j t : Nat) (σ : fwS), j + q = n → σ.1 37 11 = nI t → t + q ≤ 70000 → (∀ σ' : fwS, σ'.1 37 11 = nI (t + q) → fwSame [37, 43] σ σ' → Post none (shMd re) σ') → fwG l Z m_rAddText 5 0 0 Post 0 0 3 [some (.ref 37), some (.retAddr c), some (.int (nI s)), some (.int (nI n)), some (.int (nI j))] [] (shMd re) σ := by
  intro q
  induction q with
  | zero =>
    intro j t σ hj h ht hp
    obtain rfl : j = n := by omega
    refine fwRun_ok k_rAddText_3_ok rfl trivial ?_
    refine fwg_cmp 25 d_rAddText_6 (by decide) (fun _ => ?_) (fun q => absurd (nI_le (Nat.le_refl j) (by omega)) q)
    exact fwg_vret rfl (Nat.le_refl _) (Nat.le_refl _) (hp σ h fwSame.rf) d_rAddText_25
  | succ q ih =>
    intro j t σ hj h ht hp
    refine fwRun_ok k_rAddText_3_ok rfl trivial ?_
    refine fwg_cmp 25 d_rAddText_6 (by decide) (fun q => absurd (show nI n ≤ nI j from q) (nI_ge (by omega) (by omega))) (fun _ => ?_)
    refine fwRun_ok k_rAddText_9_ok rfl trivial ?_
    refine fwg_callK (n := 1) (as := [.int (nI j)]) (r := [.ref 37]) (ct_schar (j := j) hc (by omega)) ⟨by decide, by decide, by decide +kernel⟩ rfl m_schar_in c_rAddText_13 hc rfl rfl (Nat.le_of_ble_eq_true rfl) d_rAddText_13 ⟨Nat.le_of_ble_eq_true rfl, Nat.le_of_ble_eq_true rfl⟩ ⟨Nat.le_refl _, Nat.le_refl _⟩ (fun v sh' σ1 hq => ?_)
    obtain ⟨rfl, rfl, rfl⟩ := hq
    refine fwg_callV (n := 1) (i := 37) (as := [.int (fwCh c j)]) (r := []) (ct_rAdd2 h (by omega)) ⟨by decide, by decide, by decide +kernel⟩ m_rAdd_in c_rAddText_16 rfl rfl rfl rfl (Nat.le_of_ble_eq_true rfl) d_rAddText_16 ⟨Nat.le_of_ble_eq_true rfl, Nat.le_of_ble_eq_true rfl⟩ ⟨Nat.le_refl _, Nat.le_refl _⟩ (fun v sh' σ2 hq => ?_)
    obtain ⟨rfl, rfl, h2, s2⟩ := hq
    refine fwRun_ok k_rAddText_19_ok rfl trivial ?_
    refine fwg_goto 3 d_rAddText_22 (by decide) ?_
    have := ih (j + 1) (t + 1) σ2 (by omega) h2 (by omega) (fun σ' h' s' => hp σ' (by rw [h', show t + 1 + q = t + (q + 1) by omega]) (s2.tr s'))
    rw [← nI_1] at this
    exact this
theorem ct_rAddText2 {c s n t : Nat} (hc : c < fwNs) (hs : s ≤ n) (hn : n ≤ fwSl.getD c 0) (h : σ.1 37 11 = nI t) (ht : t + (n - s) ≤ 70000) : fwC l Z m_rAddText 5 0 0 [.ref 37, .retAddr c, .int (nI s), .int (nI n)] (shMd re) σ (fun w sh' σ' => w = none ∧ sh' = shMd re ∧ σ'.1 37 11 = nI (t + (n - s)) ∧ fwSame [37, 43] σ σ') := by
  obtain ⟨-, hL, -⟩ := fw_sc c hc
  refine fwC_of (ls := [some (.ref 37), some (.retAddr c), some (.int (nI s)), some (.int (nI n)), none]) (by decide +kernel) rfl (by rw [fw_sl1]; exact Nat.le_of_ble_eq_true rfl) ?_
  refine fwRun_ok k_rAddText_0_ok rfl trivial ?_
  exact rAddText_loop2 hc hn hL (n - s) s t σ (by omega) h ht (fun σ' h' s' => ⟨rfl, rfl, h', s'⟩)
theorem rah_loop {v x : Int32} {Post : fwPost} : ∀ (q t : Nat) (σ : fwS), q ≤ 8 → σ.1 37 11 = nI t → t + q + 1 ≤ 70000 → (∀ σ' : fwS, σ'.1 37 11 = nI (t + q + 1) → fwSame [37, 43] σ σ' → Post none (shMd re) σ') → fwG l Z m_rAddHex 2 0 0 Post 0 0 25 [some (.ref 37), some (.int v), some (.int x), some (.int (nI q - 1))] [] (shMd re) σ := by
  intro q
  induction q with
  | zero =>
    intro t σ hq h ht hp
    refine fwRun_ok k_rAddHex_25_ok rfl trivial ?_
    refine fwg_if 50 d_rAddHex_26 (by decide) (fun _ => ?_) (fun q => absurd (show nI 0 - 1 < 0 by decide) q)
    refine fwRun_ok k_rAddHex_50_ok rfl trivial ?_
    refine fwg_callV (n := 1) (i := 37) (as := [.int 72]) (r := []) (ct_rAdd2 h (by omega)) ⟨by decide, by decide, by decide +kernel⟩ m_rAdd_in c_rAddHex_53 rfl rfl rfl rfl (Nat.le_of_ble_eq_true rfl) d_rAddHex_53 ⟨Nat.le_of_ble_eq_true rfl, Nat.le_of_ble_eq_true rfl⟩ ⟨Nat.le_refl _, Nat.le_refl _⟩ (fun v sh' σ1 hq => ?_)
    obtain ⟨rfl, rfl, h1, s1⟩ := hq
    exact fwg_vret rfl (Nat.le_refl _) (Nat.le_refl _) (hp σ1 h1 s1) d_rAddHex_56
  | succ q ih =>
    intro t σ hq h ht hp
    rw [nI_pred]
    refine fwRun_ok k_rAddHex_25_ok rfl trivial ?_
    refine fwg_if 50 d_rAddHex_26 (by decide) (fun z => absurd (show nI q < 0 from z) (nI_pos (by omega))) (fun _ => ?_)
    refine fwRun_ok k_rAddHex_29_ok rfl trivial ?_
    refine fwg_callS (n := 1) (as := [.int (v >>> ((4 : Int32) * nI q &&& 31) &&& 15)]) (r := [.ref 37]) ct_rHexDigit ⟨by decide, by decide, by decide +kernel⟩ m_rHexDigit_in c_rAddHex_38 rfl rfl (Nat.le_of_ble_eq_true rfl) d_rAddHex_38 ⟨Nat.le_of_ble_eq_true rfl, Nat.le_of_ble_eq_true rfl⟩ ⟨Nat.le_refl _, Nat.le_refl _⟩ (fun v sh' σ1 hq => ?_)
    obtain ⟨⟨y, rfl⟩, rfl, rfl⟩ := hq
    refine fwg_callV (n := 1) (i := 37) (as := [.int y]) (r := []) (ct_rAdd2 h (by omega)) ⟨by decide, by decide, by decide +kernel⟩ m_rAdd_in c_rAddHex_41 rfl rfl rfl rfl (Nat.le_of_ble_eq_true rfl) d_rAddHex_41 ⟨Nat.le_of_ble_eq_true rfl, Nat.le_of_ble_eq_true rfl⟩ ⟨Nat.le_refl _, Nat.le_refl _⟩ (fun v sh' σ2 hq => ?_)
    obtain ⟨rfl, rfl, h2, s2⟩ := hq
    refine fwRun_ok k_rAddHex_44_ok rfl trivial ?_
    refine fwg_goto 25 d_rAddHex_47 (by decide) ?_
    have := ih (t + 1) σ2 (by omega) h2 (by omega) (fun σ' h' s' => hp σ' (by rw [h', show t + 1 + q + 1 = t + (q + 1) + 1 by omega]) (s2.tr s'))
    rw [Int32.sub_eq_add_neg] at this
    exact this
theorem ct_rAddHex {v : Int32} {n t : Nat} (hn : n < 8) (h : σ.1 37 11 = nI t) (ht : t + 20 ≤ 70000) : fwC l Z m_rAddHex 2 0 0 [.ref 37, .int v, .int (nI n)] (shMd re) σ (fun w sh' σ' => w = none ∧ sh' = shMd re ∧ σ'.1 37 11 = nI (t + (n + 1) + if 9 < v >>> ((4 : Int32) * (nI n - 1) &&& 31) &&& 15 then 1 else 0) ∧ fwSame [37, 43] σ σ') := by
  refine fwC_of (ls := [some (.ref 37), some (.int v), some (.int (nI n)), none]) (by decide +kernel) rfl (by rw [fw_sl1]; exact Nat.le_of_ble_eq_true rfl) ?_
  refine fwRun_ok k_rAddHex_0_ok rfl trivial ?_
  refine fwg_cmp 21 d_rAddHex_12 (by decide) (fun q => ?_) (fun q => ?_)
  · have q' : ¬ 9 < v >>> ((4 : Int32) * (nI n - 1) &&& 31) &&& 15 := Int32.not_lt.mpr q
    rw [if_neg q']
    refine fwRun_ok k_rAddHex_21_ok rfl trivial ?_
    exact rah_loop n t σ (by omega) h (by omega) (fun σ' h' s' => ⟨rfl, rfl, h', s'⟩)
  · have q' : 9 < v >>> ((4 : Int32) * (nI n - 1) &&& 31) &&& 15 := Int32.not_le.mp q
    rw [if_pos q']
    refine fwRun_ok k_rAddHex_15_ok rfl trivial ?_
    refine fwg_callV (n := 1) (i := 37) (as := [.int 48]) (r := []) (ct_rAdd2 h (by omega)) ⟨by decide, by decide, by decide +kernel⟩ m_rAdd_in c_rAddHex_18 rfl rfl rfl rfl (Nat.le_of_ble_eq_true rfl) d_rAddHex_18 ⟨Nat.le_of_ble_eq_true rfl, Nat.le_of_ble_eq_true rfl⟩ ⟨Nat.le_refl _, Nat.le_refl _⟩ (fun v sh' σ1 hq => ?_)
    obtain ⟨rfl, rfl, h1, s1⟩ := hq
    refine fwRun_ok k_rAddHex_21_ok rfl trivial ?_
    exact rah_loop n (t + 1) σ1 (by omega) h1 (by omega) (fun σ' h' s' => ⟨rfl, rfl, by rw [h', show t + 1 + n + 1 = t + (n + 1) + 1 by omega], s1.tr s'⟩)
theorem ct_rAddReg {j t : Nat} (hj : j < 8) (h : σ.1 37 11 = nI t) (ht : t < 70000) : fwC l Z m_rAddReg 5 0 0 [.ref 37, .int (nI j)] (shMd re) σ (fun w sh' σ' => w = none ∧ sh' = shMd re ∧ σ'.1 37 11 = nI (t + 1) ∧ fwSame [37, 43] σ σ') := by
  refine fwC_of (ls := [some (.ref 37), some (.int (nI j))]) (by decide +kernel) rfl (by rw [fw_sl1]; exact Nat.le_refl 2) ?_
  refine fwRun_ok k_rAddReg_0_ok rfl trivial ?_
  refine fwg_ldcwS (q := ("MonitorBoardModel", 728, "BCDEHLMA", 19)) rfl (List.mem_of_getElem? (i := 57) rfl) d_rAddReg_1 ?_
  refine fwRun_ok k_rAddReg_4_ok rfl trivial ?_
  refine fwg_callK (n := 1) (as := [.int (nI j)]) (r := [.ref 37]) (ct_schar (c := 19) (j := j) (by decide) (show j < 8 from hj)) ⟨by decide, by decide, by decide +kernel⟩ rfl m_schar_in c_rAddReg_5 (by decide) rfl rfl (Nat.le_of_ble_eq_true rfl) d_rAddReg_5 ⟨Nat.le_of_ble_eq_true rfl, Nat.le_of_ble_eq_true rfl⟩ ⟨Nat.le_refl _, Nat.le_refl _⟩ (fun v sh' σ1 hq => ?_)
  obtain ⟨rfl, rfl, rfl⟩ := hq
  refine fwg_callV (n := 1) (i := 37) (as := [.int (fwCh 19 j)]) (r := []) (ct_rAdd2 h ht) ⟨by decide, by decide, by decide +kernel⟩ m_rAdd_in c_rAddReg_8 rfl rfl rfl rfl (Nat.le_of_ble_eq_true rfl) d_rAddReg_8 ⟨Nat.le_of_ble_eq_true rfl, Nat.le_of_ble_eq_true rfl⟩ ⟨Nat.le_refl _, Nat.le_refl _⟩ (fun v sh' σ2 hq => ?_)
  obtain ⟨rfl, rfl, h2, s2⟩ := hq
  exact fwg_vret rfl (Nat.le_refl _) (Nat.le_refl _) ⟨rfl, rfl, h2, s2⟩ d_rAddReg_11
theorem ct_rAddPair {x : Int32} {j t : Nat} (hj : j < 3) (h : σ.1 37 11 = nI t) (ht : t < 70000) : fwC l Z m_rAddPair 5 0 0 [.ref 37, .int (nI j), .int x] (shMd re) σ (fun w sh' σ' => w = none ∧ sh' = shMd re ∧ σ'.1 37 11 = nI (t + 1) ∧ fwSame [37, 43] σ σ') := by
  refine fwC_of (ls := [some (.ref 37), some (.int (nI j)), some (.int x), none]) (by decide +kernel) rfl (by rw [fw_sl1]; exact Nat.le_of_ble_eq_true rfl) ?_
  refine fwRun_ok k_rAddPair_0_ok rfl trivial ?_
  refine fwg_cmp 19 d_rAddPair_2 (by decide) (fun q => absurd (show nI 3 ≤ nI j from q) (nI_ge hj (by decide))) (fun _ => ?_)
  refine fwRun_ok k_rAddPair_5_ok rfl trivial ?_
  refine fwg_ldcwS (q := ("MonitorBoardModel", 776, "BDH", 20)) rfl (List.mem_of_getElem? (i := 69) rfl) d_rAddPair_6 ?_
  refine fwRun_ok k_rAddPair_9_ok rfl trivial ?_
  refine fwg_callK (n := 1) (as := [.int (nI j)]) (r := [.ref 37]) (ct_schar (c := 20) (j := j) (by decide) (show j < 3 from hj)) ⟨by decide, by decide, by decide +kernel⟩ rfl m_schar_in c_rAddPair_10 (by decide) rfl rfl (Nat.le_of_ble_eq_true rfl) d_rAddPair_10 ⟨Nat.le_of_ble_eq_true rfl, Nat.le_of_ble_eq_true rfl⟩ ⟨Nat.le_refl _, Nat.le_refl _⟩ (fun v sh' σ1 hq => ?_)
  obtain ⟨rfl, rfl, rfl⟩ := hq
  refine fwg_callV (n := 1) (i := 37) (as := [.int (fwCh 20 j)]) (r := []) (ct_rAdd2 h ht) ⟨by decide, by decide, by decide +kernel⟩ m_rAdd_in c_rAddPair_13 rfl rfl rfl rfl (Nat.le_of_ble_eq_true rfl) d_rAddPair_13 ⟨Nat.le_of_ble_eq_true rfl, Nat.le_of_ble_eq_true rfl⟩ ⟨Nat.le_refl _, Nat.le_refl _⟩ (fun v sh' σ2 hq => ?_)
  obtain ⟨rfl, rfl, h2, s2⟩ := hq
  refine fwg_goto 43 d_rAddPair_16 (by decide) ?_
  exact fwg_vret rfl (Nat.le_refl _) (Nat.le_refl _) ⟨rfl, rfl, h2, s2⟩ d_rAddPair_43
end RLS
