/-! methods, their instructions, by program (wip/whole/methods.py) -/
/-- MonitorBoardModel.add(I)V -/
abbrev m_rAdd : fwM := (⟨"MonitorBoardModel", "add", "(I)V"⟩, prog_13_method_149_code, 2, (none : Option FieldType))
theorem m_rAdd_in : Cond.code m_rAdd.1 m_rAdd.2.1 m_rAdd.2.2.1 m_rAdd.2.2.2 ∈ fwT := fwT_mem (List.mem_of_getElem? (i := 2840) (by decide +kernel)) rfl
def k_rAdd_0 : List fwO := [(.aload_n 0, 0, 0, .null), (.getfield 28, 1, 5, .retAddr 168), (.aload_n 0, 0, 0, .null), (.getfield 129, 1, 11, .retAddr 174), (.iload_n 1, 0, 0, .null), (.i2b, 0, 0, .null), (.bastore, 0, 0, .null), (.aload_n 0, 0, 0, .null), (.dup, 0, 0, .null), (.getfield 129, 1, 11, .retAddr 174), (.iconst 1, 0, 0, .int 1), (.iadd, 0, 0, .null), (.putfield 129, 1, 11, .retAddr 174)]
theorem k_rAdd_0_ok : fwChain m_rAdd.1.cls m_rAdd.2.1 0 k_rAdd_0 21 = true := by decide +kernel
theorem d_rAdd_21 : decode m_rAdd.2.1 21 = .ok (.return_, 1) := by decide +kernel
/-- MonitorBoardModel.addText(Ljava/lang/String;II)V -/
abbrev m_rAddText : fwM := (⟨"MonitorBoardModel", "addText", "(Ljava/lang/String;II)V"⟩, prog_13_method_150_code, 5, (none : Option FieldType))
theorem m_rAddText_in : Cond.code m_rAddText.1 m_rAddText.2.1 m_rAddText.2.2.1 m_rAddText.2.2.2 ∈ fwT := fwT_mem (List.mem_of_getElem? (i := 2836) (by decide +kernel)) rfl
def k_rAddText_0 : List fwO := [(.iload_n 2, 0, 0, .null), (.istore 4, 0, 0, .null)]
theorem k_rAddText_0_ok : fwChain m_rAddText.1.cls m_rAddText.2.1 0 k_rAddText_0 3 = true := by decide +kernel
def k_rAddText_3 : List fwO := [(.iload 4, 0, 0, .null), (.iload_n 3, 0, 0, .null)]
theorem k_rAddText_3_ok : fwChain m_rAddText.1.cls m_rAddText.2.1 3 k_rAddText_3 6 = true := by decide +kernel
theorem d_rAddText_6 : decode m_rAddText.2.1 6 = .ok (.if_icmp .ge 19, 3) := by decide +kernel
def k_rAddText_9 : List fwO := [(.aload_n 0, 0, 0, .null), (.aload_n 1, 0, 0, .null), (.iload 4, 0, 0, .null)]
theorem k_rAddText_9_ok : fwChain m_rAddText.1.cls m_rAddText.2.1 9 k_rAddText_9 13 = true := by decide +kernel
theorem d_rAddText_13 : decode m_rAddText.2.1 13 = .ok (.invokevirtual 145, 3) := by decide +kernel
theorem d_rAddText_16 : decode m_rAddText.2.1 16 = .ok (.invokevirtual 773, 3) := by decide +kernel
def k_rAddText_19 : List fwO := [(.iinc 4 1, 0, 0, .int 1)]
theorem k_rAddText_19_ok : fwChain m_rAddText.1.cls m_rAddText.2.1 19 k_rAddText_19 22 = true := by decide +kernel
theorem d_rAddText_22 : decode m_rAddText.2.1 22 = .ok (.goto (-19), 3) := by decide +kernel
theorem d_rAddText_25 : decode m_rAddText.2.1 25 = .ok (.return_, 1) := by decide +kernel
/-- MonitorBoardModel.hex()I -/
abbrev m_rHex : fwM := (⟨"MonitorBoardModel", "hex", "()I"⟩, prog_13_method_158_code, 5, (some FieldType.int))
theorem m_rHex_in : Cond.code m_rHex.1 m_rHex.2.1 m_rHex.2.2.1 m_rHex.2.2.2 ∈ fwT := fwT_mem (List.mem_of_getElem? (i := 2862) (by decide +kernel)) rfl
def k_rHex_0 : List fwO := [(.aload_n 0, 0, 0, .null), (.getfield 129, 1, 11, .retAddr 174), (.sipush 2000, 0, 0, .int 2000)]
theorem k_rHex_0_ok : fwChain m_rHex.1.cls m_rHex.2.1 0 k_rHex_0 7 = true := by decide +kernel
theorem d_rHex_7 : decode m_rHex.2.1 7 = .ok (.if_icmp .ge 10, 3) := by decide +kernel
def k_rHex_10 : List fwO := [(.aload_n 0, 0, 0, .null), (.getfield 129, 1, 11, .retAddr 174)]
theorem k_rHex_10_ok : fwChain m_rHex.1.cls m_rHex.2.1 10 k_rHex_10 14 = true := by decide +kernel
theorem d_rHex_14 : decode m_rHex.2.1 14 = .ok (.goto 6, 3) := by decide +kernel
def k_rHex_17 : List fwO := [(.sipush 2000, 0, 0, .int 2000)]
theorem k_rHex_17_ok : fwChain m_rHex.1.cls m_rHex.2.1 17 k_rHex_17 20 = true := by decide +kernel
def k_rHex_20 : List fwO := [(.istore_n 1, 0, 0, .null), (.iconst 0, 0, 0, .int 0), (.istore_n 2, 0, 0, .null)]
theorem k_rHex_20_ok : fwChain m_rHex.1.cls m_rHex.2.1 20 k_rHex_20 23 = true := by decide +kernel
def k_rHex_23 : List fwO := [(.iload_n 2, 0, 0, .null), (.iload_n 1, 0, 0, .null)]
theorem k_rHex_23_ok : fwChain m_rHex.1.cls m_rHex.2.1 23 k_rHex_23 25 = true := by decide +kernel
theorem d_rHex_25 : decode m_rHex.2.1 25 = .ok (.if_icmp .ge 21, 3) := by decide +kernel
def k_rHex_28 : List fwO := [(.aload_n 0, 0, 0, .null), (.getfield 62, 1, 54, .retAddr 217), (.iload_n 2, 0, 0, .null), (.aload_n 0, 0, 0, .null), (.getfield 28, 1, 5, .retAddr 168), (.iload_n 2, 0, 0, .null), (.baload, 0, 0, .null), (.bastore, 0, 0, .null), (.iinc 2 1, 0, 0, .int 1)]
theorem k_rHex_28_ok : fwChain m_rHex.1.cls m_rHex.2.1 28 k_rHex_28 43 = true := by decide +kernel
theorem d_rHex_43 : decode m_rHex.2.1 43 = .ok (.goto (-20), 3) := by decide +kernel
def k_rHex_46 : List fwO := [(.aload_n 0, 0, 0, .null), (.iconst 0, 0, 0, .int 0), (.putfield 129, 1, 11, .retAddr 174), (.iconst 0, 0, 0, .int 0), (.istore_n 2, 0, 0, .null)]
theorem k_rHex_46_ok : fwChain m_rHex.1.cls m_rHex.2.1 46 k_rHex_46 53 = true := by decide +kernel
def k_rHex_53 : List fwO := [(.iload_n 2, 0, 0, .null), (.iload_n 1, 0, 0, .null)]
theorem k_rHex_53_ok : fwChain m_rHex.1.cls m_rHex.2.1 53 k_rHex_53 55 = true := by decide +kernel
theorem d_rHex_55 : decode m_rHex.2.1 55 = .ok (.if_icmp .gt 136, 3) := by decide +kernel
def k_rHex_58 : List fwO := [(.iload_n 1, 0, 0, .null), (.iload_n 2, 0, 0, .null), (.isub, 0, 0, .null), (.bipush 16, 0, 0, .int 16)]
theorem k_rHex_58_ok : fwChain m_rHex.1.cls m_rHex.2.1 58 k_rHex_58 63 = true := by decide +kernel
theorem d_rHex_63 : decode m_rHex.2.1 63 = .ok (.if_icmp .ge 9, 3) := by decide +kernel
def k_rHex_66 : List fwO := [(.iload_n 1, 0, 0, .null), (.iload_n 2, 0, 0, .null), (.isub, 0, 0, .null)]
theorem k_rHex_66_ok : fwChain m_rHex.1.cls m_rHex.2.1 66 k_rHex_66 69 = true := by decide +kernel
theorem d_rHex_69 : decode m_rHex.2.1 69 = .ok (.goto 5, 3) := by decide +kernel
def k_rHex_72 : List fwO := [(.bipush 16, 0, 0, .int 16)]
theorem k_rHex_72_ok : fwChain m_rHex.1.cls m_rHex.2.1 72 k_rHex_72 74 = true := by decide +kernel
def k_rHex_74 : List fwO := [(.istore_n 3, 0, 0, .null), (.iload_n 3, 0, 0, .null)]
theorem k_rHex_74_ok : fwChain m_rHex.1.cls m_rHex.2.1 74 k_rHex_74 76 = true := by decide +kernel
theorem d_rHex_76 : decode m_rHex.2.1 76 = .ok (.ifCond .ne 6, 3) := by decide +kernel
theorem d_rHex_79 : decode m_rHex.2.1 79 = .ok (.goto 112, 3) := by decide +kernel
def k_rHex_82 : List fwO := [(.aload_n 0, 0, 0, .null), (.bipush 58, 0, 0, .int 58)]
theorem k_rHex_82_ok : fwChain m_rHex.1.cls m_rHex.2.1 82 k_rHex_82 85 = true := by decide +kernel
theorem d_rHex_85 : decode m_rHex.2.1 85 = .ok (.invokevirtual 773, 3) := by decide +kernel
def k_rHex_88 : List fwO := [(.aload_n 0, 0, 0, .null), (.iconst 0, 0, 0, .int 0), (.putfield 800, 1, 78, .retAddr 241), (.aload_n 0, 0, 0, .null), (.iload_n 3, 0, 0, .null)]
theorem k_rHex_88_ok : fwChain m_rHex.1.cls m_rHex.2.1 88 k_rHex_88 95 = true := by decide +kernel
theorem d_rHex_95 : decode m_rHex.2.1 95 = .ok (.invokevirtual 803, 3) := by decide +kernel
def k_rHex_98 : List fwO := [(.aload_n 0, 0, 0, .null), (.sipush 256, 0, 0, .int 256), (.iload_n 2, 0, 0, .null), (.iadd, 0, 0, .null), (.bipush 8, 0, 0, .int 8), (.ishr, 0, 0, .null)]
theorem k_rHex_98_ok : fwChain m_rHex.1.cls m_rHex.2.1 98 k_rHex_98 107 = true := by decide +kernel
theorem d_rHex_107 : decode m_rHex.2.1 107 = .ok (.invokevirtual 803, 3) := by decide +kernel
def k_rHex_110 : List fwO := [(.aload_n 0, 0, 0, .null), (.sipush 256, 0, 0, .int 256), (.iload_n 2, 0, 0, .null), (.iadd, 0, 0, .null), (.sipush 255, 0, 0, .int 255), (.iand, 0, 0, .null)]
theorem k_rHex_110_ok : fwChain m_rHex.1.cls m_rHex.2.1 110 k_rHex_110 120 = true := by decide +kernel
theorem d_rHex_120 : decode m_rHex.2.1 120 = .ok (.invokevirtual 803, 3) := by decide +kernel
def k_rHex_123 : List fwO := [(.aload_n 0, 0, 0, .null), (.iconst 0, 0, 0, .int 0)]
theorem k_rHex_123_ok : fwChain m_rHex.1.cls m_rHex.2.1 123 k_rHex_123 125 = true := by decide +kernel
theorem d_rHex_125 : decode m_rHex.2.1 125 = .ok (.invokevirtual 803, 3) := by decide +kernel
def k_rHex_128 : List fwO := [(.iconst 0, 0, 0, .int 0), (.istore 4, 0, 0, .null)]
theorem k_rHex_128_ok : fwChain m_rHex.1.cls m_rHex.2.1 128 k_rHex_128 131 = true := by decide +kernel
def k_rHex_131 : List fwO := [(.iload 4, 0, 0, .null), (.iload_n 3, 0, 0, .null)]
theorem k_rHex_131_ok : fwChain m_rHex.1.cls m_rHex.2.1 131 k_rHex_131 134 = true := by decide +kernel
theorem d_rHex_134 : decode m_rHex.2.1 134 = .ok (.if_icmp .ge 26, 3) := by decide +kernel
def k_rHex_137 : List fwO := [(.aload_n 0, 0, 0, .null), (.aload_n 0, 0, 0, .null), (.getfield 62, 1, 54, .retAddr 217), (.iload_n 2, 0, 0, .null), (.iload 4, 0, 0, .null), (.iadd, 0, 0, .null), (.baload, 0, 0, .null), (.sipush 255, 0, 0, .int 255), (.iand, 0, 0, .null)]
theorem k_rHex_137_ok : fwChain m_rHex.1.cls m_rHex.2.1 137 k_rHex_137 151 = true := by decide +kernel
theorem d_rHex_151 : decode m_rHex.2.1 151 = .ok (.invokevirtual 803, 3) := by decide +kernel
def k_rHex_154 : List fwO := [(.iinc 4 1, 0, 0, .int 1)]
theorem k_rHex_154_ok : fwChain m_rHex.1.cls m_rHex.2.1 154 k_rHex_154 157 = true := by decide +kernel
theorem d_rHex_157 : decode m_rHex.2.1 157 = .ok (.goto (-26), 3) := by decide +kernel
def k_rHex_160 : List fwO := [(.aload_n 0, 0, 0, .null), (.aload_n 0, 0, 0, .null), (.getfield 800, 1, 78, .retAddr 241), (.ineg, 0, 0, .null), (.sipush 255, 0, 0, .int 255), (.iand, 0, 0, .null)]
theorem k_rHex_160_ok : fwChain m_rHex.1.cls m_rHex.2.1 160 k_rHex_160 170 = true := by decide +kernel
theorem d_rHex_170 : decode m_rHex.2.1 170 = .ok (.invokevirtual 803, 3) := by decide +kernel
def k_rHex_173 : List fwO := [(.aload_n 0, 0, 0, .null), (.bipush 13, 0, 0, .int 13)]
theorem k_rHex_173_ok : fwChain m_rHex.1.cls m_rHex.2.1 173 k_rHex_173 176 = true := by decide +kernel
theorem d_rHex_176 : decode m_rHex.2.1 176 = .ok (.invokevirtual 773, 3) := by decide +kernel
def k_rHex_179 : List fwO := [(.aload_n 0, 0, 0, .null), (.bipush 10, 0, 0, .int 10)]
theorem k_rHex_179_ok : fwChain m_rHex.1.cls m_rHex.2.1 179 k_rHex_179 182 = true := by decide +kernel
theorem d_rHex_182 : decode m_rHex.2.1 182 = .ok (.invokevirtual 773, 3) := by decide +kernel
def k_rHex_185 : List fwO := [(.iinc 2 16, 0, 0, .int 16)]
theorem k_rHex_185_ok : fwChain m_rHex.1.cls m_rHex.2.1 185 k_rHex_185 188 = true := by decide +kernel
theorem d_rHex_188 : decode m_rHex.2.1 188 = .ok (.goto (-135), 3) := by decide +kernel
def k_rHex_191 : List fwO := [(.aload_n 0, 0, 0, .null)]
theorem k_rHex_191_ok : fwChain m_rHex.1.cls m_rHex.2.1 191 k_rHex_191 192 = true := by decide +kernel
theorem d_rHex_192 : decode m_rHex.2.1 192 = .ok (.ldc_w 806, 3) := by decide +kernel
def k_rHex_195 : List fwO := [(.iconst 0, 0, 0, .int 0), (.bipush 11, 0, 0, .int 11)]
theorem k_rHex_195_ok : fwChain m_rHex.1.cls m_rHex.2.1 195 k_rHex_195 198 = true := by decide +kernel
theorem d_rHex_198 : decode m_rHex.2.1 198 = .ok (.invokevirtual 778, 3) := by decide +kernel
def k_rHex_201 : List fwO := [(.aload_n 0, 0, 0, .null), (.bipush 13, 0, 0, .int 13)]
theorem k_rHex_201_ok : fwChain m_rHex.1.cls m_rHex.2.1 201 k_rHex_201 204 = true := by decide +kernel
theorem d_rHex_204 : decode m_rHex.2.1 204 = .ok (.invokevirtual 773, 3) := by decide +kernel
def k_rHex_207 : List fwO := [(.aload_n 0, 0, 0, .null), (.bipush 10, 0, 0, .int 10)]
theorem k_rHex_207_ok : fwChain m_rHex.1.cls m_rHex.2.1 207 k_rHex_207 210 = true := by decide +kernel
theorem d_rHex_210 : decode m_rHex.2.1 210 = .ok (.invokevirtual 773, 3) := by decide +kernel
def k_rHex_213 : List fwO := [(.aload_n 0, 0, 0, .null), (.getfield 129, 1, 11, .retAddr 174)]
theorem k_rHex_213_ok : fwChain m_rHex.1.cls m_rHex.2.1 213 k_rHex_213 217 = true := by decide +kernel
theorem d_rHex_217 : decode m_rHex.2.1 217 = .ok (.ireturn, 1) := by decide +kernel
/-- MonitorBoard.putSign(I)V -/
abbrev m_putSign : fwM := (⟨"MonitorBoard", "putSign", "(I)V"⟩, prog_1_method_23_code, 2, (none : Option FieldType))
theorem m_putSign_in : Cond.code m_putSign.1 m_putSign.2.1 m_putSign.2.2.1 m_putSign.2.2.2 ∈ fwT := fwT_mem (List.mem_of_getElem? (i := 1929) (by decide +kernel)) rfl
def k_putSign_0 : List fwO := [(.aload_n 0, 0, 0, .null), (.getfield 164, 0, 11, .retAddr 162), (.ldc 13, 0, 0, .int 58112)]
theorem k_putSign_0_ok : fwChain m_putSign.1.cls m_putSign.2.1 0 k_putSign_0 6 = true := by decide +kernel
theorem d_putSign_6 : decode m_putSign.2.1 6 = .ok (.if_icmp .ge 24, 3) := by decide +kernel
def k_putSign_9 : List fwO := [(.aload_n 0, 0, 0, .null), (.getfield 14, 0, 1, .retAddr 152), (.aload_n 0, 0, 0, .null), (.getfield 164, 0, 11, .retAddr 162), (.iload_n 1, 0, 0, .null), (.i2b, 0, 0, .null), (.bastore, 0, 0, .null), (.aload_n 0, 0, 0, .null), (.dup, 0, 0, .null), (.getfield 164, 0, 11, .retAddr 162), (.iconst 1, 0, 0, .int 1), (.iadd, 0, 0, .null), (.putfield 164, 0, 11, .retAddr 162)]
theorem k_putSign_9_ok : fwChain m_putSign.1.cls m_putSign.2.1 9 k_putSign_9 30 = true := by decide +kernel
theorem d_putSign_30 : decode m_putSign.2.1 30 = .ok (.return_, 1) := by decide +kernel
/-- MonitorBoard.putText(Ljava/lang/String;)V -/
abbrev m_putText : fwM := (⟨"MonitorBoard", "putText", "(Ljava/lang/String;)V"⟩, prog_1_method_22_code, 3, (none : Option FieldType))
theorem m_putText_in : Cond.code m_putText.1 m_putText.2.1 m_putText.2.2.1 m_putText.2.2.2 ∈ fwT := fwT_mem (List.mem_of_getElem? (i := 1925) (by decide +kernel)) rfl
def k_putText_0 : List fwO := [(.iconst 0, 0, 0, .int 0), (.istore_n 2, 0, 0, .null)]
theorem k_putText_0_ok : fwChain m_putText.1.cls m_putText.2.1 0 k_putText_0 2 = true := by decide +kernel
def k_putText_2 : List fwO := [(.iload_n 2, 0, 0, .null), (.aload_n 1, 0, 0, .null)]
theorem k_putText_2_ok : fwChain m_putText.1.cls m_putText.2.1 2 k_putText_2 4 = true := by decide +kernel
theorem d_putText_4 : decode m_putText.2.1 4 = .ok (.invokevirtual 226, 3) := by decide +kernel
theorem d_putText_7 : decode m_putText.2.1 7 = .ok (.if_icmp .ge 18, 3) := by decide +kernel
def k_putText_10 : List fwO := [(.aload_n 0, 0, 0, .null), (.aload_n 1, 0, 0, .null), (.iload_n 2, 0, 0, .null)]
theorem k_putText_10_ok : fwChain m_putText.1.cls m_putText.2.1 10 k_putText_10 13 = true := by decide +kernel
theorem d_putText_13 : decode m_putText.2.1 13 = .ok (.invokevirtual 217, 3) := by decide +kernel
theorem d_putText_16 : decode m_putText.2.1 16 = .ok (.invokevirtual 223, 3) := by decide +kernel
def k_putText_19 : List fwO := [(.iinc 2 1, 0, 0, .int 1)]
theorem k_putText_19_ok : fwChain m_putText.1.cls m_putText.2.1 19 k_putText_19 22 = true := by decide +kernel
theorem d_putText_22 : decode m_putText.2.1 22 = .ok (.goto (-20), 3) := by decide +kernel
theorem d_putText_25 : decode m_putText.2.1 25 = .ok (.return_, 1) := by decide +kernel
theorem c_rAddText_13 : ∀ w ∈ ([(Cond.methodLink "MonitorBoardModel" (145 : Nat) ({ cls := "java/lang/String", name := "charAt", desc := "(I)C" } : MethodName)), (Cond.instanceMethod ({ cls := "java/lang/String", name := "charAt", desc := "(I)C" } : MethodName)), (Cond.selects "java/lang/String" ({ cls := "java/lang/String", name := "charAt", desc := "(I)C" } : MethodName) ({ cls := "java/lang/String", name := "charAt", desc := "(I)C" } : MethodName)), (Cond.initialized "java/lang/String")] : List Cond), w ∈ fwT := fwT_all [1965, 581, 582, 290] (by decide +kernel) (by decide +kernel)
theorem c_rAddText_16 : ∀ w ∈ ([(Cond.methodLink "MonitorBoardModel" (773 : Nat) ({ cls := "MonitorBoardModel", name := "add", desc := "(I)V" } : MethodName)), (Cond.instanceMethod ({ cls := "MonitorBoardModel", name := "add", desc := "(I)V" } : MethodName)), (Cond.selects "MonitorBoardModel" ({ cls := "MonitorBoardModel", name := "add", desc := "(I)V" } : MethodName) ({ cls := "MonitorBoardModel", name := "add", desc := "(I)V" } : MethodName)), (Cond.initialized "MonitorBoardModel")] : List Cond), w ∈ fwT := fwT_all [2837, 2839, 275, 298] (by decide +kernel) (by decide +kernel)
theorem c_rHex_85 : ∀ w ∈ ([(Cond.methodLink "MonitorBoardModel" (773 : Nat) ({ cls := "MonitorBoardModel", name := "add", desc := "(I)V" } : MethodName)), (Cond.instanceMethod ({ cls := "MonitorBoardModel", name := "add", desc := "(I)V" } : MethodName)), (Cond.selects "MonitorBoardModel" ({ cls := "MonitorBoardModel", name := "add", desc := "(I)V" } : MethodName) ({ cls := "MonitorBoardModel", name := "add", desc := "(I)V" } : MethodName)), (Cond.initialized "MonitorBoardModel")] : List Cond), w ∈ fwT := c_rAddText_16
theorem c_rHex_95 : ∀ w ∈ ([(Cond.methodLink "MonitorBoardModel" (803 : Nat) ({ cls := "MonitorBoardModel", name := "addPairOf", desc := "(I)V" } : MethodName)), (Cond.instanceMethod ({ cls := "MonitorBoardModel", name := "addPairOf", desc := "(I)V" } : MethodName)), (Cond.selects "MonitorBoardModel" ({ cls := "MonitorBoardModel", name := "addPairOf", desc := "(I)V" } : MethodName) ({ cls := "MonitorBoardModel", name := "addPairOf", desc := "(I)V" } : MethodName)), (Cond.initialized "MonitorBoardModel")] : List Cond), w ∈ fwT := fwT_all [2863, 2865, 280, 298] (by decide +kernel) (by decide +kernel)
theorem c_rHex_107 : ∀ w ∈ ([(Cond.methodLink "MonitorBoardModel" (803 : Nat) ({ cls := "MonitorBoardModel", name := "addPairOf", desc := "(I)V" } : MethodName)), (Cond.instanceMethod ({ cls := "MonitorBoardModel", name := "addPairOf", desc := "(I)V" } : MethodName)), (Cond.selects "MonitorBoardModel" ({ cls := "MonitorBoardModel", name := "addPairOf", desc := "(I)V" } : MethodName) ({ cls := "MonitorBoardModel", name := "addPairOf", desc := "(I)V" } : MethodName)), (Cond.initialized "MonitorBoardModel")] : List Cond), w ∈ fwT := c_rHex_95
theorem c_rHex_120 : ∀ w ∈ ([(Cond.methodLink "MonitorBoardModel" (803 : Nat) ({ cls := "MonitorBoardModel", name := "addPairOf", desc := "(I)V" } : MethodName)), (Cond.instanceMethod ({ cls := "MonitorBoardModel", name := "addPairOf", desc := "(I)V" } : MethodName)), (Cond.selects "MonitorBoardModel" ({ cls := "MonitorBoardModel", name := "addPairOf", desc := "(I)V" } : MethodName) ({ cls := "MonitorBoardModel", name := "addPairOf", desc := "(I)V" } : MethodName)), (Cond.initialized "MonitorBoardModel")] : List Cond), w ∈ fwT := c_rHex_95
theorem c_rHex_125 : ∀ w ∈ ([(Cond.methodLink "MonitorBoardModel" (803 : Nat) ({ cls := "MonitorBoardModel", name := "addPairOf", desc := "(I)V" } : MethodName)), (Cond.instanceMethod ({ cls := "MonitorBoardModel", name := "addPairOf", desc := "(I)V" } : MethodName)), (Cond.selects "MonitorBoardModel" ({ cls := "MonitorBoardModel", name := "addPairOf", desc := "(I)V" } : MethodName) ({ cls := "MonitorBoardModel", name := "addPairOf", desc := "(I)V" } : MethodName)), (Cond.initialized "MonitorBoardModel")] : List Cond), w ∈ fwT := c_rHex_95
theorem c_rHex_151 : ∀ w ∈ ([(Cond.methodLink "MonitorBoardModel" (803 : Nat) ({ cls := "MonitorBoardModel", name := "addPairOf", desc := "(I)V" } : MethodName)), (Cond.instanceMethod ({ cls := "MonitorBoardModel", name := "addPairOf", desc := "(I)V" } : MethodName)), (Cond.selects "MonitorBoardModel" ({ cls := "MonitorBoardModel", name := "addPairOf", desc := "(I)V" } : MethodName) ({ cls := "MonitorBoardModel", name := "addPairOf", desc := "(I)V" } : MethodName)), (Cond.initialized "MonitorBoardModel")] : List Cond), w ∈ fwT := c_rHex_95
theorem c_rHex_170 : ∀ w ∈ ([(Cond.methodLink "MonitorBoardModel" (803 : Nat) ({ cls := "MonitorBoardModel", name := "addPairOf", desc := "(I)V" } : MethodName)), (Cond.instanceMethod ({ cls := "MonitorBoardModel", name := "addPairOf", desc := "(I)V" } : MethodName)), (Cond.selects "MonitorBoardModel" ({ cls := "MonitorBoardModel", name := "addPairOf", desc := "(I)V" } : MethodName) ({ cls := "MonitorBoardModel", name := "addPairOf", desc := "(I)V" } : MethodName)), (Cond.initialized "MonitorBoardModel")] : List Cond), w ∈ fwT := c_rHex_95
theorem c_rHex_176 : ∀ w ∈ ([(Cond.methodLink "MonitorBoardModel" (773 : Nat) ({ cls := "MonitorBoardModel", name := "add", desc := "(I)V" } : MethodName)), (Cond.instanceMethod ({ cls := "MonitorBoardModel", name := "add", desc := "(I)V" } : MethodName)), (Cond.selects "MonitorBoardModel" ({ cls := "MonitorBoardModel", name := "add", desc := "(I)V" } : MethodName) ({ cls := "MonitorBoardModel", name := "add", desc := "(I)V" } : MethodName)), (Cond.initialized "MonitorBoardModel")] : List Cond), w ∈ fwT := c_rAddText_16
theorem c_rHex_182 : ∀ w ∈ ([(Cond.methodLink "MonitorBoardModel" (773 : Nat) ({ cls := "MonitorBoardModel", name := "add", desc := "(I)V" } : MethodName)), (Cond.instanceMethod ({ cls := "MonitorBoardModel", name := "add", desc := "(I)V" } : MethodName)), (Cond.selects "MonitorBoardModel" ({ cls := "MonitorBoardModel", name := "add", desc := "(I)V" } : MethodName) ({ cls := "MonitorBoardModel", name := "add", desc := "(I)V" } : MethodName)), (Cond.initialized "MonitorBoardModel")] : List Cond), w ∈ fwT := c_rAddText_16
theorem c_rHex_198 : ∀ w ∈ ([(Cond.methodLink "MonitorBoardModel" (778 : Nat) ({ cls := "MonitorBoardModel", name := "addText", desc := "(Ljava/lang/String;II)V" } : MethodName)), (Cond.instanceMethod ({ cls := "MonitorBoardModel", name := "addText", desc := "(Ljava/lang/String;II)V" } : MethodName)), (Cond.selects "MonitorBoardModel" ({ cls := "MonitorBoardModel", name := "addText", desc := "(Ljava/lang/String;II)V" } : MethodName) ({ cls := "MonitorBoardModel", name := "addText", desc := "(Ljava/lang/String;II)V" } : MethodName)), (Cond.initialized "MonitorBoardModel")] : List Cond), w ∈ fwT := fwT_all [2833, 2835, 274, 298] (by decide +kernel) (by decide +kernel)
theorem c_rHex_204 : ∀ w ∈ ([(Cond.methodLink "MonitorBoardModel" (773 : Nat) ({ cls := "MonitorBoardModel", name := "add", desc := "(I)V" } : MethodName)), (Cond.instanceMethod ({ cls := "MonitorBoardModel", name := "add", desc := "(I)V" } : MethodName)), (Cond.selects "MonitorBoardModel" ({ cls := "MonitorBoardModel", name := "add", desc := "(I)V" } : MethodName) ({ cls := "MonitorBoardModel", name := "add", desc := "(I)V" } : MethodName)), (Cond.initialized "MonitorBoardModel")] : List Cond), w ∈ fwT := c_rAddText_16
theorem c_rHex_210 : ∀ w ∈ ([(Cond.methodLink "MonitorBoardModel" (773 : Nat) ({ cls := "MonitorBoardModel", name := "add", desc := "(I)V" } : MethodName)), (Cond.instanceMethod ({ cls := "MonitorBoardModel", name := "add", desc := "(I)V" } : MethodName)), (Cond.selects "MonitorBoardModel" ({ cls := "MonitorBoardModel", name := "add", desc := "(I)V" } : MethodName) ({ cls := "MonitorBoardModel", name := "add", desc := "(I)V" } : MethodName)), (Cond.initialized "MonitorBoardModel")] : List Cond), w ∈ fwT := c_rAddText_16
theorem c_putText_4 : ∀ w ∈ ([(Cond.methodLink "MonitorBoard" (226 : Nat) ({ cls := "java/lang/String", name := "length", desc := "()I" } : MethodName)), (Cond.instanceMethod ({ cls := "java/lang/String", name := "length", desc := "()I" } : MethodName)), (Cond.selects "java/lang/String" ({ cls := "java/lang/String", name := "length", desc := "()I" } : MethodName) ({ cls := "java/lang/String", name := "length", desc := "()I" } : MethodName)), (Cond.initialized "java/lang/String")] : List Cond), w ∈ fwT := fwT_all [570, 571, 572, 290] (by decide +kernel) (by decide +kernel)
theorem c_putText_13 : ∀ w ∈ ([(Cond.methodLink "MonitorBoard" (217 : Nat) ({ cls := "java/lang/String", name := "charAt", desc := "(I)C" } : MethodName)), (Cond.instanceMethod ({ cls := "java/lang/String", name := "charAt", desc := "(I)C" } : MethodName)), (Cond.selects "java/lang/String" ({ cls := "java/lang/String", name := "charAt", desc := "(I)C" } : MethodName) ({ cls := "java/lang/String", name := "charAt", desc := "(I)C" } : MethodName)), (Cond.initialized "java/lang/String")] : List Cond), w ∈ fwT := fwT_all [580, 581, 582, 290] (by decide +kernel) (by decide +kernel)
theorem c_putText_16 : ∀ w ∈ ([(Cond.methodLink "MonitorBoard" (223 : Nat) ({ cls := "MonitorBoard", name := "putSign", desc := "(I)V" } : MethodName)), (Cond.instanceMethod ({ cls := "MonitorBoard", name := "putSign", desc := "(I)V" } : MethodName)), (Cond.selects "MonitorBoard" ({ cls := "MonitorBoard", name := "putSign", desc := "(I)V" } : MethodName) ({ cls := "MonitorBoard", name := "putSign", desc := "(I)V" } : MethodName)), (Cond.initialized "MonitorBoard")] : List Cond), w ∈ fwT := fwT_all [1926, 1928, 144, 282] (by decide +kernel) (by decide +kernel)
section REF
variable {l : Launch} {Z : fwZ} {re : List fwE} {σ : fwS}
theorem ct_rAdd {x : Int32} {t : Nat} (h : σ.1 37 11 = nI t) (ht : t < 70000) : fwC l Z m_rAdd 1 0 0 [.ref 37, .int x] (shMd re) σ (fun w sh' σ' => w = none ∧ sh' = shMd re ∧ σ'.1 37 11 = nI (t + 1)) := by
  refine fwC_of (ls := [some (.ref 37), some (.int x)]) (by decide +kernel) rfl (by rw [fw_sl1]; exact Nat.le_refl 2) ?_
  refine fwRun_ok k_rAdd_0_ok rfl (by show vp_in (σ.1 37 11) 70000; rw [h]; exact vp_in_nI ht (by decide)) ?_
  refine fwg_vret rfl (Nat.le_refl _) (Nat.le_refl _) ⟨rfl, rfl, ?_⟩ d_rAdd_21
  show (fwI _ 37 11 _).1 37 11 = _
  rw [fwI_eq, fwI_ne (by decide), h]
  exact nI_1 t
theorem rAddText_loop {c n : Nat} (hc : c < fwNs) (hn : n ≤ fwSl.getD c 0) (hL : fwSl.getD c 0 < 2 ^ 31) {Post : fwPost} : ∀ (q j t : Nat) (σ : fwS), j + q = n → σ.1 37 11 = nI t → t + q ≤ 70000 → (∀ σ' : fwS, σ'.1 37 11 = nI (t + q) → Post none (shMd re) σ') → fwG l Z m_rAddText 5 0 0 Post 0 0 3 [some (.ref 37), some (.retAddr c), some (.int 0), some (.int (nI n)), some (.int (nI j))] [] (shMd re) σ := by
  intro q
  induction q with
  | zero =>
    intro j t σ hj h ht hp
    obtain rfl : j = n := by omega
    refine fwRun_ok k_rAddText_3_ok rfl trivial ?_
    refine fwg_cmp 25 d_rAddText_6 (by decide) (fun _ => ?_) (fun q => absurd (nI_le (Nat.le_refl j) (by omega)) q)
    exact fwg_vret rfl (Nat.le_refl _) (Nat.le_refl _) (hp σ h) d_rAddText_25
  | succ q ih =>
    intro j t σ hj h ht hp
    refine fwRun_ok k_rAddText_3_ok rfl trivial ?_
    refine fwg_cmp 25 d_rAddText_6 (by decide) (fun q => absurd (show nI n ≤ nI j from q) (nI_ge (by omega) (by omega))) (fun _ => ?_)
    refine fwRun_ok k_rAddText_9_ok rfl trivial ?_
    refine fwg_callK (n := 1) (as := [.int (nI j)]) (r := [.ref 37]) (ct_schar (j := j) hc (by omega)) ⟨by decide, by decide, by decide +kernel⟩ rfl m_schar_in c_rAddText_13 hc rfl rfl (Nat.le_of_ble_eq_true rfl) d_rAddText_13 ⟨Nat.le_of_ble_eq_true rfl, Nat.le_of_ble_eq_true rfl⟩ ⟨Nat.le_refl _, Nat.le_refl _⟩ (fun v sh' σ1 hq => ?_)
    obtain ⟨rfl, rfl, rfl⟩ := hq
    refine fwg_callV (n := 1) (i := 37) (as := [.int (fwCh c j)]) (r := []) (ct_rAdd h (by omega)) ⟨by decide, by decide, by decide +kernel⟩ m_rAdd_in c_rAddText_16 rfl rfl rfl rfl (Nat.le_of_ble_eq_true rfl) d_rAddText_16 ⟨Nat.le_of_ble_eq_true rfl, Nat.le_of_ble_eq_true rfl⟩ ⟨Nat.le_refl _, Nat.le_refl _⟩ (fun v sh' σ2 hq => ?_)
    obtain ⟨rfl, rfl, h2⟩ := hq
    refine fwRun_ok k_rAddText_19_ok rfl trivial ?_
    refine fwg_goto 3 d_rAddText_22 (by decide) ?_
    have := ih (j + 1) (t + 1) σ2 (by omega) h2 (by omega) (fun σ' h' => hp σ' (by rw [h', show t + 1 + q = t + (q + 1) by omega]))
    rw [← nI_1] at this
    exact this
theorem ct_rAddText {c n t : Nat} (hc : c < fwNs) (hn : n ≤ fwSl.getD c 0) (h : σ.1 37 11 = nI t) (ht : t + n ≤ 70000) : fwC l Z m_rAddText 5 0 0 [.ref 37, .retAddr c, .int 0, .int (nI n)] (shMd re) σ (fun w sh' σ' => w = none ∧ sh' = shMd re ∧ σ'.1 37 11 = nI (t + n)) := by
  obtain ⟨-, hL, -⟩ := fw_sc c hc
  refine fwC_of (ls := [some (.ref 37), some (.retAddr c), some (.int 0), some (.int (nI n)), none]) (by decide +kernel) rfl (by rw [fw_sl1]; exact Nat.le_of_ble_eq_true rfl) ?_
  refine fwRun_ok k_rAddText_0_ok rfl trivial ?_
  exact rAddText_loop hc hn hL n 0 t σ (by omega) h ht (fun σ' h' => ⟨rfl, rfl, h'⟩)
theorem ct_rHex (hF : FreM σ) : fwC l Z m_rHex 6 0 0 [.ref 37] (shMd re) σ (fun w sh' _ => w = some (.int (nI 13)) ∧ sh' = shMd re) := by
  refine fwC_of (ls := [some (.ref 37), none, none, none, none]) (by decide +kernel) rfl (by rw [fw_sl1]; exact Nat.le_of_ble_eq_true rfl) ?_
  have h11 : σ.1 37 11 = 0 := hF.1.2.2.2.2.2.1
  refine fwRun_ok k_rHex_0_ok rfl trivial ?_
  refine fwg_cmp 17 d_rHex_7 (by decide) (fun q => absurd (show (2000 : Int32) ≤ σ.1 37 11 from q) (by rw [h11]; decide)) (fun _ => ?_)
  refine fwRun_ok k_rHex_10_ok rfl trivial ?_
  refine fwg_goto 20 d_rHex_14 (by decide) ?_
  show fwG l Z m_rHex _ _ _ _ _ _ 20 _ [.int (σ.1 37 11)] _ _
  rw [h11]
  refine fwRun_ok k_rHex_20_ok rfl trivial ?_
  refine fwRun_ok k_rHex_23_ok rfl trivial ?_
  refine fwg_cmp 46 d_rHex_25 (by decide) (fun _ => ?_) (fun q => absurd (show (0 : Int32) ≤ 0 by decide) q)
  refine fwRun_ok k_rHex_46_ok rfl trivial ?_
  refine fw_cut (fun s => s.1 37 11 = nI 0) fwI_eq (fun σ1 h1 => ?_)
  refine fwRun_ok k_rHex_53_ok rfl trivial ?_
  refine fwg_cmp 191 d_rHex_55 (by decide) (fun q => absurd (show (0 : Int32) < 0 from q) (by decide)) (fun _ => ?_)
  refine fwRun_ok k_rHex_58_ok rfl trivial ?_
  refine fwg_cmp 72 d_rHex_63 (by decide) (fun q => absurd (show (16 : Int32) ≤ 0 - 0 from q) (by decide)) (fun _ => ?_)
  refine fwRun_ok k_rHex_66_ok rfl trivial ?_
  refine fwg_goto 74 d_rHex_69 (by decide) ?_
  refine fwRun_ok k_rHex_74_ok rfl trivial ?_
  refine fwg_if 82 d_rHex_76 (by decide) (fun q => absurd (show (0 : Int32) - 0 = 0 by decide) q) (fun _ => ?_)
  refine fwg_goto 191 d_rHex_79 (by decide) ?_
  refine fwRun_ok k_rHex_191_ok rfl trivial ?_
  refine fwg_ldcwS (q := ("MonitorBoardModel", 806, ":00000001FF", 50)) rfl (List.mem_of_getElem? (i := 71) rfl) d_rHex_192 ?_
  refine fwRun_ok k_rHex_195_ok rfl trivial ?_
  refine fwg_callV (n := 3) (i := 37) (as := [.retAddr 50, .int 0, .int (nI 11)]) (r := []) (ct_rAddText (c := 50) (n := 11) (t := 0) (by decide) (by decide) h1 (by decide)) ⟨by decide, by decide, by decide +kernel⟩ m_rAddText_in c_rHex_198 rfl rfl rfl rfl (Nat.le_of_ble_eq_true rfl) d_rHex_198 ⟨Nat.le_of_ble_eq_true rfl, Nat.le_of_ble_eq_true rfl⟩ ⟨Nat.le_refl _, Nat.le_refl _⟩ (fun v sh' σ2 hq => ?_)
  obtain ⟨rfl, rfl, h2⟩ := hq
  refine fwRun_ok k_rHex_201_ok rfl trivial ?_
  refine fwg_callV (n := 1) (i := 37) (as := [.int 13]) (r := []) (ct_rAdd (t := 11) h2 (by decide)) ⟨by decide, by decide, by decide +kernel⟩ m_rAdd_in c_rHex_204 rfl rfl rfl rfl (Nat.le_of_ble_eq_true rfl) d_rHex_204 ⟨Nat.le_of_ble_eq_true rfl, Nat.le_of_ble_eq_true rfl⟩ ⟨Nat.le_refl _, Nat.le_refl _⟩ (fun v sh' σ3 hq => ?_)
  obtain ⟨rfl, rfl, h3⟩ := hq
  refine fwRun_ok k_rHex_207_ok rfl trivial ?_
  refine fwg_callV (n := 1) (i := 37) (as := [.int 10]) (r := []) (ct_rAdd (t := 12) h3 (by decide)) ⟨by decide, by decide, by decide +kernel⟩ m_rAdd_in c_rHex_210 rfl rfl rfl rfl (Nat.le_of_ble_eq_true rfl) d_rHex_210 ⟨Nat.le_of_ble_eq_true rfl, Nat.le_of_ble_eq_true rfl⟩ ⟨Nat.le_refl _, Nat.le_refl _⟩ (fun v sh' σ4 hq => ?_)
  obtain ⟨rfl, rfl, h4⟩ := hq
  refine fwRun_ok k_rHex_213_ok rfl trivial ?_
  refine fwg_iret rfl (Nat.le_refl _) (Nat.le_refl _) ⟨?_, rfl⟩ d_rHex_217
  show some (Value.int (σ4.1 37 11)) = _
  rw [h4]
theorem ct_putSign {x : Int32} {t : Nat} (h : σ.1 0 11 = nI t) (ht : t < 58112) : fwC l Z m_putSign 1 0 0 [.ref 0, .int x] (shMB re) σ (fun w sh' σ' => w = none ∧ sh' = shMB re ∧ σ'.1 0 11 = nI (t + 1) ∧ fwSame [0, 2] σ σ') := by
  refine fwC_of (ls := [some (.ref 0), some (.int x)]) (by decide +kernel) rfl (by rw [fw_sl1]; exact Nat.le_refl 2) ?_
  refine fwRun_ok k_putSign_0_ok rfl trivial ?_
  refine fwg_cmp 30 d_putSign_6 (by decide) (fun q => absurd (show nI 58112 ≤ nI t from h ▸ q) (nI_ge ht (by decide))) (fun _ => ?_)
  refine fwRun_ok k_putSign_9_ok rfl (by show vp_in (σ.1 0 11) 58112; rw [h]; exact vp_in_nI ht (by decide)) ?_
  refine fwg_vret rfl (Nat.le_refl _) (Nat.le_refl _) ⟨rfl, rfl, ?_, (fwSame_I (by decide)).tr (fwSame_I (by decide))⟩ d_putSign_30
  show (fwI _ 0 11 _).1 0 11 = _
  rw [fwI_eq, fwI_ne (by decide), h]
  exact nI_1 t
theorem putText_loop {c : Nat} (hc : c < fwNs) (hL : fwSl.getD c 0 < 2 ^ 31) {Post : fwPost} : ∀ (q j t : Nat) (σ : fwS), j + q = fwSl.getD c 0 → σ.1 0 11 = nI t → t + q ≤ 58112 → (∀ σ' : fwS, σ'.1 0 11 = nI (t + q) → fwSame [0, 2] σ σ' → Post none (shMB re) σ') → fwG l Z m_putText 5 0 0 Post 0 0 2 [some (.ref 0), some (.retAddr c), some (.int (nI j))] [] (shMB re) σ := by
  intro q
  induction q with
  | zero =>
    intro j t σ hj h ht hp
    refine fwRun_ok k_putText_2_ok rfl trivial ?_
    refine fwg_callK (n := 0) (as := []) (r := [.int (nI j)]) (ct_slen hc) ⟨by decide, by decide, by decide +kernel⟩ rfl m_slen_in c_putText_4 hc rfl rfl (Nat.le_of_ble_eq_true rfl) d_putText_4 ⟨Nat.le_of_ble_eq_true rfl, Nat.le_of_ble_eq_true rfl⟩ ⟨Nat.le_refl _, Nat.le_refl _⟩ (fun v sh' σ' hq => ?_)
    obtain ⟨rfl, rfl, rfl⟩ := hq
    refine fwg_cmp 25 d_putText_7 (by decide) (fun _ => ?_) (fun h => absurd (nI_le (by omega) (by omega)) h)
    exact fwg_vret rfl (Nat.le_refl _) (Nat.le_refl _) (hp σ' h fwSame.rf) d_putText_25
  | succ q ih =>
    intro j t σ hj h ht hp
    refine fwRun_ok k_putText_2_ok rfl trivial ?_
    refine fwg_callK (n := 0) (as := []) (r := [.int (nI j)]) (ct_slen hc) ⟨by decide, by decide, by decide +kernel⟩ rfl m_slen_in c_putText_4 hc rfl rfl (Nat.le_of_ble_eq_true rfl) d_putText_4 ⟨Nat.le_of_ble_eq_true rfl, Nat.le_of_ble_eq_true rfl⟩ ⟨Nat.le_refl _, Nat.le_refl _⟩ (fun v sh' σ' hq => ?_)
    obtain ⟨rfl, rfl, rfl⟩ := hq
    refine fwg_cmp 25 d_putText_7 (by decide) (fun h => absurd (show nI (fwSl.getD c 0) ≤ nI j from h) (nI_ge (by omega) hL)) (fun _ => ?_)
    refine fwRun_ok k_putText_10_ok rfl trivial ?_
    refine fwg_callK (n := 1) (as := [.int (nI j)]) (r := [.ref 0]) (ct_schar (j := j) hc (by omega)) ⟨by decide, by decide, by decide +kernel⟩ rfl m_schar_in c_putText_13 hc rfl rfl (Nat.le_of_ble_eq_true rfl) d_putText_13 ⟨Nat.le_of_ble_eq_true rfl, Nat.le_of_ble_eq_true rfl⟩ ⟨Nat.le_refl _, Nat.le_refl _⟩ (fun v sh' σ'' hq => ?_)
    obtain ⟨rfl, rfl, rfl⟩ := hq
    refine fwg_callV (n := 1) (i := 0) (as := [.int (fwCh c j)]) (r := []) (ct_putSign h (by omega)) ⟨by decide, by decide, by decide +kernel⟩ m_putSign_in c_putText_16 rfl rfl rfl rfl (Nat.le_of_ble_eq_true rfl) d_putText_16 ⟨Nat.le_of_ble_eq_true rfl, Nat.le_of_ble_eq_true rfl⟩ ⟨Nat.le_refl _, Nat.le_refl _⟩ (fun v sh' σ3 hq => ?_)
    obtain ⟨rfl, rfl, h3, s3⟩ := hq
    refine fwRun_ok k_putText_19_ok rfl trivial ?_
    refine fwg_goto 2 d_putText_22 (by decide) ?_
    have := ih (j + 1) (t + 1) σ3 (by omega) h3 (by omega) (fun σ4 h4 s4 => hp σ4 (by rw [h4, show t + 1 + q = t + (q + 1) by omega]) (s3.tr s4))
    rw [← nI_1] at this
    exact this
theorem ct_putText {c t : Nat} (hc : c < fwNs) (h : σ.1 0 11 = nI t) (ht : t + fwSl.getD c 0 ≤ 58112) : fwC l Z m_putText 5 0 0 [.ref 0, .retAddr c] (shMB re) σ (fun w sh' σ' => w = none ∧ sh' = shMB re ∧ σ'.1 0 11 = nI (t + fwSl.getD c 0) ∧ fwSame [0, 2] σ σ') := by
  obtain ⟨-, hL, -⟩ := fw_sc c hc
  refine fwC_of (ls := [some (.ref 0), some (.retAddr c), none]) (by decide +kernel) rfl (by rw [fw_sl1]; exact Nat.le_of_ble_eq_true rfl) ?_
  refine fwRun_ok k_putText_0_ok rfl trivial ?_
  exact putText_loop hc hL (fwSl.getD c 0) 0 t σ (by omega) h (by omega) (fun σ' h' s' => ⟨rfl, rfl, h', s'⟩)
end REF
