/-! methods, their instructions, by program (wip/whole/methods.py) -/
/-- MonitorBoardModel.reads(I)I -/
abbrev m_rReads : fwM := (⟨"MonitorBoardModel", "reads", "(I)I"⟩, prog_13_method_58_code, 3, (some FieldType.int))
theorem m_rReads_in : Cond.code m_rReads.1 m_rReads.2.1 m_rReads.2.2.1 m_rReads.2.2.2 ∈ fwT := fwT_mem (List.mem_of_getElem? (i := 2308) (by decide +kernel)) rfl
def k_rReads_0 : List fwO := [(.aload_n 0, 0, 0, .null), (.getfield 48, 1, 35, .retAddr 198)]
theorem k_rReads_0_ok : fwChain m_rReads.1.cls m_rReads.2.1 0 k_rReads_0 4 = true := by decide +kernel
theorem d_rReads_4 : decode m_rReads.2.1 4 = .ok (.ifCond .ge 8, 3) := by decide +kernel
def k_rReads_7 : List fwO := [(.aload_n 0, 0, 0, .null), (.iconst 0, 0, 0, .int 0), (.putfield 48, 1, 35, .retAddr 198)]
theorem k_rReads_7_ok : fwChain m_rReads.1.cls m_rReads.2.1 7 k_rReads_7 12 = true := by decide +kernel
def k_rReads_12 : List fwO := [(.aload_n 0, 0, 0, .null), (.getfield 48, 1, 35, .retAddr 198), (.iload_n 1, 0, 0, .null)]
theorem k_rReads_12_ok : fwChain m_rReads.1.cls m_rReads.2.1 12 k_rReads_12 17 = true := by decide +kernel
theorem d_rReads_17 : decode m_rReads.2.1 17 = .ok (.if_icmp .ge 159, 3) := by decide +kernel
def k_rReads_20 : List fwO := [(.aload_n 0, 0, 0, .null), (.getfield 83, 1, 8, .retAddr 171)]
theorem k_rReads_20_ok : fwChain m_rReads.1.cls m_rReads.2.1 20 k_rReads_20 24 = true := by decide +kernel
theorem d_rReads_24 : decode m_rReads.2.1 24 = .ok (.ifCond .ne 5, 3) := by decide +kernel
def k_rReads_27 : List fwO := [(.iconst 0, 0, 0, .int 0)]
theorem k_rReads_27_ok : fwChain m_rReads.1.cls m_rReads.2.1 27 k_rReads_27 28 = true := by decide +kernel
theorem d_rReads_28 : decode m_rReads.2.1 28 = .ok (.ireturn, 1) := by decide +kernel
def k_rReads_29 : List fwO := [(.aload_n 0, 0, 0, .null)]
theorem k_rReads_29_ok : fwChain m_rReads.1.cls m_rReads.2.1 29 k_rReads_29 30 = true := by decide +kernel
theorem d_rReads_30 : decode m_rReads.2.1 30 = .ok (.invokevirtual 222, 3) := by decide +kernel
def k_rReads_33 : List fwO := [(.bipush 127, 0, 0, .int 127), (.iand, 0, 0, .null), (.istore_n 2, 0, 0, .null), (.iload_n 2, 0, 0, .null), (.bipush 13, 0, 0, .int 13)]
theorem k_rReads_33_ok : fwChain m_rReads.1.cls m_rReads.2.1 33 k_rReads_33 40 = true := by decide +kernel
theorem d_rReads_40 : decode m_rReads.2.1 40 = .ok (.if_icmp .eq 136, 3) := by decide +kernel
def k_rReads_43 : List fwO := [(.iload_n 2, 0, 0, .null), (.bipush 10, 0, 0, .int 10)]
theorem k_rReads_43_ok : fwChain m_rReads.1.cls m_rReads.2.1 43 k_rReads_43 46 = true := by decide +kernel
theorem d_rReads_46 : decode m_rReads.2.1 46 = .ok (.if_icmp .ne 6, 3) := by decide +kernel
theorem d_rReads_49 : decode m_rReads.2.1 49 = .ok (.goto 127, 3) := by decide +kernel
def k_rReads_52 : List fwO := [(.iload_n 2, 0, 0, .null), (.iconst 3, 0, 0, .int 3)]
theorem k_rReads_52_ok : fwChain m_rReads.1.cls m_rReads.2.1 52 k_rReads_52 54 = true := by decide +kernel
theorem d_rReads_54 : decode m_rReads.2.1 54 = .ok (.if_icmp .ne 17, 3) := by decide +kernel
def k_rReads_57 : List fwO := [(.aload_n 0, 0, 0, .null), (.getfield 48, 1, 35, .retAddr 198)]
theorem k_rReads_57_ok : fwChain m_rReads.1.cls m_rReads.2.1 57 k_rReads_57 61 = true := by decide +kernel
theorem d_rReads_61 : decode m_rReads.2.1 61 = .ok (.ifCond .ne 10, 3) := by decide +kernel
def k_rReads_64 : List fwO := [(.aload_n 0, 0, 0, .null), (.iconst (-1), 0, 0, .int (-1)), (.putfield 48, 1, 35, .retAddr 198), (.iconst 2, 0, 0, .int 2)]
theorem k_rReads_64_ok : fwChain m_rReads.1.cls m_rReads.2.1 64 k_rReads_64 70 = true := by decide +kernel
theorem d_rReads_70 : decode m_rReads.2.1 70 = .ok (.ireturn, 1) := by decide +kernel
def k_rReads_71 : List fwO := [(.iload_n 2, 0, 0, .null), (.bipush 8, 0, 0, .int 8)]
theorem k_rReads_71_ok : fwChain m_rReads.1.cls m_rReads.2.1 71 k_rReads_71 74 = true := by decide +kernel
theorem d_rReads_74 : decode m_rReads.2.1 74 = .ok (.if_icmp .eq 9, 3) := by decide +kernel
def k_rReads_77 : List fwO := [(.iload_n 2, 0, 0, .null), (.bipush 127, 0, 0, .int 127)]
theorem k_rReads_77_ok : fwChain m_rReads.1.cls m_rReads.2.1 77 k_rReads_77 80 = true := by decide +kernel
theorem d_rReads_80 : decode m_rReads.2.1 80 = .ok (.if_icmp .ne 44, 3) := by decide +kernel
def k_rReads_83 : List fwO := [(.aload_n 0, 0, 0, .null), (.getfield 48, 1, 35, .retAddr 198)]
theorem k_rReads_83_ok : fwChain m_rReads.1.cls m_rReads.2.1 83 k_rReads_83 87 = true := by decide +kernel
theorem d_rReads_87 : decode m_rReads.2.1 87 = .ok (.ifCond .ne 6, 3) := by decide +kernel
theorem d_rReads_90 : decode m_rReads.2.1 90 = .ok (.goto (-78), 3) := by decide +kernel
def k_rReads_93 : List fwO := [(.aload_n 0, 0, 0, .null), (.dup, 0, 0, .null), (.getfield 48, 1, 35, .retAddr 198), (.iconst 1, 0, 0, .int 1), (.isub, 0, 0, .null), (.putfield 48, 1, 35, .retAddr 198), (.aload_n 0, 0, 0, .null), (.bipush 8, 0, 0, .int 8)]
theorem k_rReads_93_ok : fwChain m_rReads.1.cls m_rReads.2.1 93 k_rReads_93 106 = true := by decide +kernel
theorem d_rReads_106 : decode m_rReads.2.1 106 = .ok (.invokevirtual 149, 3) := by decide +kernel
def k_rReads_109 : List fwO := [(.aload_n 0, 0, 0, .null), (.bipush 32, 0, 0, .int 32)]
theorem k_rReads_109_ok : fwChain m_rReads.1.cls m_rReads.2.1 109 k_rReads_109 112 = true := by decide +kernel
theorem d_rReads_112 : decode m_rReads.2.1 112 = .ok (.invokevirtual 149, 3) := by decide +kernel
def k_rReads_115 : List fwO := [(.aload_n 0, 0, 0, .null), (.bipush 8, 0, 0, .int 8)]
theorem k_rReads_115_ok : fwChain m_rReads.1.cls m_rReads.2.1 115 k_rReads_115 118 = true := by decide +kernel
theorem d_rReads_118 : decode m_rReads.2.1 118 = .ok (.invokevirtual 149, 3) := by decide +kernel
theorem d_rReads_121 : decode m_rReads.2.1 121 = .ok (.goto (-109), 3) := by decide +kernel
def k_rReads_124 : List fwO := [(.aload_n 0, 0, 0, .null), (.getfield 52, 1, 36, .retAddr 199), (.aload_n 0, 0, 0, .null), (.getfield 48, 1, 35, .retAddr 198), (.iload_n 2, 0, 0, .null), (.i2b, 0, 0, .null), (.bastore, 0, 0, .null), (.aload_n 0, 0, 0, .null), (.dup, 0, 0, .null), (.getfield 48, 1, 35, .retAddr 198), (.iconst 1, 0, 0, .int 1), (.iadd, 0, 0, .null), (.putfield 48, 1, 35, .retAddr 198), (.iload_n 2, 0, 0, .null), (.bipush 32, 0, 0, .int 32)]
theorem k_rReads_124_ok : fwChain m_rReads.1.cls m_rReads.2.1 124 k_rReads_124 148 = true := by decide +kernel
theorem d_rReads_148 : decode m_rReads.2.1 148 = .ok (.if_icmp .ge 20, 3) := by decide +kernel
def k_rReads_151 : List fwO := [(.aload_n 0, 0, 0, .null), (.bipush 94, 0, 0, .int 94)]
theorem k_rReads_151_ok : fwChain m_rReads.1.cls m_rReads.2.1 151 k_rReads_151 154 = true := by decide +kernel
theorem d_rReads_154 : decode m_rReads.2.1 154 = .ok (.invokevirtual 149, 3) := by decide +kernel
def k_rReads_157 : List fwO := [(.aload_n 0, 0, 0, .null), (.iload_n 2, 0, 0, .null), (.bipush 64, 0, 0, .int 64), (.iadd, 0, 0, .null)]
theorem k_rReads_157_ok : fwChain m_rReads.1.cls m_rReads.2.1 157 k_rReads_157 162 = true := by decide +kernel
theorem d_rReads_162 : decode m_rReads.2.1 162 = .ok (.invokevirtual 149, 3) := by decide +kernel
theorem d_rReads_165 : decode m_rReads.2.1 165 = .ok (.goto 8, 3) := by decide +kernel
def k_rReads_168 : List fwO := [(.aload_n 0, 0, 0, .null), (.iload_n 2, 0, 0, .null)]
theorem k_rReads_168_ok : fwChain m_rReads.1.cls m_rReads.2.1 168 k_rReads_168 170 = true := by decide +kernel
theorem d_rReads_170 : decode m_rReads.2.1 170 = .ok (.invokevirtual 149, 3) := by decide +kernel
theorem d_rReads_173 : decode m_rReads.2.1 173 = .ok (.goto (-161), 3) := by decide +kernel
def k_rReads_176 : List fwO := [(.aload_n 0, 0, 0, .null), (.bipush 13, 0, 0, .int 13)]
theorem k_rReads_176_ok : fwChain m_rReads.1.cls m_rReads.2.1 176 k_rReads_176 179 = true := by decide +kernel
theorem d_rReads_179 : decode m_rReads.2.1 179 = .ok (.invokevirtual 149, 3) := by decide +kernel
def k_rReads_182 : List fwO := [(.iconst 1, 0, 0, .int 1)]
theorem k_rReads_182_ok : fwChain m_rReads.1.cls m_rReads.2.1 182 k_rReads_182 183 = true := by decide +kernel
theorem d_rReads_183 : decode m_rReads.2.1 183 = .ok (.ireturn, 1) := by decide +kernel
/-- MonitorBoardModel.line()Z -/
abbrev m_rLine : fwM := (⟨"MonitorBoardModel", "line", "()Z"⟩, prog_13_method_81_code, 3, (some FieldType.boolean))
theorem m_rLine_in : Cond.code m_rLine.1 m_rLine.2.1 m_rLine.2.2.1 m_rLine.2.2.2 ∈ fwT := fwT_mem (List.mem_of_getElem? (i := 2304) (by decide +kernel)) rfl
def k_rLine_0 : List fwO := [(.aload_n 0, 0, 0, .null), (.bipush 127, 0, 0, .int 127)]
theorem k_rLine_0_ok : fwChain m_rLine.1.cls m_rLine.2.1 0 k_rLine_0 3 = true := by decide +kernel
theorem d_rLine_3 : decode m_rLine.2.1 3 = .ok (.invokevirtual 317, 3) := by decide +kernel
def k_rLine_6 : List fwO := [(.istore_n 1, 0, 0, .null), (.iload_n 1, 0, 0, .null)]
theorem k_rLine_6_ok : fwChain m_rLine.1.cls m_rLine.2.1 6 k_rLine_6 8 = true := by decide +kernel
theorem d_rLine_8 : decode m_rLine.2.1 8 = .ok (.ifCond .ne 5, 3) := by decide +kernel
def k_rLine_11 : List fwO := [(.iconst 0, 0, 0, .int 0)]
theorem k_rLine_11_ok : fwChain m_rLine.1.cls m_rLine.2.1 11 k_rLine_11 12 = true := by decide +kernel
theorem d_rLine_12 : decode m_rLine.2.1 12 = .ok (.ireturn, 1) := by decide +kernel
def k_rLine_13 : List fwO := [(.iload_n 1, 0, 0, .null), (.iconst 2, 0, 0, .int 2)]
theorem k_rLine_13_ok : fwChain m_rLine.1.cls m_rLine.2.1 13 k_rLine_13 15 = true := by decide +kernel
theorem d_rLine_15 : decode m_rLine.2.1 15 = .ok (.if_icmp .ne 9, 3) := by decide +kernel
def k_rLine_18 : List fwO := [(.aload_n 0, 0, 0, .null)]
theorem k_rLine_18_ok : fwChain m_rLine.1.cls m_rLine.2.1 18 k_rLine_18 19 = true := by decide +kernel
theorem d_rLine_19 : decode m_rLine.2.1 19 = .ok (.invokevirtual 268, 3) := by decide +kernel
def k_rLine_22 : List fwO := [(.iconst 1, 0, 0, .int 1)]
theorem k_rLine_22_ok : fwChain m_rLine.1.cls m_rLine.2.1 22 k_rLine_22 23 = true := by decide +kernel
theorem d_rLine_23 : decode m_rLine.2.1 23 = .ok (.ireturn, 1) := by decide +kernel
def k_rLine_24 : List fwO := [(.aload_n 0, 0, 0, .null), (.aload_n 0, 0, 0, .null), (.getfield 48, 1, 35, .retAddr 198), (.putfield 413, 1, 41, .retAddr 204), (.aload_n 0, 0, 0, .null), (.iconst (-1), 0, 0, .int (-1)), (.putfield 48, 1, 35, .retAddr 198), (.iconst 0, 0, 0, .int 0), (.istore_n 2, 0, 0, .null)]
theorem k_rLine_24_ok : fwChain m_rLine.1.cls m_rLine.2.1 24 k_rLine_24 39 = true := by decide +kernel
def k_rLine_39 : List fwO := [(.iload_n 2, 0, 0, .null), (.aload_n 0, 0, 0, .null), (.getfield 413, 1, 41, .retAddr 204)]
theorem k_rLine_39_ok : fwChain m_rLine.1.cls m_rLine.2.1 39 k_rLine_39 44 = true := by decide +kernel
theorem d_rLine_44 : decode m_rLine.2.1 44 = .ok (.if_icmp .ge 43, 3) := by decide +kernel
def k_rLine_47 : List fwO := [(.aload_n 0, 0, 0, .null), (.getfield 52, 1, 36, .retAddr 199), (.iload_n 2, 0, 0, .null), (.baload, 0, 0, .null), (.bipush 97, 0, 0, .int 97)]
theorem k_rLine_47_ok : fwChain m_rLine.1.cls m_rLine.2.1 47 k_rLine_47 55 = true := by decide +kernel
theorem d_rLine_55 : decode m_rLine.2.1 55 = .ok (.if_icmp .lt 26, 3) := by decide +kernel
def k_rLine_58 : List fwO := [(.aload_n 0, 0, 0, .null), (.getfield 52, 1, 36, .retAddr 199), (.iload_n 2, 0, 0, .null), (.baload, 0, 0, .null), (.bipush 122, 0, 0, .int 122)]
theorem k_rLine_58_ok : fwChain m_rLine.1.cls m_rLine.2.1 58 k_rLine_58 66 = true := by decide +kernel
theorem d_rLine_66 : decode m_rLine.2.1 66 = .ok (.if_icmp .gt 15, 3) := by decide +kernel
def k_rLine_69 : List fwO := [(.aload_n 0, 0, 0, .null), (.getfield 52, 1, 36, .retAddr 199), (.iload_n 2, 0, 0, .null), (.dup2, 0, 0, .null), (.baload, 0, 0, .null), (.bipush 32, 0, 0, .int 32), (.isub, 0, 0, .null), (.i2b, 0, 0, .null), (.bastore, 0, 0, .null)]
theorem k_rLine_69_ok : fwChain m_rLine.1.cls m_rLine.2.1 69 k_rLine_69 81 = true := by decide +kernel
def k_rLine_81 : List fwO := [(.iinc 2 1, 0, 0, .int 1)]
theorem k_rLine_81_ok : fwChain m_rLine.1.cls m_rLine.2.1 81 k_rLine_81 84 = true := by decide +kernel
theorem d_rLine_84 : decode m_rLine.2.1 84 = .ok (.goto (-45), 3) := by decide +kernel
def k_rLine_87 : List fwO := [(.aload_n 0, 0, 0, .null), (.iconst 0, 0, 0, .int 0), (.putfield 320, 1, 39, .retAddr 202), (.aload_n 0, 0, 0, .null)]
theorem k_rLine_87_ok : fwChain m_rLine.1.cls m_rLine.2.1 87 k_rLine_87 93 = true := by decide +kernel
theorem d_rLine_93 : decode m_rLine.2.1 93 = .ok (.invokevirtual 416, 3) := by decide +kernel
def k_rLine_96 : List fwO := [(.aload_n 0, 0, 0, .null), (.getfield 116, 1, 18, .retAddr 181)]
theorem k_rLine_96_ok : fwChain m_rLine.1.cls m_rLine.2.1 96 k_rLine_96 100 = true := by decide +kernel
theorem d_rLine_100 : decode m_rLine.2.1 100 = .ok (.ifCond .eq 14, 3) := by decide +kernel
def k_rLine_103 : List fwO := [(.aload_n 0, 0, 0, .null), (.getfield 320, 1, 39, .retAddr 202)]
theorem k_rLine_103_ok : fwChain m_rLine.1.cls m_rLine.2.1 103 k_rLine_103 107 = true := by decide +kernel
theorem d_rLine_107 : decode m_rLine.2.1 107 = .ok (.ifCond .ne 7, 3) := by decide +kernel
def k_rLine_110 : List fwO := [(.aload_n 0, 0, 0, .null)]
theorem k_rLine_110_ok : fwChain m_rLine.1.cls m_rLine.2.1 110 k_rLine_110 111 = true := by decide +kernel
theorem d_rLine_111 : decode m_rLine.2.1 111 = .ok (.invokevirtual 281, 3) := by decide +kernel
def k_rLine_114 : List fwO := [(.iconst 1, 0, 0, .int 1)]
theorem k_rLine_114_ok : fwChain m_rLine.1.cls m_rLine.2.1 114 k_rLine_114 115 = true := by decide +kernel
theorem d_rLine_115 : decode m_rLine.2.1 115 = .ok (.ireturn, 1) := by decide +kernel
theorem c_rReads_30 : ∀ w ∈ ([(Cond.methodLink "MonitorBoardModel" (222 : Nat) ({ cls := "MonitorBoardModel", name := "key", desc := "()I" } : MethodName)), (Cond.instanceMethod ({ cls := "MonitorBoardModel", name := "key", desc := "()I" } : MethodName)), (Cond.selects "MonitorBoardModel" ({ cls := "MonitorBoardModel", name := "key", desc := "()I" } : MethodName) ({ cls := "MonitorBoardModel", name := "key", desc := "()I" } : MethodName)), (Cond.initialized "MonitorBoardModel")] : List Cond), w ∈ fwT := fwT_all [2309, 2311, 163, 298] (by decide +kernel) (by decide +kernel)
theorem c_rReads_106 : ∀ w ∈ ([(Cond.methodLink "MonitorBoardModel" (149 : Nat) ({ cls := "MonitorBoardModel", name := "tell", desc := "(I)V" } : MethodName)), (Cond.instanceMethod ({ cls := "MonitorBoardModel", name := "tell", desc := "(I)V" } : MethodName)), (Cond.selects "MonitorBoardModel" ({ cls := "MonitorBoardModel", name := "tell", desc := "(I)V" } : MethodName) ({ cls := "MonitorBoardModel", name := "tell", desc := "(I)V" } : MethodName)), (Cond.initialized "MonitorBoardModel")] : List Cond), w ∈ fwT := fwT_all [1955, 1957, 148, 298] (by decide +kernel) (by decide +kernel)
theorem c_rReads_112 : ∀ w ∈ ([(Cond.methodLink "MonitorBoardModel" (149 : Nat) ({ cls := "MonitorBoardModel", name := "tell", desc := "(I)V" } : MethodName)), (Cond.instanceMethod ({ cls := "MonitorBoardModel", name := "tell", desc := "(I)V" } : MethodName)), (Cond.selects "MonitorBoardModel" ({ cls := "MonitorBoardModel", name := "tell", desc := "(I)V" } : MethodName) ({ cls := "MonitorBoardModel", name := "tell", desc := "(I)V" } : MethodName)), (Cond.initialized "MonitorBoardModel")] : List Cond), w ∈ fwT := c_rReads_106
theorem c_rReads_118 : ∀ w ∈ ([(Cond.methodLink "MonitorBoardModel" (149 : Nat) ({ cls := "MonitorBoardModel", name := "tell", desc := "(I)V" } : MethodName)), (Cond.instanceMethod ({ cls := "MonitorBoardModel", name := "tell", desc := "(I)V" } : MethodName)), (Cond.selects "MonitorBoardModel" ({ cls := "MonitorBoardModel", name := "tell", desc := "(I)V" } : MethodName) ({ cls := "MonitorBoardModel", name := "tell", desc := "(I)V" } : MethodName)), (Cond.initialized "MonitorBoardModel")] : List Cond), w ∈ fwT := c_rReads_106
theorem c_rReads_154 : ∀ w ∈ ([(Cond.methodLink "MonitorBoardModel" (149 : Nat) ({ cls := "MonitorBoardModel", name := "tell", desc := "(I)V" } : MethodName)), (Cond.instanceMethod ({ cls := "MonitorBoardModel", name := "tell", desc := "(I)V" } : MethodName)), (Cond.selects "MonitorBoardModel" ({ cls := "MonitorBoardModel", name := "tell", desc := "(I)V" } : MethodName) ({ cls := "MonitorBoardModel", name := "tell", desc := "(I)V" } : MethodName)), (Cond.initialized "MonitorBoardModel")] : List Cond), w ∈ fwT := c_rReads_106
theorem c_rReads_162 : ∀ w ∈ ([(Cond.methodLink "MonitorBoardModel" (149 : Nat) ({ cls := "MonitorBoardModel", name := "tell", desc := "(I)V" } : MethodName)), (Cond.instanceMethod ({ cls := "MonitorBoardModel", name := "tell", desc := "(I)V" } : MethodName)), (Cond.selects "MonitorBoardModel" ({ cls := "MonitorBoardModel", name := "tell", desc := "(I)V" } : MethodName) ({ cls := "MonitorBoardModel", name := "tell", desc := "(I)V" } : MethodName)), (Cond.initialized "MonitorBoardModel")] : List Cond), w ∈ fwT := c_rReads_106
theorem c_rReads_170 : ∀ w ∈ ([(Cond.methodLink "MonitorBoardModel" (149 : Nat) ({ cls := "MonitorBoardModel", name := "tell", desc := "(I)V" } : MethodName)), (Cond.instanceMethod ({ cls := "MonitorBoardModel", name := "tell", desc := "(I)V" } : MethodName)), (Cond.selects "MonitorBoardModel" ({ cls := "MonitorBoardModel", name := "tell", desc := "(I)V" } : MethodName) ({ cls := "MonitorBoardModel", name := "tell", desc := "(I)V" } : MethodName)), (Cond.initialized "MonitorBoardModel")] : List Cond), w ∈ fwT := c_rReads_106
theorem c_rReads_179 : ∀ w ∈ ([(Cond.methodLink "MonitorBoardModel" (149 : Nat) ({ cls := "MonitorBoardModel", name := "tell", desc := "(I)V" } : MethodName)), (Cond.instanceMethod ({ cls := "MonitorBoardModel", name := "tell", desc := "(I)V" } : MethodName)), (Cond.selects "MonitorBoardModel" ({ cls := "MonitorBoardModel", name := "tell", desc := "(I)V" } : MethodName) ({ cls := "MonitorBoardModel", name := "tell", desc := "(I)V" } : MethodName)), (Cond.initialized "MonitorBoardModel")] : List Cond), w ∈ fwT := c_rReads_106
theorem c_rLine_3 : ∀ w ∈ ([(Cond.methodLink "MonitorBoardModel" (317 : Nat) ({ cls := "MonitorBoardModel", name := "reads", desc := "(I)I" } : MethodName)), (Cond.instanceMethod ({ cls := "MonitorBoardModel", name := "reads", desc := "(I)I" } : MethodName)), (Cond.selects "MonitorBoardModel" ({ cls := "MonitorBoardModel", name := "reads", desc := "(I)I" } : MethodName) ({ cls := "MonitorBoardModel", name := "reads", desc := "(I)I" } : MethodName)), (Cond.initialized "MonitorBoardModel")] : List Cond), w ∈ fwT := fwT_all [2305, 2307, 162, 298] (by decide +kernel) (by decide +kernel)
theorem c_rLine_19 : ∀ w ∈ ([(Cond.methodLink "MonitorBoardModel" (268 : Nat) ({ cls := "MonitorBoardModel", name := "warm", desc := "()V" } : MethodName)), (Cond.instanceMethod ({ cls := "MonitorBoardModel", name := "warm", desc := "()V" } : MethodName)), (Cond.selects "MonitorBoardModel" ({ cls := "MonitorBoardModel", name := "warm", desc := "()V" } : MethodName) ({ cls := "MonitorBoardModel", name := "warm", desc := "()V" } : MethodName)), (Cond.initialized "MonitorBoardModel")] : List Cond), w ∈ fwT := fwT_all [1966, 1968, 150, 298] (by decide +kernel) (by decide +kernel)
theorem c_rLine_93 : ∀ w ∈ ([(Cond.methodLink "MonitorBoardModel" (416 : Nat) ({ cls := "MonitorBoardModel", name := "command", desc := "()V" } : MethodName)), (Cond.instanceMethod ({ cls := "MonitorBoardModel", name := "command", desc := "()V" } : MethodName)), (Cond.selects "MonitorBoardModel" ({ cls := "MonitorBoardModel", name := "command", desc := "()V" } : MethodName) ({ cls := "MonitorBoardModel", name := "command", desc := "()V" } : MethodName)), (Cond.initialized "MonitorBoardModel")] : List Cond), w ∈ fwT := fwT_all [2313, 2315, 164, 298] (by decide +kernel) (by decide +kernel)
theorem c_rLine_111 : ∀ w ∈ ([(Cond.methodLink "MonitorBoardModel" (281 : Nat) ({ cls := "MonitorBoardModel", name := "prompt", desc := "()V" } : MethodName)), (Cond.instanceMethod ({ cls := "MonitorBoardModel", name := "prompt", desc := "()V" } : MethodName)), (Cond.selects "MonitorBoardModel" ({ cls := "MonitorBoardModel", name := "prompt", desc := "()V" } : MethodName) ({ cls := "MonitorBoardModel", name := "prompt", desc := "()V" } : MethodName)), (Cond.initialized "MonitorBoardModel")] : List Cond), w ∈ fwT := fwT_all [2006, 2008, 159, 298] (by decide +kernel) (by decide +kernel)
