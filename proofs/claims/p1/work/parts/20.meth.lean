/-! methods, their instructions, by program (wip/whole/methods.py) -/
/-- java/lang/Math.min(II)I -/
abbrev m_mmin : fwM := (⟨"java/lang/Math", "min", "(II)I"⟩, prog_16_method_69_code, 2, (some FieldType.int))
theorem m_mmin_in : Cond.code m_mmin.1 m_mmin.2.1 m_mmin.2.2.1 m_mmin.2.2.2 ∈ fwT := fwT_mem (List.mem_of_getElem? (i := 874) (by decide +kernel)) rfl
def k_mmin_0 : List fwO := [(.iload_n 0, 0, 0, .null), (.iload_n 1, 0, 0, .null)]
theorem k_mmin_0_ok : fwChain m_mmin.1.cls m_mmin.2.1 0 k_mmin_0 2 = true := by decide +kernel
theorem d_mmin_2 : decode m_mmin.2.1 2 = .ok (.if_icmp .gt 7, 3) := by decide +kernel
def k_mmin_5 : List fwO := [(.iload_n 0, 0, 0, .null)]
theorem k_mmin_5_ok : fwChain m_mmin.1.cls m_mmin.2.1 5 k_mmin_5 6 = true := by decide +kernel
theorem d_mmin_6 : decode m_mmin.2.1 6 = .ok (.goto 4, 3) := by decide +kernel
def k_mmin_9 : List fwO := [(.iload_n 1, 0, 0, .null)]
theorem k_mmin_9_ok : fwChain m_mmin.1.cls m_mmin.2.1 9 k_mmin_9 10 = true := by decide +kernel
theorem d_mmin_10 : decode m_mmin.2.1 10 = .ok (.ireturn, 1) := by decide +kernel
/-- java/lang/Math.max(II)I -/
abbrev m_mmax : fwM := (⟨"java/lang/Math", "max", "(II)I"⟩, prog_16_method_65_code, 2, (some FieldType.int))
theorem m_mmax_in : Cond.code m_mmax.1 m_mmax.2.1 m_mmax.2.2.1 m_mmax.2.2.2 ∈ fwT := fwT_mem (List.mem_of_getElem? (i := 1030) (by decide +kernel)) rfl
def k_mmax_0 : List fwO := [(.iload_n 0, 0, 0, .null), (.iload_n 1, 0, 0, .null)]
theorem k_mmax_0_ok : fwChain m_mmax.1.cls m_mmax.2.1 0 k_mmax_0 2 = true := by decide +kernel
theorem d_mmax_2 : decode m_mmax.2.1 2 = .ok (.if_icmp .lt 7, 3) := by decide +kernel
def k_mmax_5 : List fwO := [(.iload_n 0, 0, 0, .null)]
theorem k_mmax_5_ok : fwChain m_mmax.1.cls m_mmax.2.1 5 k_mmax_5 6 = true := by decide +kernel
theorem d_mmax_6 : decode m_mmax.2.1 6 = .ok (.goto 4, 3) := by decide +kernel
def k_mmax_9 : List fwO := [(.iload_n 1, 0, 0, .null)]
theorem k_mmax_9_ok : fwChain m_mmax.1.cls m_mmax.2.1 9 k_mmax_9 10 = true := by decide +kernel
theorem d_mmax_10 : decode m_mmax.2.1 10 = .ok (.ireturn, 1) := by decide +kernel
/-- java/util/Arrays.fill([BB)V -/
abbrev m_fillB : fwM := (⟨"java/util/Arrays", "fill", "([BB)V"⟩, prog_21_method_109_code, 4, (none : Option FieldType))
theorem m_fillB_in : Cond.code m_fillB.1 m_fillB.2.1 m_fillB.2.2.1 m_fillB.2.2.2 ∈ fwT := fwT_mem (List.mem_of_getElem? (i := 416) (by decide +kernel)) rfl
def k_fillB_0 : List fwO := [(.iconst 0, 0, 0, .int 0), (.istore_n 2, 0, 0, .null), (.aload_n 0, 0, 0, .null), (.arraylength, 0, 0, .null), (.istore_n 3, 0, 0, .null)]
theorem k_fillB_0_ok : fwChain m_fillB.1.cls m_fillB.2.1 0 k_fillB_0 5 = true := by decide +kernel
def k_fillB_5 : List fwO := [(.iload_n 2, 0, 0, .null), (.iload_n 3, 0, 0, .null)]
theorem k_fillB_5_ok : fwChain m_fillB.1.cls m_fillB.2.1 5 k_fillB_5 7 = true := by decide +kernel
theorem d_fillB_7 : decode m_fillB.2.1 7 = .ok (.if_icmp .ge 13, 3) := by decide +kernel
def k_fillB_10 : List fwO := [(.aload_n 0, 0, 0, .null), (.iload_n 2, 0, 0, .null), (.iload_n 1, 0, 0, .null), (.bastore, 0, 0, .null), (.iinc 2 1, 0, 0, .int 1)]
theorem k_fillB_10_ok : fwChain m_fillB.1.cls m_fillB.2.1 10 k_fillB_10 17 = true := by decide +kernel
theorem d_fillB_17 : decode m_fillB.2.1 17 = .ok (.goto (-12), 3) := by decide +kernel
theorem d_fillB_20 : decode m_fillB.2.1 20 = .ok (.return_, 1) := by decide +kernel
/-- java/util/Arrays.fill([II)V -/
abbrev m_fillI : fwM := (⟨"java/util/Arrays", "fill", "([II)V"⟩, prog_21_method_103_code, 4, (none : Option FieldType))
theorem m_fillI_in : Cond.code m_fillI.1 m_fillI.2.1 m_fillI.2.2.1 m_fillI.2.2.2 ∈ fwT := fwT_mem (List.mem_of_getElem? (i := 815) (by decide +kernel)) rfl
def k_fillI_0 : List fwO := [(.iconst 0, 0, 0, .int 0), (.istore_n 2, 0, 0, .null), (.aload_n 0, 0, 0, .null), (.arraylength, 0, 0, .null), (.istore_n 3, 0, 0, .null)]
theorem k_fillI_0_ok : fwChain m_fillI.1.cls m_fillI.2.1 0 k_fillI_0 5 = true := by decide +kernel
def k_fillI_5 : List fwO := [(.iload_n 2, 0, 0, .null), (.iload_n 3, 0, 0, .null)]
theorem k_fillI_5_ok : fwChain m_fillI.1.cls m_fillI.2.1 5 k_fillI_5 7 = true := by decide +kernel
theorem d_fillI_7 : decode m_fillI.2.1 7 = .ok (.if_icmp .ge 13, 3) := by decide +kernel
def k_fillI_10 : List fwO := [(.aload_n 0, 0, 0, .null), (.iload_n 2, 0, 0, .null), (.iload_n 1, 0, 0, .null), (.iastore, 0, 0, .null), (.iinc 2 1, 0, 0, .int 1)]
theorem k_fillI_10_ok : fwChain m_fillI.1.cls m_fillI.2.1 10 k_fillI_10 17 = true := by decide +kernel
theorem d_fillI_17 : decode m_fillI.2.1 17 = .ok (.goto (-12), 3) := by decide +kernel
theorem d_fillI_20 : decode m_fillI.2.1 20 = .ok (.return_, 1) := by decide +kernel
/-- java/lang/String.coder()B -/
abbrev m_scod : fwM := (⟨"java/lang/String", "coder", "()B"⟩, prog_17_method_152_code, 1, (some FieldType.byte))
theorem m_scod_in : Cond.code m_scod.1 m_scod.2.1 m_scod.2.2.1 m_scod.2.2.2 ∈ fwT := fwT_mem (List.mem_of_getElem? (i := 577) (by decide +kernel)) rfl
def k_scod_0 : List fwO := [(.getstatic 38, 0, 0, .int 1)]
theorem k_scod_0_ok : fwChain m_scod.1.cls m_scod.2.1 0 k_scod_0 3 = true := by decide +kernel
theorem d_scod_3 : decode m_scod.2.1 3 = .ok (.ifCond .eq 10, 3) := by decide +kernel
def k_scod_6 : List fwO := [(.aload_n 0, 0, 0, .null), (.getfield 15, 999, 1, .retAddr 1)]
theorem k_scod_6_ok : fwChain m_scod.1.cls m_scod.2.1 6 k_scod_6 10 = true := by decide +kernel
theorem d_scod_10 : decode m_scod.2.1 10 = .ok (.goto 4, 3) := by decide +kernel
def k_scod_13 : List fwO := [(.iconst 1, 0, 0, .int 1)]
theorem k_scod_13_ok : fwChain m_scod.1.cls m_scod.2.1 13 k_scod_13 14 = true := by decide +kernel
theorem d_scod_14 : decode m_scod.2.1 14 = .ok (.ireturn, 1) := by decide +kernel
/-- java/lang/String.isLatin1()Z -/
abbrev m_slat : fwM := (⟨"java/lang/String", "isLatin1", "()Z"⟩, prog_17_method_154_code, 1, (some FieldType.boolean))
theorem m_slat_in : Cond.code m_slat.1 m_slat.2.1 m_slat.2.2.1 m_slat.2.2.2 ∈ fwT := fwT_mem (List.mem_of_getElem? (i := 587) (by decide +kernel)) rfl
def k_slat_0 : List fwO := [(.getstatic 38, 0, 0, .int 1)]
theorem k_slat_0_ok : fwChain m_slat.1.cls m_slat.2.1 0 k_slat_0 3 = true := by decide +kernel
theorem d_slat_3 : decode m_slat.2.1 3 = .ok (.ifCond .eq 14, 3) := by decide +kernel
def k_slat_6 : List fwO := [(.aload_n 0, 0, 0, .null), (.getfield 15, 999, 1, .retAddr 1)]
theorem k_slat_6_ok : fwChain m_slat.1.cls m_slat.2.1 6 k_slat_6 10 = true := by decide +kernel
theorem d_slat_10 : decode m_slat.2.1 10 = .ok (.ifCond .ne 7, 3) := by decide +kernel
def k_slat_13 : List fwO := [(.iconst 1, 0, 0, .int 1)]
theorem k_slat_13_ok : fwChain m_slat.1.cls m_slat.2.1 13 k_slat_13 14 = true := by decide +kernel
theorem d_slat_14 : decode m_slat.2.1 14 = .ok (.goto 4, 3) := by decide +kernel
def k_slat_17 : List fwO := [(.iconst 0, 0, 0, .int 0)]
theorem k_slat_17_ok : fwChain m_slat.1.cls m_slat.2.1 17 k_slat_17 18 = true := by decide +kernel
theorem d_slat_18 : decode m_slat.2.1 18 = .ok (.ireturn, 1) := by decide +kernel
/-- java/lang/String.length()I -/
abbrev m_slen : fwM := (⟨"java/lang/String", "length", "()I"⟩, prog_17_method_54_code, 1, (some FieldType.int))
theorem m_slen_in : Cond.code m_slen.1 m_slen.2.1 m_slen.2.2.1 m_slen.2.2.2 ∈ fwT := fwT_mem (List.mem_of_getElem? (i := 573) (by decide +kernel)) rfl
def k_slen_0 : List fwO := [(.aload_n 0, 0, 0, .null), (.getfield 9, 999, 0, .retAddr 0), (.arraylength, 0, 0, .null), (.aload_n 0, 0, 0, .null)]
theorem k_slen_0_ok : fwChain m_slen.1.cls m_slen.2.1 0 k_slen_0 6 = true := by decide +kernel
theorem d_slen_6 : decode m_slen.2.1 6 = .ok (.invokevirtual 335, 3) := by decide +kernel
def k_slen_9 : List fwO := [(.ishr, 0, 0, .null)]
theorem k_slen_9_ok : fwChain m_slen.1.cls m_slen.2.1 9 k_slen_9 10 = true := by decide +kernel
theorem d_slen_10 : decode m_slen.2.1 10 = .ok (.ireturn, 1) := by decide +kernel
/-- jdk/internal/util/Preconditions.checkIndex(IILjava/util/function/BiFunction;)I -/
abbrev m_pchk : fwM := (⟨"jdk/internal/util/Preconditions", "checkIndex", "(IILjava/util/function/BiFunction;)I"⟩, prog_22_method_11_code, 3, (some FieldType.int))
theorem m_pchk_in : Cond.code m_pchk.1 m_pchk.2.1 m_pchk.2.2.1 m_pchk.2.2.2 ∈ fwT := fwT_mem (List.mem_of_getElem? (i := 598) (by decide +kernel)) rfl
def k_pchk_0 : List fwO := [(.iload_n 0, 0, 0, .null)]
theorem k_pchk_0_ok : fwChain m_pchk.1.cls m_pchk.2.1 0 k_pchk_0 1 = true := by decide +kernel
theorem d_pchk_1 : decode m_pchk.2.1 1 = .ok (.ifCond .lt 8, 3) := by decide +kernel
def k_pchk_4 : List fwO := [(.iload_n 0, 0, 0, .null), (.iload_n 1, 0, 0, .null)]
theorem k_pchk_4_ok : fwChain m_pchk.1.cls m_pchk.2.1 4 k_pchk_4 6 = true := by decide +kernel
theorem d_pchk_6 : decode m_pchk.2.1 6 = .ok (.if_icmp .lt 10, 3) := by decide +kernel
def k_pchk_9 : List fwO := [(.aload_n 2, 0, 0, .null), (.iload_n 0, 0, 0, .null), (.iload_n 1, 0, 0, .null)]
theorem k_pchk_9_ok : fwChain m_pchk.1.cls m_pchk.2.1 9 k_pchk_9 12 = true := by decide +kernel
theorem d_pchk_12 : decode m_pchk.2.1 12 = .ok (.invokestatic 95, 3) := by decide +kernel
theorem d_pchk_15 : decode m_pchk.2.1 15 = .ok (.athrow, 1) := by decide +kernel
def k_pchk_16 : List fwO := [(.iload_n 0, 0, 0, .null)]
theorem k_pchk_16_ok : fwChain m_pchk.1.cls m_pchk.2.1 16 k_pchk_16 17 = true := by decide +kernel
theorem d_pchk_17 : decode m_pchk.2.1 17 = .ok (.ireturn, 1) := by decide +kernel
/-- java/lang/String.checkIndex(II)V -/
abbrev m_schk : fwM := (⟨"java/lang/String", "checkIndex", "(II)V"⟩, prog_17_method_155_code, 2, (none : Option FieldType))
theorem m_schk_in : Cond.code m_schk.1 m_schk.2.1 m_schk.2.2.1 m_schk.2.2.2 ∈ fwT := fwT_mem (List.mem_of_getElem? (i := 593) (by decide +kernel)) rfl
def k_schk_0 : List fwO := [(.iload_n 0, 0, 0, .null), (.iload_n 1, 0, 0, .null)]
theorem k_schk_0_ok : fwChain m_schk.1.cls m_schk.2.1 0 k_schk_0 2 = true := by decide +kernel
theorem d_schk_2 : decode m_schk.2.1 2 = .ok (.getstatic 1053, 3) := by decide +kernel
theorem d_schk_5 : decode m_schk.2.1 5 = .ok (.invokestatic 1059, 3) := by decide +kernel
def k_schk_8 : List fwO := [(.pop, 0, 0, .null)]
theorem k_schk_8_ok : fwChain m_schk.1.cls m_schk.2.1 8 k_schk_8 9 = true := by decide +kernel
theorem d_schk_9 : decode m_schk.2.1 9 = .ok (.return_, 1) := by decide +kernel
/-- java/lang/StringLatin1.charAt([BI)C -/
abbrev m_lchar : fwM := (⟨"java/lang/StringLatin1", "charAt", "([BI)C"⟩, prog_18_method_2_code, 2, (some FieldType.char))
theorem m_lchar_in : Cond.code m_lchar.1 m_lchar.2.1 m_lchar.2.2.1 m_lchar.2.2.2 ∈ fwT := fwT_mem (List.mem_of_getElem? (i := 590) (by decide +kernel)) rfl
def k_lchar_0 : List fwO := [(.iload_n 1, 0, 0, .null), (.aload_n 0, 0, 0, .null), (.arraylength, 0, 0, .null)]
theorem k_lchar_0_ok : fwChain m_lchar.1.cls m_lchar.2.1 0 k_lchar_0 3 = true := by decide +kernel
theorem d_lchar_3 : decode m_lchar.2.1 3 = .ok (.invokestatic 9, 3) := by decide +kernel
def k_lchar_6 : List fwO := [(.aload_n 0, 0, 0, .null), (.iload_n 1, 0, 0, .null), (.baload, 0, 0, .null), (.sipush 255, 0, 0, .int 255), (.iand, 0, 0, .null), (.i2c, 0, 0, .null)]
theorem k_lchar_6_ok : fwChain m_lchar.1.cls m_lchar.2.1 6 k_lchar_6 14 = true := by decide +kernel
theorem d_lchar_14 : decode m_lchar.2.1 14 = .ok (.ireturn, 1) := by decide +kernel
/-- java/lang/String.charAt(I)C -/
abbrev m_schar : fwM := (⟨"java/lang/String", "charAt", "(I)C"⟩, prog_17_method_56_code, 2, (some FieldType.char))
theorem m_schar_in : Cond.code m_schar.1 m_schar.2.1 m_schar.2.2.1 m_schar.2.2.2 ∈ fwT := fwT_mem (List.mem_of_getElem? (i := 583) (by decide +kernel)) rfl
def k_schar_0 : List fwO := [(.aload_n 0, 0, 0, .null)]
theorem k_schar_0_ok : fwChain m_schar.1.cls m_schar.2.1 0 k_schar_0 1 = true := by decide +kernel
theorem d_schar_1 : decode m_schar.2.1 1 = .ok (.invokevirtual 492, 3) := by decide +kernel
theorem d_schar_4 : decode m_schar.2.1 4 = .ok (.ifCond .eq 12, 3) := by decide +kernel
def k_schar_7 : List fwO := [(.aload_n 0, 0, 0, .null), (.getfield 9, 999, 0, .retAddr 0), (.iload_n 1, 0, 0, .null)]
theorem k_schar_7_ok : fwChain m_schar.1.cls m_schar.2.1 7 k_schar_7 12 = true := by decide +kernel
theorem d_schar_12 : decode m_schar.2.1 12 = .ok (.invokestatic 495, 3) := by decide +kernel
theorem d_schar_15 : decode m_schar.2.1 15 = .ok (.ireturn, 1) := by decide +kernel
def k_schar_16 : List fwO := [(.aload_n 0, 0, 0, .null), (.getfield 9, 999, 0, .retAddr 0), (.iload_n 1, 0, 0, .null)]
theorem k_schar_16_ok : fwChain m_schar.1.cls m_schar.2.1 16 k_schar_16 21 = true := by decide +kernel
theorem d_schar_21 : decode m_schar.2.1 21 = .ok (.invokestatic 498, 3) := by decide +kernel
theorem d_schar_24 : decode m_schar.2.1 24 = .ok (.ireturn, 1) := by decide +kernel
theorem c_slen_6 : ∀ w ∈ ([(Cond.methodLink "java/lang/String" (335 : Nat) ({ cls := "java/lang/String", name := "coder", desc := "()B" } : MethodName)), (Cond.instanceMethod ({ cls := "java/lang/String", name := "coder", desc := "()B" } : MethodName)), (Cond.selects "java/lang/String" ({ cls := "java/lang/String", name := "coder", desc := "()B" } : MethodName) ({ cls := "java/lang/String", name := "coder", desc := "()B" } : MethodName)), (Cond.initialized "java/lang/String")] : List Cond), w ∈ fwT := fwT_all [574, 575, 576, 290] (by decide +kernel) (by decide +kernel)
theorem c_schk_2 : ∀ w ∈ ([(Cond.fieldLink "java/lang/String" (1053 : Nat) "jdk/internal/util/Preconditions" "SIOOBE_FORMATTER" "Ljava/util/function/BiFunction;")] : List Cond), w ∈ fwT := fwT_all [594] (by decide +kernel) (by decide +kernel)
theorem c_schk_5 : ∀ w ∈ ([(Cond.methodLink "java/lang/String" (1059 : Nat) ({ cls := "jdk/internal/util/Preconditions", name := "checkIndex", desc := "(IILjava/util/function/BiFunction;)I" } : MethodName)), (Cond.static ({ cls := "jdk/internal/util/Preconditions", name := "checkIndex", desc := "(IILjava/util/function/BiFunction;)I" } : MethodName)), (Cond.initialized "jdk/internal/util/Preconditions")] : List Cond), w ∈ fwT := fwT_all [596, 597, 292] (by decide +kernel) (by decide +kernel)
theorem c_lchar_3 : ∀ w ∈ ([(Cond.methodLink "java/lang/StringLatin1" (9 : Nat) ({ cls := "java/lang/String", name := "checkIndex", desc := "(II)V" } : MethodName)), (Cond.static ({ cls := "java/lang/String", name := "checkIndex", desc := "(II)V" } : MethodName)), (Cond.initialized "java/lang/String")] : List Cond), w ∈ fwT := fwT_all [591, 592, 290] (by decide +kernel) (by decide +kernel)
theorem c_schar_1 : ∀ w ∈ ([(Cond.methodLink "java/lang/String" (492 : Nat) ({ cls := "java/lang/String", name := "isLatin1", desc := "()Z" } : MethodName)), (Cond.instanceMethod ({ cls := "java/lang/String", name := "isLatin1", desc := "()Z" } : MethodName)), (Cond.selects "java/lang/String" ({ cls := "java/lang/String", name := "isLatin1", desc := "()Z" } : MethodName) ({ cls := "java/lang/String", name := "isLatin1", desc := "()Z" } : MethodName)), (Cond.initialized "java/lang/String")] : List Cond), w ∈ fwT := fwT_all [584, 585, 586, 290] (by decide +kernel) (by decide +kernel)
theorem c_schar_12 : ∀ w ∈ ([(Cond.methodLink "java/lang/String" (495 : Nat) ({ cls := "java/lang/StringLatin1", name := "charAt", desc := "([BI)C" } : MethodName)), (Cond.static ({ cls := "java/lang/StringLatin1", name := "charAt", desc := "([BI)C" } : MethodName)), (Cond.initialized "java/lang/StringLatin1")] : List Cond), w ∈ fwT := fwT_all [588, 589, 291] (by decide +kernel) (by decide +kernel)
theorem c_schar_21 : ∀ w ∈ ([(Cond.methodLink "java/lang/String" (498 : Nat) ({ cls := "java/lang/StringUTF16", name := "charAt", desc := "([BI)C" } : MethodName)), (Cond.static ({ cls := "java/lang/StringUTF16", name := "charAt", desc := "([BI)C" } : MethodName)), (Cond.initialized "java/lang/StringUTF16")] : List Cond), w ∈ fwT := fwT_all [599, 600, 293] (by decide +kernel) (by decide +kernel)
