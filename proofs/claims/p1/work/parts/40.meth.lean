/-! methods, their instructions, by program (wip/whole/methods.py) -/
/-- MonitorBoard.feedNumber(I)V -/
abbrev m_feedNumber : fwM := (⟨"MonitorBoard", "feedNumber", "(I)V"⟩, prog_1_method_3_code, 3, (none : Option FieldType))
theorem m_feedNumber_in : Cond.code m_feedNumber.1 m_feedNumber.2.1 m_feedNumber.2.2.1 m_feedNumber.2.2.2 ∈ fwT := fwT_mem (List.mem_of_getElem? (i := 919) (by decide +kernel)) rfl
def k_feedNumber_0 : List fwO := [(.bipush 24, 0, 0, .int 24), (.istore_n 2, 0, 0, .null)]
theorem k_feedNumber_0_ok : fwChain m_feedNumber.1.cls m_feedNumber.2.1 0 k_feedNumber_0 3 = true := by decide +kernel
def k_feedNumber_3 : List fwO := [(.iload_n 2, 0, 0, .null)]
theorem k_feedNumber_3_ok : fwChain m_feedNumber.1.cls m_feedNumber.2.1 3 k_feedNumber_3 4 = true := by decide +kernel
theorem d_feedNumber_4 : decode m_feedNumber.2.1 4 = .ok (.ifCond .lt 32, 3) := by decide +kernel
def k_feedNumber_7 : List fwO := [(.aload_n 0, 0, 0, .null), (.getfield 9, 0, 0, .retAddr 151), (.aload_n 0, 0, 0, .null), (.getfield 83, 0, 10, .retAddr 161), (.iload_n 1, 0, 0, .null), (.iload_n 2, 0, 0, .null), (.ishr, 0, 0, .null), (.i2b, 0, 0, .null), (.bastore, 0, 0, .null), (.aload_n 0, 0, 0, .null), (.dup, 0, 0, .null), (.getfield 83, 0, 10, .retAddr 161), (.iconst 1, 0, 0, .int 1), (.iadd, 0, 0, .null), (.putfield 83, 0, 10, .retAddr 161), (.iinc 2 (-8), 0, 0, .int (-8))]
theorem k_feedNumber_7_ok : fwChain m_feedNumber.1.cls m_feedNumber.2.1 7 k_feedNumber_7 33 = true := by decide +kernel
theorem d_feedNumber_33 : decode m_feedNumber.2.1 33 = .ok (.goto (-30), 3) := by decide +kernel
theorem d_feedNumber_36 : decode m_feedNumber.2.1 36 = .ok (.return_, 1) := by decide +kernel
/-- MonitorBoard.feed(IIIII)Z -/
abbrev m_feed : fwM := (⟨"MonitorBoard", "feed", "(IIIII)Z"⟩, prog_1_method_2_code, 6, (some FieldType.boolean))
theorem m_feed_in : Cond.code m_feed.1 m_feed.2.1 m_feed.2.2.1 m_feed.2.2.2 ∈ fwT := fwT_mem (List.mem_of_getElem? (i := 915) (by decide +kernel)) rfl
def k_feed_0 : List fwO := [(.aload_n 0, 0, 0, .null), (.getfield 83, 0, 10, .retAddr 161), (.bipush 20, 0, 0, .int 20), (.iadd, 0, 0, .null), (.sipush 4000, 0, 0, .int 4000)]
theorem k_feed_0_ok : fwChain m_feed.1.cls m_feed.2.1 0 k_feed_0 10 = true := by decide +kernel
theorem d_feed_10 : decode m_feed.2.1 10 = .ok (.if_icmp .le 5, 3) := by decide +kernel
def k_feed_13 : List fwO := [(.iconst 0, 0, 0, .int 0)]
theorem k_feed_13_ok : fwChain m_feed.1.cls m_feed.2.1 13 k_feed_13 14 = true := by decide +kernel
theorem d_feed_14 : decode m_feed.2.1 14 = .ok (.ireturn, 1) := by decide +kernel
def k_feed_15 : List fwO := [(.aload_n 0, 0, 0, .null), (.iload_n 1, 0, 0, .null)]
theorem k_feed_15_ok : fwChain m_feed.1.cls m_feed.2.1 15 k_feed_15 17 = true := by decide +kernel
theorem d_feed_17 : decode m_feed.2.1 17 = .ok (.invokevirtual 87, 3) := by decide +kernel
def k_feed_20 : List fwO := [(.aload_n 0, 0, 0, .null), (.iload_n 2, 0, 0, .null)]
theorem k_feed_20_ok : fwChain m_feed.1.cls m_feed.2.1 20 k_feed_20 22 = true := by decide +kernel
theorem d_feed_22 : decode m_feed.2.1 22 = .ok (.invokevirtual 87, 3) := by decide +kernel
def k_feed_25 : List fwO := [(.aload_n 0, 0, 0, .null), (.iload_n 3, 0, 0, .null)]
theorem k_feed_25_ok : fwChain m_feed.1.cls m_feed.2.1 25 k_feed_25 27 = true := by decide +kernel
theorem d_feed_27 : decode m_feed.2.1 27 = .ok (.invokevirtual 87, 3) := by decide +kernel
def k_feed_30 : List fwO := [(.aload_n 0, 0, 0, .null), (.iload 4, 0, 0, .null)]
theorem k_feed_30_ok : fwChain m_feed.1.cls m_feed.2.1 30 k_feed_30 33 = true := by decide +kernel
theorem d_feed_33 : decode m_feed.2.1 33 = .ok (.invokevirtual 87, 3) := by decide +kernel
def k_feed_36 : List fwO := [(.aload_n 0, 0, 0, .null), (.iload 5, 0, 0, .null)]
theorem k_feed_36_ok : fwChain m_feed.1.cls m_feed.2.1 36 k_feed_36 39 = true := by decide +kernel
theorem d_feed_39 : decode m_feed.2.1 39 = .ok (.invokevirtual 87, 3) := by decide +kernel
def k_feed_42 : List fwO := [(.iconst 1, 0, 0, .int 1)]
theorem k_feed_42_ok : fwChain m_feed.1.cls m_feed.2.1 42 k_feed_42 43 = true := by decide +kernel
theorem d_feed_43 : decode m_feed.2.1 43 = .ok (.ireturn, 1) := by decide +kernel
/-- MonitorBoard.end(I)Z -/
abbrev m_end : fwM := (⟨"MonitorBoard", "end", "(I)Z"⟩, prog_1_method_4_code, 2, (some FieldType.boolean))
theorem m_end_in : Cond.code m_end.1 m_end.2.1 m_end.2.2.1 m_end.2.2.2 ∈ fwT := fwT_mem (List.mem_of_getElem? (i := 923) (by decide +kernel)) rfl
def k_end_0 : List fwO := [(.iload_n 1, 0, 0, .null)]
theorem k_end_0_ok : fwChain m_end.1.cls m_end.2.1 0 k_end_0 1 = true := by decide +kernel
theorem d_end_1 : decode m_end.2.1 1 = .ok (.ifCond .lt 11, 3) := by decide +kernel
def k_end_4 : List fwO := [(.iload_n 1, 0, 0, .null), (.aload_n 0, 0, 0, .null), (.getfield 83, 0, 10, .retAddr 161)]
theorem k_end_4_ok : fwChain m_end.1.cls m_end.2.1 4 k_end_4 9 = true := by decide +kernel
theorem d_end_9 : decode m_end.2.1 9 = .ok (.if_icmp .le 5, 3) := by decide +kernel
def k_end_12 : List fwO := [(.iconst 0, 0, 0, .int 0)]
theorem k_end_12_ok : fwChain m_end.1.cls m_end.2.1 12 k_end_12 13 = true := by decide +kernel
theorem d_end_13 : decode m_end.2.1 13 = .ok (.ireturn, 1) := by decide +kernel
def k_end_14 : List fwO := [(.aload_n 0, 0, 0, .null), (.iload_n 1, 0, 0, .null), (.putfield 83, 0, 10, .retAddr 161), (.iconst 1, 0, 0, .int 1)]
theorem k_end_14_ok : fwChain m_end.1.cls m_end.2.1 14 k_end_14 20 = true := by decide +kernel
theorem d_end_20 : decode m_end.2.1 20 = .ok (.ireturn, 1) := by decide +kernel
/-- MonitorBoard$Console.addKeys([BI)V -/
abbrev m_addKeys : fwM := (⟨"MonitorBoard$Console", "addKeys", "([BI)V"⟩, prog_4_method_8_code, 4, (none : Option FieldType))
theorem m_addKeys_in : Cond.code m_addKeys.1 m_addKeys.2.1 m_addKeys.2.2.1 m_addKeys.2.2.2 ∈ fwT := fwT_mem (List.mem_of_getElem? (i := 931) (by decide +kernel)) rfl
def k_addKeys_0 : List fwO := [(.iconst 0, 0, 0, .int 0), (.istore_n 3, 0, 0, .null)]
theorem k_addKeys_0_ok : fwChain m_addKeys.1.cls m_addKeys.2.1 0 k_addKeys_0 2 = true := by decide +kernel
def k_addKeys_2 : List fwO := [(.iload_n 3, 0, 0, .null), (.iload_n 2, 0, 0, .null)]
theorem k_addKeys_2_ok : fwChain m_addKeys.1.cls m_addKeys.2.1 2 k_addKeys_2 4 = true := by decide +kernel
theorem d_addKeys_4 : decode m_addKeys.2.1 4 = .ok (.if_icmp .ge 56, 3) := by decide +kernel
def k_addKeys_7 : List fwO := [(.iload_n 3, 0, 0, .null), (.aload_n 1, 0, 0, .null), (.arraylength, 0, 0, .null)]
theorem k_addKeys_7_ok : fwChain m_addKeys.1.cls m_addKeys.2.1 7 k_addKeys_7 10 = true := by decide +kernel
theorem d_addKeys_10 : decode m_addKeys.2.1 10 = .ok (.if_icmp .ge 50, 3) := by decide +kernel
def k_addKeys_13 : List fwO := [(.aload_n 0, 0, 0, .null), (.getfield 51, 3, 6, .retAddr 10), (.sipush 2000, 0, 0, .int 2000)]
theorem k_addKeys_13_ok : fwChain m_addKeys.1.cls m_addKeys.2.1 13 k_addKeys_13 20 = true := by decide +kernel
theorem d_addKeys_20 : decode m_addKeys.2.1 20 = .ok (.if_icmp .ge 40, 3) := by decide +kernel
def k_addKeys_23 : List fwO := [(.aload_n 0, 0, 0, .null), (.getfield 15, 3, 1, .retAddr 1), (.aload_n 0, 0, 0, .null), (.getfield 54, 3, 5, .retAddr 7), (.aload_n 0, 0, 0, .null), (.getfield 51, 3, 6, .retAddr 10), (.iadd, 0, 0, .null), (.sipush 2000, 0, 0, .int 2000), (.irem, 0, 0, .null), (.aload_n 1, 0, 0, .null), (.iload_n 3, 0, 0, .null), (.baload, 0, 0, .null), (.bastore, 0, 0, .null), (.aload_n 0, 0, 0, .null), (.dup, 0, 0, .null), (.getfield 51, 3, 6, .retAddr 10), (.iconst 1, 0, 0, .int 1), (.iadd, 0, 0, .null), (.putfield 51, 3, 6, .retAddr 10), (.iinc 3 1, 0, 0, .int 1)]
theorem k_addKeys_23_ok : fwChain m_addKeys.1.cls m_addKeys.2.1 23 k_addKeys_23 57 = true := by decide +kernel
theorem d_addKeys_57 : decode m_addKeys.2.1 57 = .ok (.goto (-55), 3) := by decide +kernel
theorem d_addKeys_60 : decode m_addKeys.2.1 60 = .ok (.return_, 1) := by decide +kernel
/-- MonitorBoard.keys()I -/
abbrev m_keys : fwM := (⟨"MonitorBoard", "keys", "()I"⟩, prog_1_method_5_code, 1, (some FieldType.int))
theorem m_keys_in : Cond.code m_keys.1 m_keys.2.1 m_keys.2.2.1 m_keys.2.2.2 ∈ fwT := fwT_mem (List.mem_of_getElem? (i := 927) (by decide +kernel)) rfl
def k_keys_0 : List fwO := [(.aload_n 0, 0, 0, .null), (.getfield 23, 0, 3, .retAddr 154), (.getfield 91, 3, 6, .retAddr 9), (.aload_n 0, 0, 0, .null), (.getfield 83, 0, 10, .retAddr 161), (.iadd, 0, 0, .null), (.sipush 2000, 0, 0, .int 2000)]
theorem k_keys_0_ok : fwChain m_keys.1.cls m_keys.2.1 0 k_keys_0 15 = true := by decide +kernel
theorem d_keys_15 : decode m_keys.2.1 15 = .ok (.if_icmp .le 5, 3) := by decide +kernel
def k_keys_18 : List fwO := [(.iconst (-1), 0, 0, .int (-1))]
theorem k_keys_18_ok : fwChain m_keys.1.cls m_keys.2.1 18 k_keys_18 19 = true := by decide +kernel
theorem d_keys_19 : decode m_keys.2.1 19 = .ok (.ireturn, 1) := by decide +kernel
def k_keys_20 : List fwO := [(.aload_n 0, 0, 0, .null), (.getfield 23, 0, 3, .retAddr 154), (.aload_n 0, 0, 0, .null), (.getfield 9, 0, 0, .retAddr 151), (.aload_n 0, 0, 0, .null), (.getfield 83, 0, 10, .retAddr 161)]
theorem k_keys_20_ok : fwChain m_keys.1.cls m_keys.2.1 20 k_keys_20 32 = true := by decide +kernel
theorem d_keys_32 : decode m_keys.2.1 32 = .ok (.invokevirtual 94, 3) := by decide +kernel
def k_keys_35 : List fwO := [(.aload_n 0, 0, 0, .null), (.iconst 0, 0, 0, .int 0), (.putfield 83, 0, 10, .retAddr 161), (.aload_n 0, 0, 0, .null), (.getfield 23, 0, 3, .retAddr 154), (.getfield 91, 3, 6, .retAddr 9)]
theorem k_keys_35_ok : fwChain m_keys.1.cls m_keys.2.1 35 k_keys_35 47 = true := by decide +kernel
theorem d_keys_47 : decode m_keys.2.1 47 = .ok (.ireturn, 1) := by decide +kernel
/-- MonitorBoard.boot()V -/
abbrev m_boot : fwM := (⟨"MonitorBoard", "boot", "()V"⟩, prog_1_method_6_code, 1, (none : Option FieldType))
theorem m_boot_in : Cond.code m_boot.1 m_boot.2.1 m_boot.2.2.1 m_boot.2.2.2 ∈ fwT := fwT_mem (List.mem_of_getElem? (i := 935) (by decide +kernel)) rfl
def k_boot_0 : List fwO := [(.aload_n 0, 0, 0, .null), (.getfield 48, 0, 6, .retAddr 157)]
theorem k_boot_0_ok : fwChain m_boot.1.cls m_boot.2.1 0 k_boot_0 4 = true := by decide +kernel
theorem d_boot_4 : decode m_boot.2.1 4 = .ok (.invokevirtual 80, 3) := by decide +kernel
theorem d_boot_7 : decode m_boot.2.1 7 = .ok (.return_, 1) := by decide +kernel
/-- MonitorBoard$Console.readLine()I -/
abbrev m_readLine : fwM := (⟨"MonitorBoard$Console", "readLine", "()I"⟩, prog_4_method_12_code, 3, (some FieldType.int))
theorem m_readLine_in : Cond.code m_readLine.1 m_readLine.2.1 m_readLine.2.2.1 m_readLine.2.2.2 ∈ fwT := fwT_mem (List.mem_of_getElem? (i := 949) (by decide +kernel)) rfl
def k_readLine_0 : List fwO := [(.iconst 0, 0, 0, .int 0), (.istore_n 1, 0, 0, .null)]
theorem k_readLine_0_ok : fwChain m_readLine.1.cls m_readLine.2.1 0 k_readLine_0 2 = true := by decide +kernel
def k_readLine_2 : List fwO := [(.iload_n 1, 0, 0, .null), (.sipush 2000, 0, 0, .int 2000)]
theorem k_readLine_2_ok : fwChain m_readLine.1.cls m_readLine.2.1 2 k_readLine_2 6 = true := by decide +kernel
theorem d_readLine_6 : decode m_readLine.2.1 6 = .ok (.if_icmp .ge 100, 3) := by decide +kernel
def k_readLine_9 : List fwO := [(.aload_n 0, 0, 0, .null), (.getfield 51, 3, 6, .retAddr 10)]
theorem k_readLine_9_ok : fwChain m_readLine.1.cls m_readLine.2.1 9 k_readLine_9 13 = true := by decide +kernel
theorem d_readLine_13 : decode m_readLine.2.1 13 = .ok (.ifCond .le 93, 3) := by decide +kernel
def k_readLine_16 : List fwO := [(.aload_n 0, 0, 0, .null)]
theorem k_readLine_16_ok : fwChain m_readLine.1.cls m_readLine.2.1 16 k_readLine_16 17 = true := by decide +kernel
theorem d_readLine_17 : decode m_readLine.2.1 17 = .ok (.invokevirtual 67, 3) := by decide +kernel
def k_readLine_20 : List fwO := [(.bipush 127, 0, 0, .int 127), (.iand, 0, 0, .null), (.istore_n 2, 0, 0, .null), (.iload_n 2, 0, 0, .null), (.bipush 13, 0, 0, .int 13)]
theorem k_readLine_20_ok : fwChain m_readLine.1.cls m_readLine.2.1 20 k_readLine_20 27 = true := by decide +kernel
theorem d_readLine_27 : decode m_readLine.2.1 27 = .ok (.if_icmp .eq 9, 3) := by decide +kernel
def k_readLine_30 : List fwO := [(.iload_n 2, 0, 0, .null), (.bipush 10, 0, 0, .int 10)]
theorem k_readLine_30_ok : fwChain m_readLine.1.cls m_readLine.2.1 30 k_readLine_30 33 = true := by decide +kernel
theorem d_readLine_33 : decode m_readLine.2.1 33 = .ok (.if_icmp .ne 8, 3) := by decide +kernel
def k_readLine_36 : List fwO := [(.aload_n 0, 0, 0, .null)]
theorem k_readLine_36_ok : fwChain m_readLine.1.cls m_readLine.2.1 36 k_readLine_36 37 = true := by decide +kernel
theorem d_readLine_37 : decode m_readLine.2.1 37 = .ok (.invokevirtual 70, 3) := by decide +kernel
theorem d_readLine_40 : decode m_readLine.2.1 40 = .ok (.ireturn, 1) := by decide +kernel
def k_readLine_41 : List fwO := [(.iload_n 2, 0, 0, .null), (.bipush 8, 0, 0, .int 8)]
theorem k_readLine_41_ok : fwChain m_readLine.1.cls m_readLine.2.1 41 k_readLine_41 44 = true := by decide +kernel
theorem d_readLine_44 : decode m_readLine.2.1 44 = .ok (.if_icmp .eq 9, 3) := by decide +kernel
def k_readLine_47 : List fwO := [(.iload_n 2, 0, 0, .null), (.bipush 127, 0, 0, .int 127)]
theorem k_readLine_47_ok : fwChain m_readLine.1.cls m_readLine.2.1 47 k_readLine_47 50 = true := by decide +kernel
theorem d_readLine_50 : decode m_readLine.2.1 50 = .ok (.if_icmp .ne 10, 3) := by decide +kernel
def k_readLine_53 : List fwO := [(.aload_n 0, 0, 0, .null)]
theorem k_readLine_53_ok : fwChain m_readLine.1.cls m_readLine.2.1 53 k_readLine_53 54 = true := by decide +kernel
theorem d_readLine_54 : decode m_readLine.2.1 54 = .ok (.invokevirtual 73, 3) := by decide +kernel
theorem d_readLine_57 : decode m_readLine.2.1 57 = .ok (.goto 43, 3) := by decide +kernel
def k_readLine_60 : List fwO := [(.iload_n 2, 0, 0, .null), (.iconst 3, 0, 0, .int 3)]
theorem k_readLine_60_ok : fwChain m_readLine.1.cls m_readLine.2.1 60 k_readLine_60 62 = true := by decide +kernel
theorem d_readLine_62 : decode m_readLine.2.1 62 = .ok (.if_icmp .ne 17, 3) := by decide +kernel
def k_readLine_65 : List fwO := [(.aload_n 0, 0, 0, .null), (.getfield 60, 3, 7, .retAddr 12)]
theorem k_readLine_65_ok : fwChain m_readLine.1.cls m_readLine.2.1 65 k_readLine_65 69 = true := by decide +kernel
theorem d_readLine_69 : decode m_readLine.2.1 69 = .ok (.ifCond .ne 10, 3) := by decide +kernel
def k_readLine_72 : List fwO := [(.aload_n 0, 0, 0, .null), (.iconst 0, 0, 0, .int 0), (.putfield 63, 3, 9, .retAddr 15), (.iconst 2, 0, 0, .int 2)]
theorem k_readLine_72_ok : fwChain m_readLine.1.cls m_readLine.2.1 72 k_readLine_72 78 = true := by decide +kernel
theorem d_readLine_78 : decode m_readLine.2.1 78 = .ok (.ireturn, 1) := by decide +kernel
def k_readLine_79 : List fwO := [(.aload_n 0, 0, 0, .null), (.iload_n 2, 0, 0, .null)]
theorem k_readLine_79_ok : fwChain m_readLine.1.cls m_readLine.2.1 79 k_readLine_79 81 = true := by decide +kernel
theorem d_readLine_81 : decode m_readLine.2.1 81 = .ok (.invokevirtual 76, 3) := by decide +kernel
def k_readLine_84 : List fwO := [(.aload_n 0, 0, 0, .null), (.getfield 60, 3, 7, .retAddr 12), (.aload_n 0, 0, 0, .null), (.getfield 57, 3, 8, .retAddr 14)]
theorem k_readLine_84_ok : fwChain m_readLine.1.cls m_readLine.2.1 84 k_readLine_84 92 = true := by decide +kernel
theorem d_readLine_92 : decode m_readLine.2.1 92 = .ok (.if_icmp .lt 8, 3) := by decide +kernel
def k_readLine_95 : List fwO := [(.aload_n 0, 0, 0, .null)]
theorem k_readLine_95_ok : fwChain m_readLine.1.cls m_readLine.2.1 95 k_readLine_95 96 = true := by decide +kernel
theorem d_readLine_96 : decode m_readLine.2.1 96 = .ok (.invokevirtual 70, 3) := by decide +kernel
theorem d_readLine_99 : decode m_readLine.2.1 99 = .ok (.ireturn, 1) := by decide +kernel
def k_readLine_100 : List fwO := [(.iinc 1 1, 0, 0, .int 1)]
theorem k_readLine_100_ok : fwChain m_readLine.1.cls m_readLine.2.1 100 k_readLine_100 103 = true := by decide +kernel
theorem d_readLine_103 : decode m_readLine.2.1 103 = .ok (.goto (-101), 3) := by decide +kernel
def k_readLine_106 : List fwO := [(.iconst 0, 0, 0, .int 0)]
theorem k_readLine_106_ok : fwChain m_readLine.1.cls m_readLine.2.1 106 k_readLine_106 107 = true := by decide +kernel
theorem d_readLine_107 : decode m_readLine.2.1 107 = .ok (.ireturn, 1) := by decide +kernel
/-- MonitorBoard$Shell.goOn()Z -/
abbrev m_goOn : fwM := (⟨"MonitorBoard$Shell", "goOn", "()Z"⟩, prog_11_method_2_code, 3, (some FieldType.boolean))
theorem m_goOn_in : Cond.code m_goOn.1 m_goOn.2.1 m_goOn.2.2.1 m_goOn.2.2.2 ∈ fwT := fwT_mem (List.mem_of_getElem? (i := 945) (by decide +kernel)) rfl
def k_goOn_0 : List fwO := [(.aload_n 0, 0, 0, .null), (.getfield 59, 10, 2, .retAddr 110)]
theorem k_goOn_0_ok : fwChain m_goOn.1.cls m_goOn.2.1 0 k_goOn_0 4 = true := by decide +kernel
theorem d_goOn_4 : decode m_goOn.2.1 4 = .ok (.invokevirtual 74, 3) := by decide +kernel
def k_goOn_7 : List fwO := [(.istore_n 1, 0, 0, .null), (.iload_n 1, 0, 0, .null)]
theorem k_goOn_7_ok : fwChain m_goOn.1.cls m_goOn.2.1 7 k_goOn_7 9 = true := by decide +kernel
theorem d_goOn_9 : decode m_goOn.2.1 9 = .ok (.ifCond .ne 5, 3) := by decide +kernel
def k_goOn_12 : List fwO := [(.iconst 0, 0, 0, .int 0)]
theorem k_goOn_12_ok : fwChain m_goOn.1.cls m_goOn.2.1 12 k_goOn_12 13 = true := by decide +kernel
theorem d_goOn_13 : decode m_goOn.2.1 13 = .ok (.ireturn, 1) := by decide +kernel
def k_goOn_14 : List fwO := [(.iload_n 1, 0, 0, .null), (.iconst 2, 0, 0, .int 2)]
theorem k_goOn_14_ok : fwChain m_goOn.1.cls m_goOn.2.1 14 k_goOn_14 16 = true := by decide +kernel
theorem d_goOn_16 : decode m_goOn.2.1 16 = .ok (.if_icmp .ne 12, 3) := by decide +kernel
def k_goOn_19 : List fwO := [(.aload_n 0, 0, 0, .null), (.getfield 44, 10, 0, .retAddr 108)]
theorem k_goOn_19_ok : fwChain m_goOn.1.cls m_goOn.2.1 19 k_goOn_19 23 = true := by decide +kernel
theorem d_goOn_23 : decode m_goOn.2.1 23 = .ok (.invokevirtual 80, 3) := by decide +kernel
def k_goOn_26 : List fwO := [(.iconst 1, 0, 0, .int 1)]
theorem k_goOn_26_ok : fwChain m_goOn.1.cls m_goOn.2.1 26 k_goOn_26 27 = true := by decide +kernel
theorem d_goOn_27 : decode m_goOn.2.1 27 = .ok (.ireturn, 1) := by decide +kernel
def k_goOn_28 : List fwO := [(.aload_n 0, 0, 0, .null)]
theorem k_goOn_28_ok : fwChain m_goOn.1.cls m_goOn.2.1 28 k_goOn_28 29 = true := by decide +kernel
theorem d_goOn_29 : decode m_goOn.2.1 29 = .ok (.invokevirtual 83, 3) := by decide +kernel
def k_goOn_32 : List fwO := [(.aload_n 0, 0, 0, .null)]
theorem k_goOn_32_ok : fwChain m_goOn.1.cls m_goOn.2.1 32 k_goOn_32 33 = true := by decide +kernel
theorem d_goOn_33 : decode m_goOn.2.1 33 = .ok (.invokevirtual 86, 3) := by decide +kernel
theorem d_goOn_36 : decode m_goOn.2.1 36 = .ok (.tableswitch 136 0 9 #[56, 64, 72, 80, 88, 96, 104, 112, 120, 128], 56) := by decide +kernel
def k_goOn_92 : List fwO := [(.aload_n 0, 0, 0, .null)]
theorem k_goOn_92_ok : fwChain m_goOn.1.cls m_goOn.2.1 92 k_goOn_92 93 = true := by decide +kernel
theorem d_goOn_93 : decode m_goOn.2.1 93 = .ok (.invokevirtual 89, 3) := by decide +kernel
def k_goOn_96 : List fwO := [(.istore_n 2, 0, 0, .null)]
theorem k_goOn_96_ok : fwChain m_goOn.1.cls m_goOn.2.1 96 k_goOn_96 97 = true := by decide +kernel
theorem d_goOn_97 : decode m_goOn.2.1 97 = .ok (.goto 95, 3) := by decide +kernel
def k_goOn_100 : List fwO := [(.aload_n 0, 0, 0, .null)]
theorem k_goOn_100_ok : fwChain m_goOn.1.cls m_goOn.2.1 100 k_goOn_100 101 = true := by decide +kernel
theorem d_goOn_101 : decode m_goOn.2.1 101 = .ok (.invokevirtual 92, 3) := by decide +kernel
def k_goOn_104 : List fwO := [(.istore_n 2, 0, 0, .null)]
theorem k_goOn_104_ok : fwChain m_goOn.1.cls m_goOn.2.1 104 k_goOn_104 105 = true := by decide +kernel
theorem d_goOn_105 : decode m_goOn.2.1 105 = .ok (.goto 87, 3) := by decide +kernel
def k_goOn_108 : List fwO := [(.aload_n 0, 0, 0, .null)]
theorem k_goOn_108_ok : fwChain m_goOn.1.cls m_goOn.2.1 108 k_goOn_108 109 = true := by decide +kernel
theorem d_goOn_109 : decode m_goOn.2.1 109 = .ok (.invokevirtual 95, 3) := by decide +kernel
def k_goOn_112 : List fwO := [(.istore_n 2, 0, 0, .null)]
theorem k_goOn_112_ok : fwChain m_goOn.1.cls m_goOn.2.1 112 k_goOn_112 113 = true := by decide +kernel
theorem d_goOn_113 : decode m_goOn.2.1 113 = .ok (.goto 79, 3) := by decide +kernel
def k_goOn_116 : List fwO := [(.aload_n 0, 0, 0, .null)]
theorem k_goOn_116_ok : fwChain m_goOn.1.cls m_goOn.2.1 116 k_goOn_116 117 = true := by decide +kernel
theorem d_goOn_117 : decode m_goOn.2.1 117 = .ok (.invokevirtual 98, 3) := by decide +kernel
def k_goOn_120 : List fwO := [(.istore_n 2, 0, 0, .null)]
theorem k_goOn_120_ok : fwChain m_goOn.1.cls m_goOn.2.1 120 k_goOn_120 121 = true := by decide +kernel
theorem d_goOn_121 : decode m_goOn.2.1 121 = .ok (.goto 71, 3) := by decide +kernel
def k_goOn_124 : List fwO := [(.aload_n 0, 0, 0, .null)]
theorem k_goOn_124_ok : fwChain m_goOn.1.cls m_goOn.2.1 124 k_goOn_124 125 = true := by decide +kernel
theorem d_goOn_125 : decode m_goOn.2.1 125 = .ok (.invokevirtual 101, 3) := by decide +kernel
def k_goOn_128 : List fwO := [(.istore_n 2, 0, 0, .null)]
theorem k_goOn_128_ok : fwChain m_goOn.1.cls m_goOn.2.1 128 k_goOn_128 129 = true := by decide +kernel
theorem d_goOn_129 : decode m_goOn.2.1 129 = .ok (.goto 63, 3) := by decide +kernel
def k_goOn_132 : List fwO := [(.aload_n 0, 0, 0, .null)]
theorem k_goOn_132_ok : fwChain m_goOn.1.cls m_goOn.2.1 132 k_goOn_132 133 = true := by decide +kernel
theorem d_goOn_133 : decode m_goOn.2.1 133 = .ok (.invokevirtual 104, 3) := by decide +kernel
def k_goOn_136 : List fwO := [(.istore_n 2, 0, 0, .null)]
theorem k_goOn_136_ok : fwChain m_goOn.1.cls m_goOn.2.1 136 k_goOn_136 137 = true := by decide +kernel
theorem d_goOn_137 : decode m_goOn.2.1 137 = .ok (.goto 55, 3) := by decide +kernel
def k_goOn_140 : List fwO := [(.aload_n 0, 0, 0, .null)]
theorem k_goOn_140_ok : fwChain m_goOn.1.cls m_goOn.2.1 140 k_goOn_140 141 = true := by decide +kernel
theorem d_goOn_141 : decode m_goOn.2.1 141 = .ok (.invokevirtual 107, 3) := by decide +kernel
def k_goOn_144 : List fwO := [(.istore_n 2, 0, 0, .null)]
theorem k_goOn_144_ok : fwChain m_goOn.1.cls m_goOn.2.1 144 k_goOn_144 145 = true := by decide +kernel
theorem d_goOn_145 : decode m_goOn.2.1 145 = .ok (.goto 47, 3) := by decide +kernel
def k_goOn_148 : List fwO := [(.aload_n 0, 0, 0, .null)]
theorem k_goOn_148_ok : fwChain m_goOn.1.cls m_goOn.2.1 148 k_goOn_148 149 = true := by decide +kernel
theorem d_goOn_149 : decode m_goOn.2.1 149 = .ok (.invokevirtual 110, 3) := by decide +kernel
def k_goOn_152 : List fwO := [(.istore_n 2, 0, 0, .null)]
theorem k_goOn_152_ok : fwChain m_goOn.1.cls m_goOn.2.1 152 k_goOn_152 153 = true := by decide +kernel
theorem d_goOn_153 : decode m_goOn.2.1 153 = .ok (.goto 39, 3) := by decide +kernel
def k_goOn_156 : List fwO := [(.aload_n 0, 0, 0, .null)]
theorem k_goOn_156_ok : fwChain m_goOn.1.cls m_goOn.2.1 156 k_goOn_156 157 = true := by decide +kernel
theorem d_goOn_157 : decode m_goOn.2.1 157 = .ok (.invokevirtual 113, 3) := by decide +kernel
def k_goOn_160 : List fwO := [(.istore_n 2, 0, 0, .null)]
theorem k_goOn_160_ok : fwChain m_goOn.1.cls m_goOn.2.1 160 k_goOn_160 161 = true := by decide +kernel
theorem d_goOn_161 : decode m_goOn.2.1 161 = .ok (.goto 31, 3) := by decide +kernel
def k_goOn_164 : List fwO := [(.aload_n 0, 0, 0, .null)]
theorem k_goOn_164_ok : fwChain m_goOn.1.cls m_goOn.2.1 164 k_goOn_164 165 = true := by decide +kernel
theorem d_goOn_165 : decode m_goOn.2.1 165 = .ok (.invokevirtual 116, 3) := by decide +kernel
def k_goOn_168 : List fwO := [(.istore_n 2, 0, 0, .null)]
theorem k_goOn_168_ok : fwChain m_goOn.1.cls m_goOn.2.1 168 k_goOn_168 169 = true := by decide +kernel
theorem d_goOn_169 : decode m_goOn.2.1 169 = .ok (.goto 23, 3) := by decide +kernel
def k_goOn_172 : List fwO := [(.aload_n 0, 0, 0, .null), (.getfield 119, 10, 13, .retAddr 121), (.aload_n 0, 0, 0, .null), (.getfield 123, 10, 12, .retAddr 120)]
theorem k_goOn_172_ok : fwChain m_goOn.1.cls m_goOn.2.1 172 k_goOn_172 180 = true := by decide +kernel
theorem d_goOn_180 : decode m_goOn.2.1 180 = .ok (.if_icmp .ne 7, 3) := by decide +kernel
def k_goOn_183 : List fwO := [(.iconst 0, 0, 0, .int 0)]
theorem k_goOn_183_ok : fwChain m_goOn.1.cls m_goOn.2.1 183 k_goOn_183 184 = true := by decide +kernel
theorem d_goOn_184 : decode m_goOn.2.1 184 = .ok (.goto 7, 3) := by decide +kernel
def k_goOn_187 : List fwO := [(.aload_n 0, 0, 0, .null)]
theorem k_goOn_187_ok : fwChain m_goOn.1.cls m_goOn.2.1 187 k_goOn_187 188 = true := by decide +kernel
theorem d_goOn_188 : decode m_goOn.2.1 188 = .ok (.invokevirtual 126, 3) := by decide +kernel
def k_goOn_191 : List fwO := [(.istore_n 2, 0, 0, .null)]
theorem k_goOn_191_ok : fwChain m_goOn.1.cls m_goOn.2.1 191 k_goOn_191 192 = true := by decide +kernel
def k_goOn_192 : List fwO := [(.aload_n 0, 0, 0, .null), (.iload_n 2, 0, 0, .null)]
theorem k_goOn_192_ok : fwChain m_goOn.1.cls m_goOn.2.1 192 k_goOn_192 194 = true := by decide +kernel
theorem d_goOn_194 : decode m_goOn.2.1 194 = .ok (.invokevirtual 129, 3) := by decide +kernel
def k_goOn_197 : List fwO := [(.iconst 1, 0, 0, .int 1)]
theorem k_goOn_197_ok : fwChain m_goOn.1.cls m_goOn.2.1 197 k_goOn_197 198 = true := by decide +kernel
theorem d_goOn_198 : decode m_goOn.2.1 198 = .ok (.ireturn, 1) := by decide +kernel
/-- MonitorBoard.run(I)I -/
abbrev m_run : fwM := (⟨"MonitorBoard", "run", "(I)I"⟩, prog_1_method_7_code, 5, (some FieldType.int))
theorem m_run_in : Cond.code m_run.1 m_run.2.1 m_run.2.2.1 m_run.2.2.2 ∈ fwT := fwT_mem (List.mem_of_getElem? (i := 939) (by decide +kernel)) rfl
def k_run_0 : List fwO := [(.iload_n 1, 0, 0, .null), (.iconst 1, 0, 0, .int 1)]
theorem k_run_0_ok : fwChain m_run.1.cls m_run.2.1 0 k_run_0 2 = true := by decide +kernel
theorem d_run_2 : decode m_run.2.1 2 = .ok (.if_icmp .lt 9, 3) := by decide +kernel
def k_run_5 : List fwO := [(.iload_n 1, 0, 0, .null), (.ldc 98, 8, 0, .int 200000)]
theorem k_run_5_ok : fwChain m_run.1.cls m_run.2.1 5 k_run_5 8 = true := by decide +kernel
theorem d_run_8 : decode m_run.2.1 8 = .ok (.if_icmp .le 19, 3) := by decide +kernel
def k_run_11 : List fwO := [(.aload_n 0, 0, 0, .null), (.getfield 32, 0, 4, .retAddr 155), (.getfield 99, 8, 7, .retAddr 40)]
theorem k_run_11_ok : fwChain m_run.1.cls m_run.2.1 11 k_run_11 18 = true := by decide +kernel
theorem d_run_18 : decode m_run.2.1 18 = .ok (.ifCond .eq 7, 3) := by decide +kernel
def k_run_21 : List fwO := [(.iconst 2, 0, 0, .int 2)]
theorem k_run_21_ok : fwChain m_run.1.cls m_run.2.1 21 k_run_21 22 = true := by decide +kernel
theorem d_run_22 : decode m_run.2.1 22 = .ok (.goto 4, 3) := by decide +kernel
def k_run_25 : List fwO := [(.iconst 0, 0, 0, .int 0)]
theorem k_run_25_ok : fwChain m_run.1.cls m_run.2.1 25 k_run_25 26 = true := by decide +kernel
theorem d_run_26 : decode m_run.2.1 26 = .ok (.ireturn, 1) := by decide +kernel
def k_run_27 : List fwO := [(.aload_n 0, 0, 0, .null), (.getfield 32, 0, 4, .retAddr 155), (.getfield 103, 8, 6, .retAddr 35), (.iload_n 1, 0, 0, .null), (.i2l, 0, 0, .null), (.ladd, 0, 0, .null), (.lstore_n 2, 0, 0, .null), (.iconst 0, 0, 0, .int 0), (.istore 4, 0, 0, .null)]
theorem k_run_27_ok : fwChain m_run.1.cls m_run.2.1 27 k_run_27 41 = true := by decide +kernel
def k_run_41 : List fwO := [(.iload 4, 0, 0, .null), (.ldc 107, 9, 0, .int 1000000)]
theorem k_run_41_ok : fwChain m_run.1.cls m_run.2.1 41 k_run_41 45 = true := by decide +kernel
theorem d_run_45 : decode m_run.2.1 45 = .ok (.if_icmp .ge 89, 3) := by decide +kernel
def k_run_48 : List fwO := [(.aload_n 0, 0, 0, .null), (.getfield 32, 0, 4, .retAddr 155), (.getfield 99, 8, 7, .retAddr 40)]
theorem k_run_48_ok : fwChain m_run.1.cls m_run.2.1 48 k_run_48 55 = true := by decide +kernel
theorem d_run_55 : decode m_run.2.1 55 = .ok (.ifCond .eq 5, 3) := by decide +kernel
def k_run_58 : List fwO := [(.iconst 2, 0, 0, .int 2)]
theorem k_run_58_ok : fwChain m_run.1.cls m_run.2.1 58 k_run_58 59 = true := by decide +kernel
theorem d_run_59 : decode m_run.2.1 59 = .ok (.ireturn, 1) := by decide +kernel
def k_run_60 : List fwO := [(.aload_n 0, 0, 0, .null), (.getfield 32, 0, 4, .retAddr 155), (.getfield 103, 8, 6, .retAddr 35), (.lload_n 2, 0, 0, .null), (.lcmp, 0, 0, .null)]
theorem k_run_60_ok : fwChain m_run.1.cls m_run.2.1 60 k_run_60 69 = true := by decide +kernel
theorem d_run_69 : decode m_run.2.1 69 = .ok (.ifCond .lt 5, 3) := by decide +kernel
def k_run_72 : List fwO := [(.iconst 0, 0, 0, .int 0)]
theorem k_run_72_ok : fwChain m_run.1.cls m_run.2.1 72 k_run_72 73 = true := by decide +kernel
theorem d_run_73 : decode m_run.2.1 73 = .ok (.ireturn, 1) := by decide +kernel
def k_run_74 : List fwO := [(.aload_n 0, 0, 0, .null), (.getfield 48, 0, 6, .retAddr 157), (.getfield 108, 7, 7, .retAddr 87)]
theorem k_run_74_ok : fwChain m_run.1.cls m_run.2.1 74 k_run_74 81 = true := by decide +kernel
theorem d_run_81 : decode m_run.2.1 81 = .ok (.ifCond .eq 15, 3) := by decide +kernel
def k_run_84 : List fwO := [(.aload_n 0, 0, 0, .null), (.getfield 57, 0, 7, .retAddr 158)]
theorem k_run_84_ok : fwChain m_run.1.cls m_run.2.1 84 k_run_84 88 = true := by decide +kernel
theorem d_run_88 : decode m_run.2.1 88 = .ok (.invokevirtual 111, 3) := by decide +kernel
theorem d_run_91 : decode m_run.2.1 91 = .ok (.ifCond .ne 37, 3) := by decide +kernel
def k_run_94 : List fwO := [(.iconst 1, 0, 0, .int 1)]
theorem k_run_94_ok : fwChain m_run.1.cls m_run.2.1 94 k_run_94 95 = true := by decide +kernel
theorem d_run_95 : decode m_run.2.1 95 = .ok (.ireturn, 1) := by decide +kernel
def k_run_96 : List fwO := [(.aload_n 0, 0, 0, .null), (.getfield 32, 0, 4, .retAddr 155), (.getfield 115, 8, 5, .retAddr 32)]
theorem k_run_96_ok : fwChain m_run.1.cls m_run.2.1 96 k_run_96 103 = true := by decide +kernel
theorem d_run_103 : decode m_run.2.1 103 = .ok (.invokestatic 118, 3) := by decide +kernel
theorem d_run_106 : decode m_run.2.1 106 = .ok (.ifCond .eq 15, 3) := by decide +kernel
def k_run_109 : List fwO := [(.aload_n 0, 0, 0, .null), (.getfield 48, 0, 6, .retAddr 157)]
theorem k_run_109_ok : fwChain m_run.1.cls m_run.2.1 109 k_run_109 113 = true := by decide +kernel
theorem d_run_113 : decode m_run.2.1 113 = .ok (.invokevirtual 122, 3) := by decide +kernel
theorem d_run_116 : decode m_run.2.1 116 = .ok (.ifCond .ne 12, 3) := by decide +kernel
def k_run_119 : List fwO := [(.iconst 1, 0, 0, .int 1)]
theorem k_run_119_ok : fwChain m_run.1.cls m_run.2.1 119 k_run_119 120 = true := by decide +kernel
theorem d_run_120 : decode m_run.2.1 120 = .ok (.ireturn, 1) := by decide +kernel
def k_run_121 : List fwO := [(.aload_n 0, 0, 0, .null), (.getfield 32, 0, 4, .retAddr 155)]
theorem k_run_121_ok : fwChain m_run.1.cls m_run.2.1 121 k_run_121 125 = true := by decide +kernel
theorem d_run_125 : decode m_run.2.1 125 = .ok (.invokevirtual 125, 3) := by decide +kernel
def k_run_128 : List fwO := [(.iinc 4 1, 0, 0, .int 1)]
theorem k_run_128_ok : fwChain m_run.1.cls m_run.2.1 128 k_run_128 131 = true := by decide +kernel
theorem d_run_131 : decode m_run.2.1 131 = .ok (.goto (-90), 3) := by decide +kernel
def k_run_134 : List fwO := [(.iconst 0, 0, 0, .int 0)]
theorem k_run_134_ok : fwChain m_run.1.cls m_run.2.1 134 k_run_134 135 = true := by decide +kernel
theorem d_run_135 : decode m_run.2.1 135 = .ok (.ireturn, 1) := by decide +kernel
/-- MonitorBoard.states()J -/
abbrev m_states : fwM := (⟨"MonitorBoard", "states", "()J"⟩, prog_1_method_8_code, 1, (some FieldType.long))
theorem m_states_in : Cond.code m_states.1 m_states.2.1 m_states.2.2.1 m_states.2.2.2 ∈ fwT := fwT_mem (List.mem_of_getElem? (i := 1660) (by decide +kernel)) rfl
def k_states_0 : List fwO := [(.aload_n 0, 0, 0, .null), (.getfield 32, 0, 4, .retAddr 155), (.getfield 103, 8, 6, .retAddr 35)]
theorem k_states_0_ok : fwChain m_states.1.cls m_states.2.1 0 k_states_0 7 = true := by decide +kernel
theorem d_states_7 : decode m_states.2.1 7 = .ok (.lreturn, 1) := by decide +kernel
/-- MonitorBoard.register(I)I -/
abbrev m_register : fwM := (⟨"MonitorBoard", "register", "(I)I"⟩, prog_1_method_9_code, 2, (some FieldType.int))
theorem m_register_in : Cond.code m_register.1 m_register.2.1 m_register.2.2.1 m_register.2.2.2 ∈ fwT := fwT_mem (List.mem_of_getElem? (i := 1664) (by decide +kernel)) rfl
def k_register_0 : List fwO := [(.iload_n 1, 0, 0, .null)]
theorem k_register_0_ok : fwChain m_register.1.cls m_register.2.1 0 k_register_0 1 = true := by decide +kernel
theorem d_register_1 : decode m_register.2.1 1 = .ok (.ifCond .lt 9, 3) := by decide +kernel
def k_register_4 : List fwO := [(.iload_n 1, 0, 0, .null), (.bipush 12, 0, 0, .int 12)]
theorem k_register_4_ok : fwChain m_register.1.cls m_register.2.1 4 k_register_4 7 = true := by decide +kernel
theorem d_register_7 : decode m_register.2.1 7 = .ok (.if_icmp .le 5, 3) := by decide +kernel
def k_register_10 : List fwO := [(.iconst (-1), 0, 0, .int (-1))]
theorem k_register_10_ok : fwChain m_register.1.cls m_register.2.1 10 k_register_10 11 = true := by decide +kernel
theorem d_register_11 : decode m_register.2.1 11 = .ok (.ireturn, 1) := by decide +kernel
def k_register_12 : List fwO := [(.iload_n 1, 0, 0, .null)]
theorem k_register_12_ok : fwChain m_register.1.cls m_register.2.1 12 k_register_12 13 = true := by decide +kernel
theorem d_register_13 : decode m_register.2.1 13 = .ok (.tableswitch 91 6 12 #[43, 91, 51, 59, 67, 75, 83], 43) := by decide +kernel
def k_register_56 : List fwO := [(.aload_n 0, 0, 0, .null), (.getfield 32, 0, 4, .retAddr 155), (.getfield 128, 8, 3, .retAddr 27)]
theorem k_register_56_ok : fwChain m_register.1.cls m_register.2.1 56 k_register_56 63 = true := by decide +kernel
theorem d_register_63 : decode m_register.2.1 63 = .ok (.ireturn, 1) := by decide +kernel
def k_register_64 : List fwO := [(.aload_n 0, 0, 0, .null), (.getfield 32, 0, 4, .retAddr 155), (.getfield 131, 8, 4, .retAddr 29)]
theorem k_register_64_ok : fwChain m_register.1.cls m_register.2.1 64 k_register_64 71 = true := by decide +kernel
theorem d_register_71 : decode m_register.2.1 71 = .ok (.ireturn, 1) := by decide +kernel
def k_register_72 : List fwO := [(.aload_n 0, 0, 0, .null), (.getfield 32, 0, 4, .retAddr 155), (.getfield 115, 8, 5, .retAddr 32)]
theorem k_register_72_ok : fwChain m_register.1.cls m_register.2.1 72 k_register_72 79 = true := by decide +kernel
theorem d_register_79 : decode m_register.2.1 79 = .ok (.ireturn, 1) := by decide +kernel
def k_register_80 : List fwO := [(.aload_n 0, 0, 0, .null), (.getfield 39, 0, 5, .retAddr 156), (.getfield 134, 4, 10, .retAddr 63)]
theorem k_register_80_ok : fwChain m_register.1.cls m_register.2.1 80 k_register_80 87 = true := by decide +kernel
theorem d_register_87 : decode m_register.2.1 87 = .ok (.ireturn, 1) := by decide +kernel
def k_register_88 : List fwO := [(.aload_n 0, 0, 0, .null), (.getfield 39, 0, 5, .retAddr 156), (.getfield 137, 4, 11, .retAddr 67)]
theorem k_register_88_ok : fwChain m_register.1.cls m_register.2.1 88 k_register_88 95 = true := by decide +kernel
theorem d_register_95 : decode m_register.2.1 95 = .ok (.ireturn, 1) := by decide +kernel
def k_register_96 : List fwO := [(.aload_n 0, 0, 0, .null), (.getfield 48, 0, 6, .retAddr 157), (.getfield 140, 7, 3, .retAddr 81)]
theorem k_register_96_ok : fwChain m_register.1.cls m_register.2.1 96 k_register_96 103 = true := by decide +kernel
theorem d_register_103 : decode m_register.2.1 103 = .ok (.ireturn, 1) := by decide +kernel
def k_register_104 : List fwO := [(.aload_n 0, 0, 0, .null), (.getfield 32, 0, 4, .retAddr 155), (.getfield 143, 8, 1, .retAddr 24), (.iload_n 1, 0, 0, .null), (.iaload, 0, 0, .null)]
theorem k_register_104_ok : fwChain m_register.1.cls m_register.2.1 104 k_register_104 113 = true := by decide +kernel
theorem d_register_113 : decode m_register.2.1 113 = .ok (.ireturn, 1) := by decide +kernel
/-- MonitorBoard$Processor.peek(I)I -/
abbrev m_peek : fwM := (⟨"MonitorBoard$Processor", "peek", "(I)I"⟩, prog_9_method_3_code, 2, (some FieldType.int))
theorem m_peek_in : Cond.code m_peek.1 m_peek.2.1 m_peek.2.2.1 m_peek.2.2.2 ∈ fwT := fwT_mem (List.mem_of_getElem? (i := 1425) (by decide +kernel)) rfl
def k_peek_0 : List fwO := [(.aload_n 0, 0, 0, .null), (.getfield 10, 8, 0, .retAddr 18), (.iload_n 1, 0, 0, .null), (.ldc 37, 5, 0, .int 65535), (.iand, 0, 0, .null), (.baload, 0, 0, .null), (.sipush 255, 0, 0, .int 255), (.iand, 0, 0, .null)]
theorem k_peek_0_ok : fwChain m_peek.1.cls m_peek.2.1 0 k_peek_0 13 = true := by decide +kernel
theorem d_peek_13 : decode m_peek.2.1 13 = .ok (.ireturn, 1) := by decide +kernel
/-- MonitorBoard.memory(I)I -/
abbrev m_memory : fwM := (⟨"MonitorBoard", "memory", "(I)I"⟩, prog_1_method_10_code, 2, (some FieldType.int))
theorem m_memory_in : Cond.code m_memory.1 m_memory.2.1 m_memory.2.2.1 m_memory.2.2.2 ∈ fwT := fwT_mem (List.mem_of_getElem? (i := 1668) (by decide +kernel)) rfl
def k_memory_0 : List fwO := [(.iload_n 1, 0, 0, .null)]
theorem k_memory_0_ok : fwChain m_memory.1.cls m_memory.2.1 0 k_memory_0 1 = true := by decide +kernel
theorem d_memory_1 : decode m_memory.2.1 1 = .ok (.ifCond .lt 9, 3) := by decide +kernel
def k_memory_4 : List fwO := [(.iload_n 1, 0, 0, .null), (.ldc 147, 27, 0, .int 65536)]
theorem k_memory_4_ok : fwChain m_memory.1.cls m_memory.2.1 4 k_memory_4 7 = true := by decide +kernel
theorem d_memory_7 : decode m_memory.2.1 7 = .ok (.if_icmp .lt 5, 3) := by decide +kernel
def k_memory_10 : List fwO := [(.iconst (-1), 0, 0, .int (-1))]
theorem k_memory_10_ok : fwChain m_memory.1.cls m_memory.2.1 10 k_memory_10 11 = true := by decide +kernel
theorem d_memory_11 : decode m_memory.2.1 11 = .ok (.ireturn, 1) := by decide +kernel
def k_memory_12 : List fwO := [(.aload_n 0, 0, 0, .null), (.getfield 32, 0, 4, .retAddr 155), (.iload_n 1, 0, 0, .null)]
theorem k_memory_12_ok : fwChain m_memory.1.cls m_memory.2.1 12 k_memory_12 17 = true := by decide +kernel
theorem d_memory_17 : decode m_memory.2.1 17 = .ok (.invokevirtual 148, 3) := by decide +kernel
theorem d_memory_20 : decode m_memory.2.1 20 = .ok (.ireturn, 1) := by decide +kernel
/-- MonitorBoard.load(I)V -/
abbrev m_load : fwM := (⟨"MonitorBoard", "load", "(I)V"⟩, prog_1_method_11_code, 3, (none : Option FieldType))
theorem m_load_in : Cond.code m_load.1 m_load.2.1 m_load.2.2.1 m_load.2.2.2 ∈ fwT := fwT_mem (List.mem_of_getElem? (i := 1674) (by decide +kernel)) rfl
def k_load_0 : List fwO := [(.iconst 0, 0, 0, .int 0), (.istore_n 2, 0, 0, .null)]
theorem k_load_0_ok : fwChain m_load.1.cls m_load.2.1 0 k_load_0 2 = true := by decide +kernel
def k_load_2 : List fwO := [(.iload_n 2, 0, 0, .null), (.aload_n 0, 0, 0, .null), (.getfield 83, 0, 10, .retAddr 161)]
theorem k_load_2_ok : fwChain m_load.1.cls m_load.2.1 2 k_load_2 7 = true := by decide +kernel
theorem d_load_7 : decode m_load.2.1 7 = .ok (.if_icmp .ge 25, 3) := by decide +kernel
def k_load_10 : List fwO := [(.aload_n 0, 0, 0, .null), (.getfield 32, 0, 4, .retAddr 155), (.iload_n 1, 0, 0, .null), (.iload_n 2, 0, 0, .null), (.iadd, 0, 0, .null), (.aload_n 0, 0, 0, .null), (.getfield 9, 0, 0, .retAddr 151), (.iload_n 2, 0, 0, .null), (.baload, 0, 0, .null)]
theorem k_load_10_ok : fwChain m_load.1.cls m_load.2.1 10 k_load_10 23 = true := by decide +kernel
theorem d_load_23 : decode m_load.2.1 23 = .ok (.invokevirtual 152, 3) := by decide +kernel
def k_load_26 : List fwO := [(.iinc 2 1, 0, 0, .int 1)]
theorem k_load_26_ok : fwChain m_load.1.cls m_load.2.1 26 k_load_26 29 = true := by decide +kernel
theorem d_load_29 : decode m_load.2.1 29 = .ok (.goto (-27), 3) := by decide +kernel
def k_load_32 : List fwO := [(.aload_n 0, 0, 0, .null), (.iconst 0, 0, 0, .int 0), (.putfield 83, 0, 10, .retAddr 161)]
theorem k_load_32_ok : fwChain m_load.1.cls m_load.2.1 32 k_load_32 37 = true := by decide +kernel
theorem d_load_37 : decode m_load.2.1 37 = .ok (.return_, 1) := by decide +kernel
/-- MonitorBoard.jump(I)V -/
abbrev m_jump : fwM := (⟨"MonitorBoard", "jump", "(I)V"⟩, prog_1_method_12_code, 2, (none : Option FieldType))
theorem m_jump_in : Cond.code m_jump.1 m_jump.2.1 m_jump.2.2.1 m_jump.2.2.2 ∈ fwT := fwT_mem (List.mem_of_getElem? (i := 1679) (by decide +kernel)) rfl
def k_jump_0 : List fwO := [(.aload_n 0, 0, 0, .null), (.getfield 32, 0, 4, .retAddr 155), (.iload_n 1, 0, 0, .null), (.ldc 156, 28, 0, .int 65535), (.iand, 0, 0, .null), (.putfield 115, 8, 5, .retAddr 32), (.aload_n 0, 0, 0, .null), (.getfield 32, 0, 4, .retAddr 155), (.iconst 0, 0, 0, .int 0), (.putfield 99, 8, 7, .retAddr 40), (.aload_n 0, 0, 0, .null), (.getfield 48, 0, 6, .retAddr 157), (.iconst 0, 0, 0, .int 0), (.putfield 108, 7, 7, .retAddr 87), (.aload_n 0, 0, 0, .null), (.getfield 23, 0, 3, .retAddr 154), (.iconst 0, 0, 0, .int 0), (.putfield 157, 3, 9, .retAddr 16)]
theorem k_jump_0_ok : fwChain m_jump.1.cls m_jump.2.1 0 k_jump_0 35 = true := by decide +kernel
theorem d_jump_35 : decode m_jump.2.1 35 = .ok (.return_, 1) := by decide +kernel
/-- MonitorBoard$Console.takeTold([B)I -/
abbrev m_takeTold : fwM := (⟨"MonitorBoard$Console", "takeTold", "([B)I"⟩, prog_4_method_7_code, 4, (some FieldType.int))
theorem m_takeTold_in : Cond.code m_takeTold.1 m_takeTold.2.1 m_takeTold.2.2.1 m_takeTold.2.2.2 ∈ fwT := fwT_mem (List.mem_of_getElem? (i := 1688) (by decide +kernel)) rfl
def k_takeTold_0 : List fwO := [(.aload_n 0, 0, 0, .null), (.getfield 26, 3, 4, .retAddr 6), (.aload_n 1, 0, 0, .null), (.arraylength, 0, 0, .null)]
theorem k_takeTold_0_ok : fwChain m_takeTold.1.cls m_takeTold.2.1 0 k_takeTold_0 6 = true := by decide +kernel
theorem d_takeTold_6 : decode m_takeTold.2.1 6 = .ok (.invokestatic 45, 3) := by decide +kernel
def k_takeTold_9 : List fwO := [(.istore_n 2, 0, 0, .null), (.iconst 0, 0, 0, .int 0), (.istore_n 3, 0, 0, .null)]
theorem k_takeTold_9_ok : fwChain m_takeTold.1.cls m_takeTold.2.1 9 k_takeTold_9 12 = true := by decide +kernel
def k_takeTold_12 : List fwO := [(.iload_n 3, 0, 0, .null), (.iload_n 2, 0, 0, .null)]
theorem k_takeTold_12_ok : fwChain m_takeTold.1.cls m_takeTold.2.1 12 k_takeTold_12 14 = true := by decide +kernel
theorem d_takeTold_14 : decode m_takeTold.2.1 14 = .ok (.if_icmp .ge 27, 3) := by decide +kernel
def k_takeTold_17 : List fwO := [(.aload_n 1, 0, 0, .null), (.iload_n 3, 0, 0, .null), (.aload_n 0, 0, 0, .null), (.getfield 9, 3, 0, .retAddr 0), (.aload_n 0, 0, 0, .null), (.getfield 22, 3, 3, .retAddr 5), (.iload_n 3, 0, 0, .null), (.iadd, 0, 0, .null), (.sipush 8000, 0, 0, .int 8000), (.irem, 0, 0, .null), (.baload, 0, 0, .null), (.bastore, 0, 0, .null), (.iinc 3 1, 0, 0, .int 1)]
theorem k_takeTold_17_ok : fwChain m_takeTold.1.cls m_takeTold.2.1 17 k_takeTold_17 38 = true := by decide +kernel
theorem d_takeTold_38 : decode m_takeTold.2.1 38 = .ok (.goto (-26), 3) := by decide +kernel
def k_takeTold_41 : List fwO := [(.aload_n 0, 0, 0, .null), (.iconst 0, 0, 0, .int 0), (.putfield 22, 3, 3, .retAddr 5), (.aload_n 0, 0, 0, .null), (.iconst 0, 0, 0, .int 0), (.putfield 26, 3, 4, .retAddr 6), (.iload_n 2, 0, 0, .null)]
theorem k_takeTold_41_ok : fwChain m_takeTold.1.cls m_takeTold.2.1 41 k_takeTold_41 52 = true := by decide +kernel
theorem d_takeTold_52 : decode m_takeTold.2.1 52 = .ok (.ireturn, 1) := by decide +kernel
/-- MonitorBoard.console()I -/
abbrev m_console : fwM := (⟨"MonitorBoard", "console", "()I"⟩, prog_1_method_13_code, 1, (some FieldType.int))
theorem m_console_in : Cond.code m_console.1 m_console.2.1 m_console.2.2.1 m_console.2.2.2 ∈ fwT := fwT_mem (List.mem_of_getElem? (i := 1684) (by decide +kernel)) rfl
def k_console_0 : List fwO := [(.aload_n 0, 0, 0, .null), (.aload_n 0, 0, 0, .null), (.getfield 23, 0, 3, .retAddr 154), (.aload_n 0, 0, 0, .null), (.getfield 14, 0, 1, .retAddr 152)]
theorem k_console_0_ok : fwChain m_console.1.cls m_console.2.1 0 k_console_0 9 = true := by decide +kernel
theorem d_console_9 : decode m_console.2.1 9 = .ok (.invokevirtual 160, 3) := by decide +kernel
def k_console_12 : List fwO := [(.putfield 164, 0, 11, .retAddr 162), (.aload_n 0, 0, 0, .null), (.getfield 164, 0, 11, .retAddr 162)]
theorem k_console_12_ok : fwChain m_console.1.cls m_console.2.1 12 k_console_12 19 = true := by decide +kernel
theorem d_console_19 : decode m_console.2.1 19 = .ok (.ireturn, 1) := by decide +kernel
/-- MonitorBoard.out(I)I -/
abbrev m_out : fwM := (⟨"MonitorBoard", "out", "(I)I"⟩, prog_1_method_14_code, 2, (some FieldType.int))
theorem m_out_in : Cond.code m_out.1 m_out.2.1 m_out.2.2.1 m_out.2.2.2 ∈ fwT := fwT_mem (List.mem_of_getElem? (i := 1692) (by decide +kernel)) rfl
def k_out_0 : List fwO := [(.iload_n 1, 0, 0, .null)]
theorem k_out_0_ok : fwChain m_out.1.cls m_out.2.1 0 k_out_0 1 = true := by decide +kernel
theorem d_out_1 : decode m_out.2.1 1 = .ok (.ifCond .lt 11, 3) := by decide +kernel
def k_out_4 : List fwO := [(.iload_n 1, 0, 0, .null), (.aload_n 0, 0, 0, .null), (.getfield 164, 0, 11, .retAddr 162)]
theorem k_out_4_ok : fwChain m_out.1.cls m_out.2.1 4 k_out_4 9 = true := by decide +kernel
theorem d_out_9 : decode m_out.2.1 9 = .ok (.if_icmp .lt 5, 3) := by decide +kernel
def k_out_12 : List fwO := [(.iconst (-1), 0, 0, .int (-1))]
theorem k_out_12_ok : fwChain m_out.1.cls m_out.2.1 12 k_out_12 13 = true := by decide +kernel
theorem d_out_13 : decode m_out.2.1 13 = .ok (.ireturn, 1) := by decide +kernel
def k_out_14 : List fwO := [(.aload_n 0, 0, 0, .null), (.getfield 14, 0, 1, .retAddr 152), (.iload_n 1, 0, 0, .null), (.baload, 0, 0, .null), (.sipush 255, 0, 0, .int 255), (.iand, 0, 0, .null)]
theorem k_out_14_ok : fwChain m_out.1.cls m_out.2.1 14 k_out_14 24 = true := by decide +kernel
theorem d_out_24 : decode m_out.2.1 24 = .ok (.ireturn, 1) := by decide +kernel
/-- MonitorBoard$Assembler.translate(I)I -/
abbrev m_translate : fwM := (⟨"MonitorBoard$Assembler", "translate", "(I)I"⟩, prog_2_method_2_code, 4, (some FieldType.int))
theorem m_translate_in : Cond.code m_translate.1 m_translate.2.1 m_translate.2.2.1 m_translate.2.2.2 ∈ fwT := fwT_mem (List.mem_of_getElem? (i := 1700) (by decide +kernel)) rfl
def k_translate_0 : List fwO := [(.aload_n 0, 0, 0, .null), (.iload_n 1, 0, 0, .null), (.aload_n 0, 0, 0, .null), (.getfield 36, 2, 0, .retAddr 127), (.arraylength, 0, 0, .null)]
theorem k_translate_0_ok : fwChain m_translate.1.cls m_translate.2.1 0 k_translate_0 7 = true := by decide +kernel
theorem d_translate_7 : decode m_translate.2.1 7 = .ok (.invokestatic 47, 3) := by decide +kernel
def k_translate_10 : List fwO := [(.putfield 53, 2, 9, .retAddr 136), (.aload_n 0, 0, 0, .null), (.iconst 0, 0, 0, .int 0), (.putfield 57, 2, 7, .retAddr 134), (.aload_n 0, 0, 0, .null), (.iconst (-1), 0, 0, .int (-1)), (.putfield 60, 2, 11, .retAddr 138), (.iconst 1, 0, 0, .int 1), (.istore_n 2, 0, 0, .null)]
theorem k_translate_10_ok : fwChain m_translate.1.cls m_translate.2.1 10 k_translate_10 25 = true := by decide +kernel
def k_translate_25 : List fwO := [(.iload_n 2, 0, 0, .null), (.iconst 2, 0, 0, .int 2)]
theorem k_translate_25_ok : fwChain m_translate.1.cls m_translate.2.1 25 k_translate_25 27 = true := by decide +kernel
theorem d_translate_27 : decode m_translate.2.1 27 = .ok (.if_icmp .gt 108, 3) := by decide +kernel
def k_translate_30 : List fwO := [(.aload_n 0, 0, 0, .null), (.getfield 60, 2, 11, .retAddr 138), (.iconst (-1), 0, 0, .int (-1))]
theorem k_translate_30_ok : fwChain m_translate.1.cls m_translate.2.1 30 k_translate_30 35 = true := by decide +kernel
theorem d_translate_35 : decode m_translate.2.1 35 = .ok (.if_icmp .ne 100, 3) := by decide +kernel
def k_translate_38 : List fwO := [(.aload_n 0, 0, 0, .null), (.iload_n 2, 0, 0, .null), (.iconst 2, 0, 0, .int 2)]
theorem k_translate_38_ok : fwChain m_translate.1.cls m_translate.2.1 38 k_translate_38 41 = true := by decide +kernel
theorem d_translate_41 : decode m_translate.2.1 41 = .ok (.if_icmp .ne 7, 3) := by decide +kernel
def k_translate_44 : List fwO := [(.iconst 1, 0, 0, .int 1)]
theorem k_translate_44_ok : fwChain m_translate.1.cls m_translate.2.1 44 k_translate_44 45 = true := by decide +kernel
theorem d_translate_45 : decode m_translate.2.1 45 = .ok (.goto 4, 3) := by decide +kernel
def k_translate_48 : List fwO := [(.iconst 0, 0, 0, .int 0)]
theorem k_translate_48_ok : fwChain m_translate.1.cls m_translate.2.1 48 k_translate_48 49 = true := by decide +kernel
def k_translate_49 : List fwO := [(.putfield 63, 2, 16, .retAddr 143), (.aload_n 0, 0, 0, .null), (.iconst 0, 0, 0, .int 0), (.putfield 67, 2, 10, .retAddr 137), (.aload_n 0, 0, 0, .null), (.sipush 256, 0, 0, .int 256), (.putfield 70, 2, 12, .retAddr 139), (.aload_n 0, 0, 0, .null), (.sipush 256, 0, 0, .int 256), (.putfield 73, 2, 13, .retAddr 140), (.aload_n 0, 0, 0, .null), (.iconst 0, 0, 0, .int 0), (.putfield 76, 2, 17, .retAddr 144), (.iconst 0, 0, 0, .int 0), (.istore_n 3, 0, 0, .null)]
theorem k_translate_49_ok : fwChain m_translate.1.cls m_translate.2.1 49 k_translate_49 78 = true := by decide +kernel
def k_translate_78 : List fwO := [(.iload_n 3, 0, 0, .null), (.sipush 4000, 0, 0, .int 4000)]
theorem k_translate_78_ok : fwChain m_translate.1.cls m_translate.2.1 78 k_translate_78 82 = true := by decide +kernel
theorem d_translate_82 : decode m_translate.2.1 82 = .ok (.if_icmp .gt 47, 3) := by decide +kernel
def k_translate_85 : List fwO := [(.aload_n 0, 0, 0, .null), (.getfield 67, 2, 10, .retAddr 137), (.aload_n 0, 0, 0, .null), (.getfield 53, 2, 9, .retAddr 136)]
theorem k_translate_85_ok : fwChain m_translate.1.cls m_translate.2.1 85 k_translate_85 93 = true := by decide +kernel
theorem d_translate_93 : decode m_translate.2.1 93 = .ok (.if_icmp .ge 36, 3) := by decide +kernel
def k_translate_96 : List fwO := [(.aload_n 0, 0, 0, .null), (.getfield 60, 2, 11, .retAddr 138), (.iconst (-1), 0, 0, .int (-1))]
theorem k_translate_96_ok : fwChain m_translate.1.cls m_translate.2.1 96 k_translate_96 101 = true := by decide +kernel
theorem d_translate_101 : decode m_translate.2.1 101 = .ok (.if_icmp .ne 28, 3) := by decide +kernel
def k_translate_104 : List fwO := [(.aload_n 0, 0, 0, .null), (.getfield 76, 2, 17, .retAddr 144)]
theorem k_translate_104_ok : fwChain m_translate.1.cls m_translate.2.1 104 k_translate_104 108 = true := by decide +kernel
theorem d_translate_108 : decode m_translate.2.1 108 = .ok (.ifCond .ne 21, 3) := by decide +kernel
def k_translate_111 : List fwO := [(.aload_n 0, 0, 0, .null)]
theorem k_translate_111_ok : fwChain m_translate.1.cls m_translate.2.1 111 k_translate_111 112 = true := by decide +kernel
theorem d_translate_112 : decode m_translate.2.1 112 = .ok (.invokevirtual 79, 3) := by decide +kernel
def k_translate_115 : List fwO := [(.aload_n 0, 0, 0, .null)]
theorem k_translate_115_ok : fwChain m_translate.1.cls m_translate.2.1 115 k_translate_115 116 = true := by decide +kernel
theorem d_translate_116 : decode m_translate.2.1 116 = .ok (.invokevirtual 82, 3) := by decide +kernel
def k_translate_119 : List fwO := [(.aload_n 0, 0, 0, .null)]
theorem k_translate_119_ok : fwChain m_translate.1.cls m_translate.2.1 119 k_translate_119 120 = true := by decide +kernel
theorem d_translate_120 : decode m_translate.2.1 120 = .ok (.invokevirtual 85, 3) := by decide +kernel
def k_translate_123 : List fwO := [(.iinc 3 1, 0, 0, .int 1)]
theorem k_translate_123_ok : fwChain m_translate.1.cls m_translate.2.1 123 k_translate_123 126 = true := by decide +kernel
theorem d_translate_126 : decode m_translate.2.1 126 = .ok (.goto (-48), 3) := by decide +kernel
def k_translate_129 : List fwO := [(.iinc 2 1, 0, 0, .int 1)]
theorem k_translate_129_ok : fwChain m_translate.1.cls m_translate.2.1 129 k_translate_129 132 = true := by decide +kernel
theorem d_translate_132 : decode m_translate.2.1 132 = .ok (.goto (-107), 3) := by decide +kernel
def k_translate_135 : List fwO := [(.aload_n 0, 0, 0, .null), (.getfield 60, 2, 11, .retAddr 138), (.iconst (-1), 0, 0, .int (-1))]
theorem k_translate_135_ok : fwChain m_translate.1.cls m_translate.2.1 135 k_translate_135 140 = true := by decide +kernel
theorem d_translate_140 : decode m_translate.2.1 140 = .ok (.if_icmp .ne 14, 3) := by decide +kernel
def k_translate_143 : List fwO := [(.aload_n 0, 0, 0, .null), (.getfield 73, 2, 13, .retAddr 140), (.sipush 256, 0, 0, .int 256), (.isub, 0, 0, .null)]
theorem k_translate_143_ok : fwChain m_translate.1.cls m_translate.2.1 143 k_translate_143 151 = true := by decide +kernel
theorem d_translate_151 : decode m_translate.2.1 151 = .ok (.goto 9, 3) := by decide +kernel
def k_translate_154 : List fwO := [(.iconst (-1), 0, 0, .int (-1)), (.aload_n 0, 0, 0, .null), (.getfield 60, 2, 11, .retAddr 138), (.isub, 0, 0, .null)]
theorem k_translate_154_ok : fwChain m_translate.1.cls m_translate.2.1 154 k_translate_154 160 = true := by decide +kernel
theorem d_translate_160 : decode m_translate.2.1 160 = .ok (.ireturn, 1) := by decide +kernel
/-- MonitorBoard.assemble()I -/
abbrev m_assemble : fwM := (⟨"MonitorBoard", "assemble", "()I"⟩, prog_1_method_15_code, 2, (some FieldType.int))
theorem m_assemble_in : Cond.code m_assemble.1 m_assemble.2.1 m_assemble.2.2.1 m_assemble.2.2.2 ∈ fwT := fwT_mem (List.mem_of_getElem? (i := 1696) (by decide +kernel)) rfl
def k_assemble_0 : List fwO := [(.aload_n 0, 0, 0, .null), (.getfield 66, 0, 8, .retAddr 159), (.aload_n 0, 0, 0, .null), (.getfield 83, 0, 10, .retAddr 161)]
theorem k_assemble_0_ok : fwChain m_assemble.1.cls m_assemble.2.1 0 k_assemble_0 8 = true := by decide +kernel
theorem d_assemble_8 : decode m_assemble.2.1 8 = .ok (.invokevirtual 167, 3) := by decide +kernel
def k_assemble_11 : List fwO := [(.istore_n 1, 0, 0, .null), (.aload_n 0, 0, 0, .null), (.iconst 0, 0, 0, .int 0), (.putfield 83, 0, 10, .retAddr 161), (.aload_n 0, 0, 0, .null), (.iload_n 1, 0, 0, .null), (.iconst 0, 0, 0, .int 0)]
theorem k_assemble_11_ok : fwChain m_assemble.1.cls m_assemble.2.1 11 k_assemble_11 20 = true := by decide +kernel
theorem d_assemble_20 : decode m_assemble.2.1 20 = .ok (.invokestatic 170, 3) := by decide +kernel
def k_assemble_23 : List fwO := [(.putfield 164, 0, 11, .retAddr 162), (.iload_n 1, 0, 0, .null)]
theorem k_assemble_23_ok : fwChain m_assemble.1.cls m_assemble.2.1 23 k_assemble_23 27 = true := by decide +kernel
theorem d_assemble_27 : decode m_assemble.2.1 27 = .ok (.ireturn, 1) := by decide +kernel
/-- MonitorBoard$Files.isSector(II)Z -/
abbrev m_isSector : fwM := (⟨"MonitorBoard$Files", "isSector", "(II)Z"⟩, prog_5_method_3_code, 2, (some FieldType.boolean))
theorem m_isSector_in : Cond.code m_isSector.1 m_isSector.2.1 m_isSector.2.2.1 m_isSector.2.2.2 ∈ fwT := fwT_mem (List.mem_of_getElem? (i := 1416) (by decide +kernel)) rfl
def k_isSector_0 : List fwO := [(.iload_n 0, 0, 0, .null)]
theorem k_isSector_0_ok : fwChain m_isSector.1.cls m_isSector.2.1 0 k_isSector_0 1 = true := by decide +kernel
theorem d_isSector_1 : decode m_isSector.2.1 1 = .ok (.ifCond .lt 24, 3) := by decide +kernel
def k_isSector_4 : List fwO := [(.iload_n 0, 0, 0, .null), (.bipush 77, 0, 0, .int 77)]
theorem k_isSector_4_ok : fwChain m_isSector.1.cls m_isSector.2.1 4 k_isSector_4 7 = true := by decide +kernel
theorem d_isSector_7 : decode m_isSector.2.1 7 = .ok (.if_icmp .ge 18, 3) := by decide +kernel
def k_isSector_10 : List fwO := [(.iload_n 1, 0, 0, .null), (.iconst 1, 0, 0, .int 1)]
theorem k_isSector_10_ok : fwChain m_isSector.1.cls m_isSector.2.1 10 k_isSector_10 12 = true := by decide +kernel
theorem d_isSector_12 : decode m_isSector.2.1 12 = .ok (.if_icmp .lt 13, 3) := by decide +kernel
def k_isSector_15 : List fwO := [(.iload_n 1, 0, 0, .null), (.bipush 26, 0, 0, .int 26)]
theorem k_isSector_15_ok : fwChain m_isSector.1.cls m_isSector.2.1 15 k_isSector_15 18 = true := by decide +kernel
theorem d_isSector_18 : decode m_isSector.2.1 18 = .ok (.if_icmp .gt 7, 3) := by decide +kernel
def k_isSector_21 : List fwO := [(.iconst 1, 0, 0, .int 1)]
theorem k_isSector_21_ok : fwChain m_isSector.1.cls m_isSector.2.1 21 k_isSector_21 22 = true := by decide +kernel
theorem d_isSector_22 : decode m_isSector.2.1 22 = .ok (.goto 4, 3) := by decide +kernel
def k_isSector_25 : List fwO := [(.iconst 0, 0, 0, .int 0)]
theorem k_isSector_25_ok : fwChain m_isSector.1.cls m_isSector.2.1 25 k_isSector_25 26 = true := by decide +kernel
theorem d_isSector_26 : decode m_isSector.2.1 26 = .ok (.ireturn, 1) := by decide +kernel
/-- MonitorBoard.disk(IIIII)I -/
abbrev m_disk : fwM := (⟨"MonitorBoard", "disk", "(IIIII)I"⟩, prog_1_method_17_code, 7, (some FieldType.int))
theorem m_disk_in : Cond.code m_disk.1 m_disk.2.1 m_disk.2.2.1 m_disk.2.2.2 ∈ fwT := fwT_mem (List.mem_of_getElem? (i := 1848) (by decide +kernel)) rfl
def k_disk_0 : List fwO := [(.iload_n 1, 0, 0, .null)]
theorem k_disk_0_ok : fwChain m_disk.1.cls m_disk.2.1 0 k_disk_0 1 = true := by decide +kernel
theorem d_disk_1 : decode m_disk.2.1 1 = .ok (.ifCond .lt 29, 3) := by decide +kernel
def k_disk_4 : List fwO := [(.iload_n 1, 0, 0, .null), (.iconst 1, 0, 0, .int 1)]
theorem k_disk_4_ok : fwChain m_disk.1.cls m_disk.2.1 4 k_disk_4 6 = true := by decide +kernel
theorem d_disk_6 : decode m_disk.2.1 6 = .ok (.if_icmp .gt 24, 3) := by decide +kernel
def k_disk_9 : List fwO := [(.iload 4, 0, 0, .null)]
theorem k_disk_9_ok : fwChain m_disk.1.cls m_disk.2.1 9 k_disk_9 11 = true := by decide +kernel
theorem d_disk_11 : decode m_disk.2.1 11 = .ok (.ifCond .lt 19, 3) := by decide +kernel
def k_disk_14 : List fwO := [(.iload 4, 0, 0, .null), (.sipush 128, 0, 0, .int 128)]
theorem k_disk_14_ok : fwChain m_disk.1.cls m_disk.2.1 14 k_disk_14 19 = true := by decide +kernel
theorem d_disk_19 : decode m_disk.2.1 19 = .ok (.if_icmp .ge 11, 3) := by decide +kernel
def k_disk_22 : List fwO := [(.iload_n 2, 0, 0, .null), (.iload_n 3, 0, 0, .null)]
theorem k_disk_22_ok : fwChain m_disk.1.cls m_disk.2.1 22 k_disk_22 24 = true := by decide +kernel
theorem d_disk_24 : decode m_disk.2.1 24 = .ok (.invokestatic 185, 3) := by decide +kernel
theorem d_disk_27 : decode m_disk.2.1 27 = .ok (.ifCond .ne 5, 3) := by decide +kernel
def k_disk_30 : List fwO := [(.iconst (-1), 0, 0, .int (-1))]
theorem k_disk_30_ok : fwChain m_disk.1.cls m_disk.2.1 30 k_disk_30 31 = true := by decide +kernel
theorem d_disk_31 : decode m_disk.2.1 31 = .ok (.ireturn, 1) := by decide +kernel
def k_disk_32 : List fwO := [(.iload_n 1, 0, 0, .null), (.iload_n 2, 0, 0, .null), (.iload_n 3, 0, 0, .null)]
theorem k_disk_32_ok : fwChain m_disk.1.cls m_disk.2.1 32 k_disk_32 35 = true := by decide +kernel
theorem d_disk_35 : decode m_disk.2.1 35 = .ok (.invokestatic 189, 3) := by decide +kernel
def k_disk_38 : List fwO := [(.iload 4, 0, 0, .null), (.iadd, 0, 0, .null), (.istore 6, 0, 0, .null), (.aload_n 0, 0, 0, .null), (.getfield 39, 0, 5, .retAddr 156), (.getfield 193, 4, 0, .retAddr 46), (.iload 6, 0, 0, .null), (.aload_n 0, 0, 0, .null), (.getfield 39, 0, 5, .retAddr 156), (.getfield 193, 4, 0, .retAddr 46), (.iload 6, 0, 0, .null), (.baload, 0, 0, .null), (.iload 5, 0, 0, .null), (.ixor, 0, 0, .null), (.i2b, 0, 0, .null), (.bastore, 0, 0, .null), (.aload_n 0, 0, 0, .null), (.getfield 39, 0, 5, .retAddr 156), (.getfield 193, 4, 0, .retAddr 46), (.iload 6, 0, 0, .null), (.baload, 0, 0, .null), (.sipush 255, 0, 0, .int 255), (.iand, 0, 0, .null)]
theorem k_disk_38_ok : fwChain m_disk.1.cls m_disk.2.1 38 k_disk_38 81 = true := by decide +kernel
theorem d_disk_81 : decode m_disk.2.1 81 = .ok (.ireturn, 1) := by decide +kernel
theorem c_feed_17 : ∀ w ∈ ([(Cond.methodLink "MonitorBoard" (87 : Nat) ({ cls := "MonitorBoard", name := "feedNumber", desc := "(I)V" } : MethodName)), (Cond.instanceMethod ({ cls := "MonitorBoard", name := "feedNumber", desc := "(I)V" } : MethodName)), (Cond.selects "MonitorBoard" ({ cls := "MonitorBoard", name := "feedNumber", desc := "(I)V" } : MethodName) ({ cls := "MonitorBoard", name := "feedNumber", desc := "(I)V" } : MethodName)), (Cond.initialized "MonitorBoard")] : List Cond), w ∈ fwT := fwT_all [916, 918, 1, 282] (by decide +kernel) (by decide +kernel)
theorem c_feed_22 : ∀ w ∈ ([(Cond.methodLink "MonitorBoard" (87 : Nat) ({ cls := "MonitorBoard", name := "feedNumber", desc := "(I)V" } : MethodName)), (Cond.instanceMethod ({ cls := "MonitorBoard", name := "feedNumber", desc := "(I)V" } : MethodName)), (Cond.selects "MonitorBoard" ({ cls := "MonitorBoard", name := "feedNumber", desc := "(I)V" } : MethodName) ({ cls := "MonitorBoard", name := "feedNumber", desc := "(I)V" } : MethodName)), (Cond.initialized "MonitorBoard")] : List Cond), w ∈ fwT := c_feed_17
theorem c_feed_27 : ∀ w ∈ ([(Cond.methodLink "MonitorBoard" (87 : Nat) ({ cls := "MonitorBoard", name := "feedNumber", desc := "(I)V" } : MethodName)), (Cond.instanceMethod ({ cls := "MonitorBoard", name := "feedNumber", desc := "(I)V" } : MethodName)), (Cond.selects "MonitorBoard" ({ cls := "MonitorBoard", name := "feedNumber", desc := "(I)V" } : MethodName) ({ cls := "MonitorBoard", name := "feedNumber", desc := "(I)V" } : MethodName)), (Cond.initialized "MonitorBoard")] : List Cond), w ∈ fwT := c_feed_17
theorem c_feed_33 : ∀ w ∈ ([(Cond.methodLink "MonitorBoard" (87 : Nat) ({ cls := "MonitorBoard", name := "feedNumber", desc := "(I)V" } : MethodName)), (Cond.instanceMethod ({ cls := "MonitorBoard", name := "feedNumber", desc := "(I)V" } : MethodName)), (Cond.selects "MonitorBoard" ({ cls := "MonitorBoard", name := "feedNumber", desc := "(I)V" } : MethodName) ({ cls := "MonitorBoard", name := "feedNumber", desc := "(I)V" } : MethodName)), (Cond.initialized "MonitorBoard")] : List Cond), w ∈ fwT := c_feed_17
theorem c_feed_39 : ∀ w ∈ ([(Cond.methodLink "MonitorBoard" (87 : Nat) ({ cls := "MonitorBoard", name := "feedNumber", desc := "(I)V" } : MethodName)), (Cond.instanceMethod ({ cls := "MonitorBoard", name := "feedNumber", desc := "(I)V" } : MethodName)), (Cond.selects "MonitorBoard" ({ cls := "MonitorBoard", name := "feedNumber", desc := "(I)V" } : MethodName) ({ cls := "MonitorBoard", name := "feedNumber", desc := "(I)V" } : MethodName)), (Cond.initialized "MonitorBoard")] : List Cond), w ∈ fwT := c_feed_17
theorem c_keys_32 : ∀ w ∈ ([(Cond.methodLink "MonitorBoard" (94 : Nat) ({ cls := "MonitorBoard$Console", name := "addKeys", desc := "([BI)V" } : MethodName)), (Cond.instanceMethod ({ cls := "MonitorBoard$Console", name := "addKeys", desc := "([BI)V" } : MethodName)), (Cond.selects "MonitorBoard$Console" ({ cls := "MonitorBoard$Console", name := "addKeys", desc := "([BI)V" } : MethodName) ({ cls := "MonitorBoard$Console", name := "addKeys", desc := "([BI)V" } : MethodName)), (Cond.initialized "MonitorBoard$Console")] : List Cond), w ∈ fwT := fwT_all [928, 929, 930, 283] (by decide +kernel) (by decide +kernel)
theorem c_boot_4 : ∀ w ∈ ([(Cond.methodLink "MonitorBoard" (80 : Nat) ({ cls := "MonitorBoard$Monitor", name := "bootCold", desc := "()V" } : MethodName)), (Cond.instanceMethod ({ cls := "MonitorBoard$Monitor", name := "bootCold", desc := "()V" } : MethodName)), (Cond.selects "MonitorBoard$Monitor" ({ cls := "MonitorBoard$Monitor", name := "bootCold", desc := "()V" } : MethodName) ({ cls := "MonitorBoard$Monitor", name := "bootCold", desc := "()V" } : MethodName)), (Cond.initialized "MonitorBoard$Monitor")] : List Cond), w ∈ fwT := fwT_all [804, 805, 806, 287] (by decide +kernel) (by decide +kernel)
theorem c_readLine_17 : ∀ w ∈ ([(Cond.methodLink "MonitorBoard$Console" (67 : Nat) ({ cls := "MonitorBoard$Console", name := "takeKey", desc := "()I" } : MethodName)), (Cond.instanceMethod ({ cls := "MonitorBoard$Console", name := "takeKey", desc := "()I" } : MethodName)), (Cond.selects "MonitorBoard$Console" ({ cls := "MonitorBoard$Console", name := "takeKey", desc := "()I" } : MethodName) ({ cls := "MonitorBoard$Console", name := "takeKey", desc := "()I" } : MethodName)), (Cond.initialized "MonitorBoard$Console")] : List Cond), w ∈ fwT := fwT_all [950, 951, 952, 283] (by decide +kernel) (by decide +kernel)
theorem c_readLine_37 : ∀ w ∈ ([(Cond.methodLink "MonitorBoard$Console" (70 : Nat) ({ cls := "MonitorBoard$Console", name := "endLine", desc := "()I" } : MethodName)), (Cond.instanceMethod ({ cls := "MonitorBoard$Console", name := "endLine", desc := "()I" } : MethodName)), (Cond.selects "MonitorBoard$Console" ({ cls := "MonitorBoard$Console", name := "endLine", desc := "()I" } : MethodName) ({ cls := "MonitorBoard$Console", name := "endLine", desc := "()I" } : MethodName)), (Cond.initialized "MonitorBoard$Console")] : List Cond), w ∈ fwT := fwT_all [954, 956, 2, 283] (by decide +kernel) (by decide +kernel)
theorem c_readLine_54 : ∀ w ∈ ([(Cond.methodLink "MonitorBoard$Console" (73 : Nat) ({ cls := "MonitorBoard$Console", name := "takeBack", desc := "()V" } : MethodName)), (Cond.instanceMethod ({ cls := "MonitorBoard$Console", name := "takeBack", desc := "()V" } : MethodName)), (Cond.selects "MonitorBoard$Console" ({ cls := "MonitorBoard$Console", name := "takeBack", desc := "()V" } : MethodName) ({ cls := "MonitorBoard$Console", name := "takeBack", desc := "()V" } : MethodName)), (Cond.initialized "MonitorBoard$Console")] : List Cond), w ∈ fwT := fwT_all [958, 960, 3, 283] (by decide +kernel) (by decide +kernel)
theorem c_readLine_81 : ∀ w ∈ ([(Cond.methodLink "MonitorBoard$Console" (76 : Nat) ({ cls := "MonitorBoard$Console", name := "takeSign", desc := "(I)V" } : MethodName)), (Cond.instanceMethod ({ cls := "MonitorBoard$Console", name := "takeSign", desc := "(I)V" } : MethodName)), (Cond.selects "MonitorBoard$Console" ({ cls := "MonitorBoard$Console", name := "takeSign", desc := "(I)V" } : MethodName) ({ cls := "MonitorBoard$Console", name := "takeSign", desc := "(I)V" } : MethodName)), (Cond.initialized "MonitorBoard$Console")] : List Cond), w ∈ fwT := fwT_all [962, 964, 4, 283] (by decide +kernel) (by decide +kernel)
theorem c_readLine_96 : ∀ w ∈ ([(Cond.methodLink "MonitorBoard$Console" (70 : Nat) ({ cls := "MonitorBoard$Console", name := "endLine", desc := "()I" } : MethodName)), (Cond.instanceMethod ({ cls := "MonitorBoard$Console", name := "endLine", desc := "()I" } : MethodName)), (Cond.selects "MonitorBoard$Console" ({ cls := "MonitorBoard$Console", name := "endLine", desc := "()I" } : MethodName) ({ cls := "MonitorBoard$Console", name := "endLine", desc := "()I" } : MethodName)), (Cond.initialized "MonitorBoard$Console")] : List Cond), w ∈ fwT := c_readLine_37
theorem c_goOn_4 : ∀ w ∈ ([(Cond.methodLink "MonitorBoard$Shell" (74 : Nat) ({ cls := "MonitorBoard$Console", name := "readLine", desc := "()I" } : MethodName)), (Cond.instanceMethod ({ cls := "MonitorBoard$Console", name := "readLine", desc := "()I" } : MethodName)), (Cond.selects "MonitorBoard$Console" ({ cls := "MonitorBoard$Console", name := "readLine", desc := "()I" } : MethodName) ({ cls := "MonitorBoard$Console", name := "readLine", desc := "()I" } : MethodName)), (Cond.initialized "MonitorBoard$Console")] : List Cond), w ∈ fwT := fwT_all [946, 947, 948, 283] (by decide +kernel) (by decide +kernel)
theorem c_goOn_23 : ∀ w ∈ ([(Cond.methodLink "MonitorBoard$Shell" (80 : Nat) ({ cls := "MonitorBoard$Monitor", name := "bootWarm", desc := "()V" } : MethodName)), (Cond.instanceMethod ({ cls := "MonitorBoard$Monitor", name := "bootWarm", desc := "()V" } : MethodName)), (Cond.selects "MonitorBoard$Monitor" ({ cls := "MonitorBoard$Monitor", name := "bootWarm", desc := "()V" } : MethodName) ({ cls := "MonitorBoard$Monitor", name := "bootWarm", desc := "()V" } : MethodName)), (Cond.initialized "MonitorBoard$Monitor")] : List Cond), w ∈ fwT := fwT_all [966, 828, 829, 287] (by decide +kernel) (by decide +kernel)
theorem c_goOn_29 : ∀ w ∈ ([(Cond.methodLink "MonitorBoard$Shell" (83 : Nat) ({ cls := "MonitorBoard$Shell", name := "takeLine", desc := "()V" } : MethodName)), (Cond.instanceMethod ({ cls := "MonitorBoard$Shell", name := "takeLine", desc := "()V" } : MethodName)), (Cond.selects "MonitorBoard$Shell" ({ cls := "MonitorBoard$Shell", name := "takeLine", desc := "()V" } : MethodName) ({ cls := "MonitorBoard$Shell", name := "takeLine", desc := "()V" } : MethodName)), (Cond.initialized "MonitorBoard$Shell")] : List Cond), w ∈ fwT := fwT_all [967, 969, 5, 288] (by decide +kernel) (by decide +kernel)
theorem c_goOn_33 : ∀ w ∈ ([(Cond.methodLink "MonitorBoard$Shell" (86 : Nat) ({ cls := "MonitorBoard$Shell", name := "command", desc := "()I" } : MethodName)), (Cond.instanceMethod ({ cls := "MonitorBoard$Shell", name := "command", desc := "()I" } : MethodName)), (Cond.selects "MonitorBoard$Shell" ({ cls := "MonitorBoard$Shell", name := "command", desc := "()I" } : MethodName) ({ cls := "MonitorBoard$Shell", name := "command", desc := "()I" } : MethodName)), (Cond.initialized "MonitorBoard$Shell")] : List Cond), w ∈ fwT := fwT_all [981, 983, 8, 288] (by decide +kernel) (by decide +kernel)
theorem c_goOn_93 : ∀ w ∈ ([(Cond.methodLink "MonitorBoard$Shell" (89 : Nat) ({ cls := "MonitorBoard$Shell", name := "tellDirectory", desc := "()I" } : MethodName)), (Cond.instanceMethod ({ cls := "MonitorBoard$Shell", name := "tellDirectory", desc := "()I" } : MethodName)), (Cond.selects "MonitorBoard$Shell" ({ cls := "MonitorBoard$Shell", name := "tellDirectory", desc := "()I" } : MethodName) ({ cls := "MonitorBoard$Shell", name := "tellDirectory", desc := "()I" } : MethodName)), (Cond.initialized "MonitorBoard$Shell")] : List Cond), w ∈ fwT := fwT_all [989, 991, 9, 288] (by decide +kernel) (by decide +kernel)
theorem c_goOn_101 : ∀ w ∈ ([(Cond.methodLink "MonitorBoard$Shell" (92 : Nat) ({ cls := "MonitorBoard$Shell", name := "erase", desc := "()I" } : MethodName)), (Cond.instanceMethod ({ cls := "MonitorBoard$Shell", name := "erase", desc := "()I" } : MethodName)), (Cond.selects "MonitorBoard$Shell" ({ cls := "MonitorBoard$Shell", name := "erase", desc := "()I" } : MethodName) ({ cls := "MonitorBoard$Shell", name := "erase", desc := "()I" } : MethodName)), (Cond.initialized "MonitorBoard$Shell")] : List Cond), w ∈ fwT := fwT_all [1100, 1102, 16, 288] (by decide +kernel) (by decide +kernel)
theorem c_goOn_109 : ∀ w ∈ ([(Cond.methodLink "MonitorBoard$Shell" (95 : Nat) ({ cls := "MonitorBoard$Shell", name := "rename", desc := "()I" } : MethodName)), (Cond.instanceMethod ({ cls := "MonitorBoard$Shell", name := "rename", desc := "()I" } : MethodName)), (Cond.selects "MonitorBoard$Shell" ({ cls := "MonitorBoard$Shell", name := "rename", desc := "()I" } : MethodName) ({ cls := "MonitorBoard$Shell", name := "rename", desc := "()I" } : MethodName)), (Cond.initialized "MonitorBoard$Shell")] : List Cond), w ∈ fwT := fwT_all [1190, 1192, 32, 288] (by decide +kernel) (by decide +kernel)
theorem c_goOn_117 : ∀ w ∈ ([(Cond.methodLink "MonitorBoard$Shell" (98 : Nat) ({ cls := "MonitorBoard$Shell", name := "type", desc := "()I" } : MethodName)), (Cond.instanceMethod ({ cls := "MonitorBoard$Shell", name := "type", desc := "()I" } : MethodName)), (Cond.selects "MonitorBoard$Shell" ({ cls := "MonitorBoard$Shell", name := "type", desc := "()I" } : MethodName) ({ cls := "MonitorBoard$Shell", name := "type", desc := "()I" } : MethodName)), (Cond.initialized "MonitorBoard$Shell")] : List Cond), w ∈ fwT := fwT_all [1201, 1203, 34, 288] (by decide +kernel) (by decide +kernel)
theorem c_goOn_125 : ∀ w ∈ ([(Cond.methodLink "MonitorBoard$Shell" (101 : Nat) ({ cls := "MonitorBoard$Shell", name := "save", desc := "()I" } : MethodName)), (Cond.instanceMethod ({ cls := "MonitorBoard$Shell", name := "save", desc := "()I" } : MethodName)), (Cond.selects "MonitorBoard$Shell" ({ cls := "MonitorBoard$Shell", name := "save", desc := "()I" } : MethodName) ({ cls := "MonitorBoard$Shell", name := "save", desc := "()I" } : MethodName)), (Cond.initialized "MonitorBoard$Shell")] : List Cond), w ∈ fwT := fwT_all [1228, 1230, 37, 288] (by decide +kernel) (by decide +kernel)
theorem c_goOn_133 : ∀ w ∈ ([(Cond.methodLink "MonitorBoard$Shell" (104 : Nat) ({ cls := "MonitorBoard$Shell", name := "chooseUser", desc := "()I" } : MethodName)), (Cond.instanceMethod ({ cls := "MonitorBoard$Shell", name := "chooseUser", desc := "()I" } : MethodName)), (Cond.selects "MonitorBoard$Shell" ({ cls := "MonitorBoard$Shell", name := "chooseUser", desc := "()I" } : MethodName) ({ cls := "MonitorBoard$Shell", name := "chooseUser", desc := "()I" } : MethodName)), (Cond.initialized "MonitorBoard$Shell")] : List Cond), w ∈ fwT := fwT_all [1256, 1258, 40, 288] (by decide +kernel) (by decide +kernel)
theorem c_goOn_141 : ∀ w ∈ ([(Cond.methodLink "MonitorBoard$Shell" (107 : Nat) ({ cls := "MonitorBoard$Shell", name := "dump", desc := "()I" } : MethodName)), (Cond.instanceMethod ({ cls := "MonitorBoard$Shell", name := "dump", desc := "()I" } : MethodName)), (Cond.selects "MonitorBoard$Shell" ({ cls := "MonitorBoard$Shell", name := "dump", desc := "()I" } : MethodName) ({ cls := "MonitorBoard$Shell", name := "dump", desc := "()I" } : MethodName)), (Cond.initialized "MonitorBoard$Shell")] : List Cond), w ∈ fwT := fwT_all [1260, 1262, 41, 288] (by decide +kernel) (by decide +kernel)
theorem c_goOn_149 : ∀ w ∈ ([(Cond.methodLink "MonitorBoard$Shell" (110 : Nat) ({ cls := "MonitorBoard$Shell", name := "tellStatus", desc := "()I" } : MethodName)), (Cond.instanceMethod ({ cls := "MonitorBoard$Shell", name := "tellStatus", desc := "()I" } : MethodName)), (Cond.selects "MonitorBoard$Shell" ({ cls := "MonitorBoard$Shell", name := "tellStatus", desc := "()I" } : MethodName) ({ cls := "MonitorBoard$Shell", name := "tellStatus", desc := "()I" } : MethodName)), (Cond.initialized "MonitorBoard$Shell")] : List Cond), w ∈ fwT := fwT_all [1269, 1271, 42, 288] (by decide +kernel) (by decide +kernel)
theorem c_goOn_157 : ∀ w ∈ ([(Cond.methodLink "MonitorBoard$Shell" (113 : Nat) ({ cls := "MonitorBoard$Shell", name := "copy", desc := "()I" } : MethodName)), (Cond.instanceMethod ({ cls := "MonitorBoard$Shell", name := "copy", desc := "()I" } : MethodName)), (Cond.selects "MonitorBoard$Shell" ({ cls := "MonitorBoard$Shell", name := "copy", desc := "()I" } : MethodName) ({ cls := "MonitorBoard$Shell", name := "copy", desc := "()I" } : MethodName)), (Cond.initialized "MonitorBoard$Shell")] : List Cond), w ∈ fwT := fwT_all [1287, 1289, 45, 288] (by decide +kernel) (by decide +kernel)
theorem c_goOn_165 : ∀ w ∈ ([(Cond.methodLink "MonitorBoard$Shell" (116 : Nat) ({ cls := "MonitorBoard$Shell", name := "loadHex", desc := "()I" } : MethodName)), (Cond.instanceMethod ({ cls := "MonitorBoard$Shell", name := "loadHex", desc := "()I" } : MethodName)), (Cond.selects "MonitorBoard$Shell" ({ cls := "MonitorBoard$Shell", name := "loadHex", desc := "()I" } : MethodName) ({ cls := "MonitorBoard$Shell", name := "loadHex", desc := "()I" } : MethodName)), (Cond.initialized "MonitorBoard$Shell")] : List Cond), w ∈ fwT := fwT_all [1291, 1293, 46, 288] (by decide +kernel) (by decide +kernel)
theorem c_goOn_188 : ∀ w ∈ ([(Cond.methodLink "MonitorBoard$Shell" (126 : Nat) ({ cls := "MonitorBoard$Shell", name := "chooseDriveOrProgram", desc := "()I" } : MethodName)), (Cond.instanceMethod ({ cls := "MonitorBoard$Shell", name := "chooseDriveOrProgram", desc := "()I" } : MethodName)), (Cond.selects "MonitorBoard$Shell" ({ cls := "MonitorBoard$Shell", name := "chooseDriveOrProgram", desc := "()I" } : MethodName) ({ cls := "MonitorBoard$Shell", name := "chooseDriveOrProgram", desc := "()I" } : MethodName)), (Cond.initialized "MonitorBoard$Shell")] : List Cond), w ∈ fwT := fwT_all [1340, 1342, 51, 288] (by decide +kernel) (by decide +kernel)
theorem c_goOn_194 : ∀ w ∈ ([(Cond.methodLink "MonitorBoard$Shell" (129 : Nat) ({ cls := "MonitorBoard$Shell", name := "finish", desc := "(I)V" } : MethodName)), (Cond.instanceMethod ({ cls := "MonitorBoard$Shell", name := "finish", desc := "(I)V" } : MethodName)), (Cond.selects "MonitorBoard$Shell" ({ cls := "MonitorBoard$Shell", name := "finish", desc := "(I)V" } : MethodName) ({ cls := "MonitorBoard$Shell", name := "finish", desc := "(I)V" } : MethodName)), (Cond.initialized "MonitorBoard$Shell")] : List Cond), w ∈ fwT := fwT_all [1356, 1358, 54, 288] (by decide +kernel) (by decide +kernel)
theorem c_run_88 : ∀ w ∈ ([(Cond.methodLink "MonitorBoard" (111 : Nat) ({ cls := "MonitorBoard$Shell", name := "goOn", desc := "()Z" } : MethodName)), (Cond.instanceMethod ({ cls := "MonitorBoard$Shell", name := "goOn", desc := "()Z" } : MethodName)), (Cond.selects "MonitorBoard$Shell" ({ cls := "MonitorBoard$Shell", name := "goOn", desc := "()Z" } : MethodName) ({ cls := "MonitorBoard$Shell", name := "goOn", desc := "()Z" } : MethodName)), (Cond.initialized "MonitorBoard$Shell")] : List Cond), w ∈ fwT := fwT_all [942, 943, 944, 288] (by decide +kernel) (by decide +kernel)
theorem c_run_103 : ∀ w ∈ ([(Cond.methodLink "MonitorBoard" (118 : Nat) ({ cls := "MonitorBoard$Monitor", name := "isEntry", desc := "(I)Z" } : MethodName)), (Cond.static ({ cls := "MonitorBoard$Monitor", name := "isEntry", desc := "(I)Z" } : MethodName)), (Cond.initialized "MonitorBoard$Monitor")] : List Cond), w ∈ fwT := fwT_all [1375, 1376, 287] (by decide +kernel) (by decide +kernel)
theorem c_run_113 : ∀ w ∈ ([(Cond.methodLink "MonitorBoard" (122 : Nat) ({ cls := "MonitorBoard$Monitor", name := "serve", desc := "()Z" } : MethodName)), (Cond.instanceMethod ({ cls := "MonitorBoard$Monitor", name := "serve", desc := "()Z" } : MethodName)), (Cond.selects "MonitorBoard$Monitor" ({ cls := "MonitorBoard$Monitor", name := "serve", desc := "()Z" } : MethodName) ({ cls := "MonitorBoard$Monitor", name := "serve", desc := "()Z" } : MethodName)), (Cond.initialized "MonitorBoard$Monitor")] : List Cond), w ∈ fwT := fwT_all [1380, 1381, 1382, 287] (by decide +kernel) (by decide +kernel)
theorem c_run_125 : ∀ w ∈ ([(Cond.methodLink "MonitorBoard" (125 : Nat) ({ cls := "MonitorBoard$Processor", name := "step", desc := "()V" } : MethodName)), (Cond.instanceMethod ({ cls := "MonitorBoard$Processor", name := "step", desc := "()V" } : MethodName)), (Cond.selects "MonitorBoard$Processor" ({ cls := "MonitorBoard$Processor", name := "step", desc := "()V" } : MethodName) ({ cls := "MonitorBoard$Processor", name := "step", desc := "()V" } : MethodName)), (Cond.initialized "MonitorBoard$Processor")] : List Cond), w ∈ fwT := fwT_all [1501, 1502, 1503, 284] (by decide +kernel) (by decide +kernel)
theorem c_memory_17 : ∀ w ∈ ([(Cond.methodLink "MonitorBoard" (148 : Nat) ({ cls := "MonitorBoard$Processor", name := "peek", desc := "(I)I" } : MethodName)), (Cond.instanceMethod ({ cls := "MonitorBoard$Processor", name := "peek", desc := "(I)I" } : MethodName)), (Cond.selects "MonitorBoard$Processor" ({ cls := "MonitorBoard$Processor", name := "peek", desc := "(I)I" } : MethodName) ({ cls := "MonitorBoard$Processor", name := "peek", desc := "(I)I" } : MethodName)), (Cond.initialized "MonitorBoard$Processor")] : List Cond), w ∈ fwT := fwT_all [1670, 1423, 1424, 284] (by decide +kernel) (by decide +kernel)
theorem c_load_23 : ∀ w ∈ ([(Cond.methodLink "MonitorBoard" (152 : Nat) ({ cls := "MonitorBoard$Processor", name := "poke", desc := "(II)V" } : MethodName)), (Cond.instanceMethod ({ cls := "MonitorBoard$Processor", name := "poke", desc := "(II)V" } : MethodName)), (Cond.selects "MonitorBoard$Processor" ({ cls := "MonitorBoard$Processor", name := "poke", desc := "(II)V" } : MethodName) ({ cls := "MonitorBoard$Processor", name := "poke", desc := "(II)V" } : MethodName)), (Cond.initialized "MonitorBoard$Processor")] : List Cond), w ∈ fwT := fwT_all [1675, 832, 833, 284] (by decide +kernel) (by decide +kernel)
theorem c_takeTold_6 : ∀ w ∈ ([(Cond.methodLink "MonitorBoard$Console" (45 : Nat) ({ cls := "java/lang/Math", name := "min", desc := "(II)I" } : MethodName)), (Cond.static ({ cls := "java/lang/Math", name := "min", desc := "(II)I" } : MethodName)), (Cond.initialized "java/lang/Math")] : List Cond), w ∈ fwT := fwT_all [872, 873, 297] (by decide +kernel) (by decide +kernel)
theorem c_console_9 : ∀ w ∈ ([(Cond.methodLink "MonitorBoard" (160 : Nat) ({ cls := "MonitorBoard$Console", name := "takeTold", desc := "([B)I" } : MethodName)), (Cond.instanceMethod ({ cls := "MonitorBoard$Console", name := "takeTold", desc := "([B)I" } : MethodName)), (Cond.selects "MonitorBoard$Console" ({ cls := "MonitorBoard$Console", name := "takeTold", desc := "([B)I" } : MethodName) ({ cls := "MonitorBoard$Console", name := "takeTold", desc := "([B)I" } : MethodName)), (Cond.initialized "MonitorBoard$Console")] : List Cond), w ∈ fwT := fwT_all [1685, 1686, 1687, 283] (by decide +kernel) (by decide +kernel)
theorem c_translate_7 : ∀ w ∈ ([(Cond.methodLink "MonitorBoard$Assembler" (47 : Nat) ({ cls := "java/lang/Math", name := "min", desc := "(II)I" } : MethodName)), (Cond.static ({ cls := "java/lang/Math", name := "min", desc := "(II)I" } : MethodName)), (Cond.initialized "java/lang/Math")] : List Cond), w ∈ fwT := fwT_all [1701, 873, 297] (by decide +kernel) (by decide +kernel)
theorem c_translate_112 : ∀ w ∈ ([(Cond.methodLink "MonitorBoard$Assembler" (79 : Nat) ({ cls := "MonitorBoard$Assembler", name := "readLabel", desc := "()V" } : MethodName)), (Cond.instanceMethod ({ cls := "MonitorBoard$Assembler", name := "readLabel", desc := "()V" } : MethodName)), (Cond.selects "MonitorBoard$Assembler" ({ cls := "MonitorBoard$Assembler", name := "readLabel", desc := "()V" } : MethodName) ({ cls := "MonitorBoard$Assembler", name := "readLabel", desc := "()V" } : MethodName)), (Cond.initialized "MonitorBoard$Assembler")] : List Cond), w ∈ fwT := fwT_all [1702, 1704, 104, 295] (by decide +kernel) (by decide +kernel)
theorem c_translate_116 : ∀ w ∈ ([(Cond.methodLink "MonitorBoard$Assembler" (82 : Nat) ({ cls := "MonitorBoard$Assembler", name := "readOperation", desc := "()V" } : MethodName)), (Cond.instanceMethod ({ cls := "MonitorBoard$Assembler", name := "readOperation", desc := "()V" } : MethodName)), (Cond.selects "MonitorBoard$Assembler" ({ cls := "MonitorBoard$Assembler", name := "readOperation", desc := "()V" } : MethodName) ({ cls := "MonitorBoard$Assembler", name := "readOperation", desc := "()V" } : MethodName)), (Cond.initialized "MonitorBoard$Assembler")] : List Cond), w ∈ fwT := fwT_all [1724, 1726, 109, 295] (by decide +kernel) (by decide +kernel)
theorem c_translate_120 : ∀ w ∈ ([(Cond.methodLink "MonitorBoard$Assembler" (85 : Nat) ({ cls := "MonitorBoard$Assembler", name := "finishLine", desc := "()V" } : MethodName)), (Cond.instanceMethod ({ cls := "MonitorBoard$Assembler", name := "finishLine", desc := "()V" } : MethodName)), (Cond.selects "MonitorBoard$Assembler" ({ cls := "MonitorBoard$Assembler", name := "finishLine", desc := "()V" } : MethodName) ({ cls := "MonitorBoard$Assembler", name := "finishLine", desc := "()V" } : MethodName)), (Cond.initialized "MonitorBoard$Assembler")] : List Cond), w ∈ fwT := fwT_all [1834, 1836, 131, 295] (by decide +kernel) (by decide +kernel)
theorem c_assemble_8 : ∀ w ∈ ([(Cond.methodLink "MonitorBoard" (167 : Nat) ({ cls := "MonitorBoard$Assembler", name := "translate", desc := "(I)I" } : MethodName)), (Cond.instanceMethod ({ cls := "MonitorBoard$Assembler", name := "translate", desc := "(I)I" } : MethodName)), (Cond.selects "MonitorBoard$Assembler" ({ cls := "MonitorBoard$Assembler", name := "translate", desc := "(I)I" } : MethodName) ({ cls := "MonitorBoard$Assembler", name := "translate", desc := "(I)I" } : MethodName)), (Cond.initialized "MonitorBoard$Assembler")] : List Cond), w ∈ fwT := fwT_all [1697, 1698, 1699, 295] (by decide +kernel) (by decide +kernel)
theorem c_assemble_20 : ∀ w ∈ ([(Cond.methodLink "MonitorBoard" (170 : Nat) ({ cls := "java/lang/Math", name := "max", desc := "(II)I" } : MethodName)), (Cond.static ({ cls := "java/lang/Math", name := "max", desc := "(II)I" } : MethodName)), (Cond.initialized "java/lang/Math")] : List Cond), w ∈ fwT := fwT_all [1838, 1029, 297] (by decide +kernel) (by decide +kernel)
theorem c_disk_24 : ∀ w ∈ ([(Cond.methodLink "MonitorBoard" (185 : Nat) ({ cls := "MonitorBoard$Files", name := "isSector", desc := "(II)Z" } : MethodName)), (Cond.static ({ cls := "MonitorBoard$Files", name := "isSector", desc := "(II)Z" } : MethodName)), (Cond.initialized "MonitorBoard$Files")] : List Cond), w ∈ fwT := fwT_all [1849, 1415, 285] (by decide +kernel) (by decide +kernel)
theorem c_disk_35 : ∀ w ∈ ([(Cond.methodLink "MonitorBoard" (189 : Nat) ({ cls := "MonitorBoard$Files", name := "sectorPlace", desc := "(III)I" } : MethodName)), (Cond.static ({ cls := "MonitorBoard$Files", name := "sectorPlace", desc := "(III)I" } : MethodName)), (Cond.initialized "MonitorBoard$Files")] : List Cond), w ∈ fwT := fwT_all [1850, 421, 285] (by decide +kernel) (by decide +kernel)
