/-! texts and tables, by program (wip/whole/consts.py) -/
def fwNs : Nat := 51
def fwSl : List Nat := [49, 327, 3, 0, 10, 2, 3, 16, 3, 3, 12, 8, 5, 10, 7, 8, 11, 7, 8, 8, 3, 3, 3, 2, 1, 2, 13, 3, 3, 3, 8, 3, 4, 4, 4, 4, 4, 7, 4, 6, 541, 1, 1, 1, 3, 3, 3, 2, 2, 2, 11]
def fwSb : List (List Int32) := [[68, 73, 82, 32, 69, 82, 65, 32, 82, 69, 78, 32, 84, 89, 80, 69, 32, 83, 65, 86, 69, 32, 85, 83, 69, 82, 32, 68, 85, 77, 80, 32, 83, 84, 65, 84, 32, 67, 79, 80, 89, 32, 72, 69, 88, 76, 79, 65, 68],
  [72, 76, 84, 32, 77, 79, 86, 32, 77, 86, 73, 32, 76, 88, 73, 32, 73, 78, 88, 32, 68, 67, 88, 32, 68, 65, 68, 32, 83, 84, 65, 88, 32, 76, 68, 65, 88, 32, 83, 72, 76, 68, 32, 76, 72, 76, 68, 32, 83, 84, 65, 32, 76, 68, 65, 32, 73, 78, 82, 32, 68, 67, 82, 32, 65, 68, 68, 32, 65, 68, 67, 32, 83, 85, 66, 32, 83, 66, 66, 32, 65, 78, 65, 32, 88, 82, 65, 32, 79, 82, 65, 32, 67, 77, 80, 32, 65, 68, 73, 32, 65, 67, 73, 32, 83, 85, 73, 32, 83, 66, 73, 32, 65, 78, 73, 32, 88, 82, 73, 32, 79, 82, 73, 32, 67, 80, 73, 32, 82, 76, 67, 32, 82, 82, 67, 32, 82, 65, 76, 32, 82, 65, 82, 32, 68, 65, 65, 32, 67, 77, 65, 32, 83, 84, 67, 32, 67, 77, 67, 32, 74, 77, 80, 32, 74, 78, 90, 32, 74, 90, 32, 74, 78, 67, 32, 74, 67, 32, 74, 80, 79, 32, 74, 80, 69, 32, 74, 80, 32, 74, 77, 32, 67, 65, 76, 76, 32, 67, 78, 90, 32, 67, 90, 32, 67, 78, 67, 32, 67, 67, 32, 67, 80, 79, 32, 67, 80, 69, 32, 67, 80, 32, 67, 77, 32, 82, 69, 84, 32, 82, 78, 90, 32, 82, 90, 32, 82, 78, 67, 32, 82, 67, 32, 82, 80, 79, 32, 82, 80, 69, 32, 82, 80, 32, 82, 77, 32, 82, 83, 84, 32, 80, 85, 83, 72, 32, 80, 79, 80, 32, 88, 84, 72, 76, 32, 88, 67, 72, 71, 32, 80, 67, 72, 76, 32, 83, 80, 72, 76, 32, 79, 85, 84, 32, 73, 78, 32, 68, 73, 32, 69, 73, 32, 78, 79, 80, 32, 79, 82, 71, 32, 69, 81, 85, 32, 68, 66, 32, 68, 87, 32, 68, 83, 32, 69, 78, 68],
  [54, 50, 75],
  [],
  [46, 58, 59, 44, 61, 60, 62, 42, 91, 93],
  [58, 32],
  [32, 58, 32],
  [48, 49, 50, 51, 52, 53, 54, 55, 56, 57, 65, 66, 67, 68, 69, 70],
  [72, 69, 88],
  [67, 79, 77],
  [66, 100, 111, 115, 32, 69, 114, 114, 32, 79, 110, 32],
  [58, 32, 83, 101, 108, 101, 99, 116],
  [58, 32, 82, 47, 79],
  [58, 32, 70, 105, 108, 101, 32, 82, 47, 79],
  [78, 111, 32, 102, 105, 108, 101],
  [78, 111, 32, 115, 112, 97, 99, 101],
  [70, 105, 108, 101, 32, 101, 120, 105, 115, 116, 115],
  [66, 97, 100, 32, 104, 101, 120],
  [66, 97, 100, 32, 108, 111, 97, 100],
  [66, 67, 68, 69, 72, 76, 77, 65],
  [66, 68, 72],
  [68, 66, 32],
  [80, 83, 87],
  [83, 80],
  [58],
  [13, 10],
  [58, 48, 48, 48, 48, 48, 48, 48, 49, 70, 70, 13, 10],
  [68, 73, 82],
  [69, 82, 65],
  [82, 47, 79],
  [70, 105, 108, 101, 32, 82, 47, 79],
  [82, 69, 78],
  [84, 89, 80, 69],
  [83, 65, 86, 69],
  [68, 85, 77, 80],
  [83, 84, 65, 84],
  [67, 79, 80, 89],
  [72, 69, 88, 76, 79, 65, 68],
  [85, 83, 69, 82],
  [83, 101, 108, 101, 99, 116],
  [78, 79, 80, 110, 48, 48, 32, 82, 76, 67, 110, 48, 55, 32, 82, 82, 67, 110, 48, 70, 32, 82, 65, 76, 110, 49, 55, 32, 82, 65, 82, 110, 49, 70, 32, 68, 65, 65, 110, 50, 55, 32, 67, 77, 65, 110, 50, 70, 32, 83, 84, 67, 110, 51, 55, 32, 67, 77, 67, 110, 51, 70, 32, 72, 76, 84, 110, 55, 54, 32, 82, 69, 84, 110, 67, 57, 32, 88, 84, 72, 76, 110, 69, 51, 32, 88, 67, 72, 71, 110, 69, 66, 32, 80, 67, 72, 76, 110, 69, 57, 32, 83, 80, 72, 76, 110, 70, 57, 32, 68, 73, 110, 70, 51, 32, 69, 73, 110, 70, 66, 32, 82, 78, 90, 110, 67, 48, 32, 82, 90, 110, 67, 56, 32, 82, 78, 67, 110, 68, 48, 32, 82, 67, 110, 68, 56, 32, 82, 80, 79, 110, 69, 48, 32, 82, 80, 69, 110, 69, 56, 32, 82, 80, 110, 70, 48, 32, 82, 77, 110, 70, 56, 32, 74, 77, 80, 119, 67, 51, 32, 67, 65, 76, 76, 119, 67, 68, 32, 83, 72, 76, 68, 119, 50, 50, 32, 76, 72, 76, 68, 119, 50, 65, 32, 83, 84, 65, 119, 51, 50, 32, 76, 68, 65, 119, 51, 65, 32, 74, 78, 90, 119, 67, 50, 32, 74, 90, 119, 67, 65, 32, 74, 78, 67, 119, 68, 50, 32, 74, 67, 119, 68, 65, 32, 74, 80, 79, 119, 69, 50, 32, 74, 80, 69, 119, 69, 65, 32, 74, 80, 119, 70, 50, 32, 74, 77, 119, 70, 65, 32, 67, 78, 90, 119, 67, 52, 32, 67, 90, 119, 67, 67, 32, 67, 78, 67, 119, 68, 52, 32, 67, 67, 119, 68, 67, 32, 67, 80, 79, 119, 69, 52, 32, 67, 80, 69, 119, 69, 67, 32, 67, 80, 119, 70, 52, 32, 67, 77, 119, 70, 67, 32, 65, 68, 73, 98, 67, 54, 32, 65, 67, 73, 98, 67, 69, 32, 83, 85, 73, 98, 68, 54, 32, 83, 66, 73, 98, 68, 69, 32, 65, 78, 73, 98, 69, 54, 32, 88, 82, 73, 98, 69, 69, 32, 79, 82, 73, 98, 70, 54, 32, 67, 80, 73, 98, 70, 69, 32, 79, 85, 84, 98, 68, 51, 32, 73, 78, 98, 68, 66, 32, 65, 68, 68, 115, 56, 48, 32, 65, 68, 67, 115, 56, 56, 32, 83, 85, 66, 115, 57, 48, 32, 83, 66, 66, 115, 57, 56, 32, 65, 78, 65, 115, 65, 48, 32, 88, 82, 65, 115, 65, 56, 32, 79, 82, 65, 115, 66, 48, 32, 67, 77, 80, 115, 66, 56, 32, 73, 78, 82, 100, 48, 52, 32, 68, 67, 82, 100, 48, 53, 32, 73, 78, 88, 112, 48, 51, 32, 68, 67, 88, 112, 48, 66, 32, 68, 65, 68, 112, 48, 57, 32, 80, 85, 83, 72, 113, 67, 53, 32, 80, 79, 80, 113, 67, 49, 32, 83, 84, 65, 88, 120, 48, 50, 32, 76, 68, 65, 88, 120, 48, 65, 32, 77, 79, 86, 118, 52, 48, 32, 77, 86, 73, 105, 48, 54, 32, 76, 88, 73, 108, 48, 49, 32, 82, 83, 84, 114, 67, 55, 32],
  [66],
  [68],
  [72],
  [69, 78, 68],
  [79, 82, 71],
  [69, 81, 85],
  [68, 83],
  [68, 66],
  [68, 87],
  [58, 48, 48, 48, 48, 48, 48, 48, 49, 70, 70]]
/-- where a text stands: class, entry, text, its number -/
def fwSr : List (String × Nat × String × Nat) := [("MonitorBoard$Shell", 18, "DIR ERA REN TYPE SAVE USER DUMP STAT COPY HEXLOAD", 0), ("MonitorBoard$Assembler", 11, "HLT MOV MVI LXI INX DCX DAD STAX LDAX SHLD LHLD STA LDA INR DCR ADD ADC SUB SBB ANA XRA ORA CMP ADI ACI SUI SBI ANI XRI ORI CPI RLC RRC RAL RAR DAA CMA STC CMC JMP JNZ JZ JNC JC JPO JPE JP JM CALL CNZ CZ CNC CC CPO CPE CP CM RET RNZ RZ RNC RC RPO RPE RP RM RST PUSH POP XTHL XCHG PCHL SPHL OUT IN DI EI NOP ORG EQU DB DW DS END", 1), ("MonitorBoard$Monitor", 71, "62K", 2), ("MonitorBoard$Monitor", 107, "", 3), ("MonitorBoard$Shell", 209, ".:;,=<>*[]", 4), ("MonitorBoard$Shell", 136, "", 3), ("MonitorBoard$Shell", 269, ": ", 5), ("MonitorBoard$Shell", 274, " : ", 6), ("MonitorBoard$Console", 43, "0123456789ABCDEF", 7), ("MonitorBoard$Shell", 360, "HEX", 8), ("MonitorBoard$HexText", 45, "0123456789ABCDEF", 7), ("MonitorBoard$Shell", 379, "COM", 9), ("MonitorBoard$Monitor", 118, "Bdos Err On ", 10), ("MonitorBoard$Monitor", 121, ": Select", 11), ("MonitorBoard$Monitor", 126, ": R/O", 12), ("MonitorBoard$Monitor", 128, ": File R/O", 13), ("MonitorBoard$Shell", 148, "No file", 14), ("MonitorBoard$Shell", 150, "No space", 15), ("MonitorBoard$Shell", 152, "File exists", 16), ("MonitorBoard$Shell", 154, "Bad hex", 17), ("MonitorBoard$Shell", 156, "Bad load", 18), ("MonitorBoard$Assembler", 178, "BCDEHLMA", 19), ("MonitorBoard$Assembler", 187, "BDH", 20), ("MonitorBoard$Lister", 78, "HLT MOV MVI LXI INX DCX DAD STAX LDAX SHLD LHLD STA LDA INR DCR ADD ADC SUB SBB ANA XRA ORA CMP ADI ACI SUI SBI ANI XRI ORI CPI RLC RRC RAL RAR DAA CMA STC CMC JMP JNZ JZ JNC JC JPO JPE JP JM CALL CNZ CZ CNC CC CPO CPE CP CM RET RNZ RZ RNC RC RPO RPE RP RM RST PUSH POP XTHL XCHG PCHL SPHL OUT IN DI EI NOP ORG EQU DB DW DS END", 1), ("MonitorBoard$Lister", 72, "DB ", 21), ("MonitorBoard$Lister", 80, "BCDEHLMA", 19), ("MonitorBoard$Lister", 91, "0123456789ABCDEF", 7), ("MonitorBoard$Lister", 82, "BDH", 20), ("MonitorBoard$Lister", 84, "PSW", 22), ("MonitorBoard$Lister", 86, "SP", 23), ("MonitorBoard", 208, ":", 24), ("MonitorBoard", 215, "0123456789ABCDEF", 7), ("MonitorBoard", 213, "\r\n", 25), ("MonitorBoard", 202, ":00000001FF\r\n", 26), ("MonitorBoardModel", 262, "62K", 2), ("MonitorBoardModel", 466, "DIR", 27), ("MonitorBoardModel", 325, ": ", 5), ("MonitorBoardModel", 529, " : ", 6), ("MonitorBoardModel", 464, "No file", 14), ("MonitorBoardModel", 475, "ERA", 28), ("MonitorBoardModel", 333, "R/O", 29), ("MonitorBoardModel", 323, "Bdos Err On ", 10), ("MonitorBoardModel", 343, "File R/O", 30), ("MonitorBoardModel", 480, "REN", 31), ("MonitorBoardModel", 534, "File exists", 16), ("MonitorBoardModel", 485, "TYPE", 32), ("MonitorBoardModel", 490, "SAVE", 33), ("MonitorBoardModel", 570, "No space", 15), ("MonitorBoardModel", 495, "DUMP", 34), ("MonitorBoardModel", 500, "STAT", 35), ("MonitorBoardModel", 505, "COPY", 36), ("MonitorBoardModel", 510, "HEXLOAD", 37), ("MonitorBoardModel", 594, "Bad hex", 17), ("MonitorBoardModel", 515, "USER", 38), ("MonitorBoardModel", 596, "Bad load", 18), ("MonitorBoardModel", 327, "Select", 39), ("MonitorBoardModel", 666, "NOPn00 RLCn07 RRCn0F RALn17 RARn1F DAAn27 CMAn2F STCn37 CMCn3F HLTn76 RETnC9 XTHLnE3 XCHGnEB PCHLnE9 SPHLnF9 DInF3 EInFB RNZnC0 RZnC8 RNCnD0 RCnD8 RPOnE0 RPEnE8 RPnF0 RMnF8 JMPwC3 CALLwCD SHLDw22 LHLDw2A STAw32 LDAw3A JNZwC2 JZwCA JNCwD2 JCwDA JPOwE2 JPEwEA JPwF2 JMwFA CNZwC4 CZwCC CNCwD4 CCwDC CPOwE4 CPEwEC CPwF4 CMwFC ADIbC6 ACIbCE SUIbD6 SBIbDE ANIbE6 XRIbEE ORIbF6 CPIbFE OUTbD3 INbDB ADDs80 ADCs88 SUBs90 SBBs98 ANAsA0 XRAsA8 ORAsB0 CMPsB8 INRd04 DCRd05 INXp03 DCXp0B DADp09 PUSHqC5 POPqC1 STAXx02 LDAXx0A MOVv40 MVIi06 LXIl01 RSTrC7 ", 40), ("MonitorBoardModel", 728, "BCDEHLMA", 19), ("MonitorBoardModel", 730, "B", 41), ("MonitorBoardModel", 732, "D", 42), ("MonitorBoardModel", 734, "H", 43), ("MonitorBoardModel", 736, "SP", 23), ("MonitorBoardModel", 738, "PSW", 22), ("MonitorBoardModel", 689, "END", 44), ("MonitorBoardModel", 695, "ORG", 45), ("MonitorBoardModel", 700, "EQU", 46), ("MonitorBoardModel", 702, "DS", 47), ("MonitorBoardModel", 704, "DB", 48), ("MonitorBoardModel", 712, "DW", 49), ("MonitorBoardModel", 776, "BDH", 20), ("MonitorBoardModel", 789, "DB ", 21), ("MonitorBoardModel", 806, ":00000001FF", 50)]
/-- tables: class, name, number, contents -/
def fwTb : List (String × String × Nat × List Int32) := [("MonitorBoard$Codes", "CODES", 51, [118, 64, 6, 1, 3, 11, 9, 2, 10, 34, 42, 50, 58, 4, 5, 128, 136, 144, 152, 160, 168, 176, 184, 198, 206, 214, 222, 230, 238, 246, 254, 7, 15, 23, 31, 39, 47, 55, 63, 195, 194, 202, 210, 218, 226, 234, 242, 250, 205, 196, 204, 212, 220, 228, 236, 244, 252, 201, 192, 200, 208, 216, 224, 232, 240, 248, 199, 197, 193, 227, 235, 233, 249, 211, 219, 243, 251, 0, 0, 0, 0, 0, 0, 0]),
  ("MonitorBoard$Codes", "KINDS", 52, [0, 1, 2, 3, 4, 4, 4, 5, 5, 6, 6, 6, 6, 7, 7, 8, 8, 8, 8, 8, 8, 8, 8, 9, 9, 9, 9, 9, 9, 9, 9, 0, 0, 0, 0, 0, 0, 0, 0, 6, 6, 6, 6, 6, 6, 6, 6, 6, 6, 6, 6, 6, 6, 6, 6, 6, 6, 0, 0, 0, 0, 0, 0, 0, 0, 0, 10, 11, 11, 0, 0, 0, 0, 9, 9, 0, 0, 0, 12, 13, 14, 15, 16, 17]),
  ("MonitorBoard$Codes", "MASKS", 53, [255, 192, 199, 207, 207, 239, 255, 199, 248, 255, 199, 207]),
  ("MonitorBoard$Codes", "SIZES", 54, [1, 1, 2, 3, 1, 1, 3, 1, 1, 2, 1, 1]),
  ("MonitorBoard$Monitor", "DISK_FACTS", 55, [26, 0, 3, 7, 0, 242, 0, 63, 0, 192, 0, 16, 0, 2, 0])]
/-- statics that are numbers: class, name, descriptor, value -/
def fwSi : List (String × String × String × Int32) := [("java/lang/String", "COMPACT_STRINGS", "Z", 1), ("java/lang/StringUTF16", "$assertionsDisabled", "Z", 1), ("java/lang/StringUTF16", "HI_BYTE_SHIFT", "I", 0), ("java/lang/StringUTF16", "LO_BYTE_SHIFT", "I", 8)]
/-- links of tables, of such statics, of String.value (0) and String.coder (1): class, entry, which -/
def fwSg : List (String × Nat × Nat) := [("MonitorBoard$Monitor", 276, 4), ("MonitorBoard$Assembler", 129, 1), ("MonitorBoard$Assembler", 145, 0), ("MonitorBoard$Assembler", 166, 3), ("MonitorBoard$Lister", 59, 1), ("MonitorBoard$Lister", 63, 2), ("MonitorBoard$Lister", 66, 0)]
def fwSn : List (String × Nat × Nat) := [("java/lang/String", 38, 0), ("java/lang/StringUTF16", 44, 1), ("java/lang/StringUTF16", 59, 2), ("java/lang/StringUTF16", 63, 3)]
def fwSf : List (String × Nat × Nat) := [("java/lang/String", 9, 0), ("java/lang/String", 15, 1)]
theorem fwSg_in : ∀ w ∈ fwSg.map (fun q => Cond.fieldLink q.1 q.2.1 (fwTb.getD q.2.2 ("", "", 0, [])).1 (fwTb.getD q.2.2 ("", "", 0, [])).2.1 "[I"), w ∈ fwT := fwT_all [1483, 1732, 1804, 1832, 1868, 1869, 1871] (by decide +kernel) (by decide +kernel)
theorem fwSn_in : ∀ w ∈ fwSn.map (fun q => Cond.fieldLink q.1 q.2.1 (fwSi.getD q.2.2 ("", "", "", 0)).1 (fwSi.getD q.2.2 ("", "", "", 0)).2.1 (fwSi.getD q.2.2 ("", "", "", 0)).2.2.1), w ∈ fwT := fwT_all [578, 612, 614, 616] (by decide +kernel) (by decide +kernel)
theorem fwSf_in : ∀ w ∈ fwSf.map (fun q => Cond.fieldLink q.1 q.2.1 "java/lang/String" (if q.2.2 = 0 then "value" else "coder") (if q.2.2 = 0 then "[B" else "B")), w ∈ fwT := fwT_all [2868, 2869] (by decide +kernel) (by decide +kernel)
theorem fwSf_01 : ∀ q ∈ fwSf, q.2.2 = 0 ∨ q.2.2 = 1 := by decide +kernel
theorem fwSg_lt : ∀ q ∈ fwSg, q.2.2 < fwTb.length := by decide +kernel
theorem fwSn_lt : ∀ q ∈ fwSn, q.2.2 < fwSi.length := by decide +kernel
/-- links to private members of a nest: class, entry, method, host -/
def fwNl : List (String × Nat × MethodName × String) := [("MonitorBoard", 22, ⟨"MonitorBoard$Console", "<init>", "()V"⟩, "MonitorBoard"), ("MonitorBoard$Shell", 11, ⟨"MonitorBoard$HexText", "<init>", "()V"⟩, "MonitorBoard"), ("MonitorBoard$Shell", 20, ⟨"MonitorBoard", "packedWords", "(Ljava/lang/String;I)[J"⟩, "MonitorBoard"), ("MonitorBoard$Assembler", 13, ⟨"MonitorBoard", "packedWords", "(Ljava/lang/String;I)[J"⟩, "MonitorBoard"), ("MonitorBoard$Assembler", 43, ⟨"MonitorBoard", "capital", "(I)I"⟩, "MonitorBoard"), ("MonitorBoard$Shell", 169, ⟨"MonitorBoard", "capital", "(I)I"⟩, "MonitorBoard"), ("MonitorBoard$Shell", 192, ⟨"MonitorBoard", "packed", "(JI)J"⟩, "MonitorBoard"), ("MonitorBoard$Shell", 196, ⟨"MonitorBoard", "indexOfWord", "([JIJ)I"⟩, "MonitorBoard"), ("MonitorBoard$Assembler", 118, ⟨"MonitorBoard", "indexOfWord", "([JIJ)I"⟩, "MonitorBoard")]
