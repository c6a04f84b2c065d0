/-! methods, their instructions, by program (wip/whole/methods.py) -/
/-- MonitorBoard.back()I -/
abbrev m_back : fwM := (⟨"MonitorBoard", "back", "()I"⟩, prog_1_method_16_code, 1, (some FieldType.int))
theorem m_back_in : Cond.code m_back.1 m_back.2.1 m_back.2.2.1 m_back.2.2.2 ∈ fwT := fwT_mem (List.mem_of_getElem? (i := 1842) (by decide +kernel)) rfl
def k_back_0 : List fwO := [(.aload_n 0, 0, 0, .null), (.aload_n 0, 0, 0, .null), (.getfield 164, 0, 11, .retAddr 162), (.sipush 4000, 0, 0, .int 4000)]
theorem k_back_0_ok : fwChain m_back.1.cls m_back.2.1 0 k_back_0 8 = true := by decide +kernel
theorem d_back_8 : decode m_back.2.1 8 = .ok (.invokestatic 176, 3) := by decide +kernel
def k_back_11 : List fwO := [(.putfield 83, 0, 10, .retAddr 161), (.aload_n 0, 0, 0, .null), (.getfield 14, 0, 1, .retAddr 152), (.iconst 0, 0, 0, .int 0), (.aload_n 0, 0, 0, .null), (.getfield 9, 0, 0, .retAddr 151), (.iconst 0, 0, 0, .int 0), (.aload_n 0, 0, 0, .null), (.getfield 83, 0, 10, .retAddr 161)]
theorem k_back_11_ok : fwChain m_back.1.cls m_back.2.1 11 k_back_11 28 = true := by decide +kernel
theorem d_back_28 : decode m_back.2.1 28 = .ok (.invokestatic 179, 3) := by decide +kernel
def k_back_31 : List fwO := [(.aload_n 0, 0, 0, .null), (.getfield 83, 0, 10, .retAddr 161)]
theorem k_back_31_ok : fwChain m_back.1.cls m_back.2.1 31 k_back_31 35 = true := by decide +kernel
theorem d_back_35 : decode m_back.2.1 35 = .ok (.ireturn, 1) := by decide +kernel
/-- MonitorBoard.hex()I -/
abbrev m_hex : fwM := (⟨"MonitorBoard", "hex", "()I"⟩, prog_1_method_19_code, 3, (some FieldType.int))
theorem m_hex_in : Cond.code m_hex.1 m_hex.2.1 m_hex.2.2.1 m_hex.2.2.2 ∈ fwT := fwT_mem (List.mem_of_getElem? (i := 1916) (by decide +kernel)) rfl
def k_hex_0 : List fwO := [(.aload_n 0, 0, 0, .null), (.getfield 164, 0, 11, .retAddr 162), (.sipush 2000, 0, 0, .int 2000)]
theorem k_hex_0_ok : fwChain m_hex.1.cls m_hex.2.1 0 k_hex_0 7 = true := by decide +kernel
theorem d_hex_7 : decode m_hex.2.1 7 = .ok (.invokestatic 176, 3) := by decide +kernel
def k_hex_10 : List fwO := [(.istore_n 1, 0, 0, .null), (.aload_n 0, 0, 0, .null), (.getfield 14, 0, 1, .retAddr 152), (.iconst 0, 0, 0, .int 0), (.aload_n 0, 0, 0, .null), (.getfield 17, 0, 2, .retAddr 153), (.iconst 0, 0, 0, .int 0), (.iload_n 1, 0, 0, .null)]
theorem k_hex_10_ok : fwChain m_hex.1.cls m_hex.2.1 10 k_hex_10 22 = true := by decide +kernel
theorem d_hex_22 : decode m_hex.2.1 22 = .ok (.invokestatic 179, 3) := by decide +kernel
def k_hex_25 : List fwO := [(.aload_n 0, 0, 0, .null), (.iconst 0, 0, 0, .int 0), (.putfield 164, 0, 11, .retAddr 162), (.iconst 0, 0, 0, .int 0), (.istore_n 2, 0, 0, .null)]
theorem k_hex_25_ok : fwChain m_hex.1.cls m_hex.2.1 25 k_hex_25 32 = true := by decide +kernel
def k_hex_32 : List fwO := [(.iload_n 2, 0, 0, .null), (.iload_n 1, 0, 0, .null)]
theorem k_hex_32_ok : fwChain m_hex.1.cls m_hex.2.1 32 k_hex_32 34 = true := by decide +kernel
theorem d_hex_34 : decode m_hex.2.1 34 = .ok (.if_icmp .ge 22, 3) := by decide +kernel
def k_hex_37 : List fwO := [(.aload_n 0, 0, 0, .null), (.iload_n 2, 0, 0, .null), (.bipush 16, 0, 0, .int 16), (.iload_n 1, 0, 0, .null), (.iload_n 2, 0, 0, .null), (.isub, 0, 0, .null)]
theorem k_hex_37_ok : fwChain m_hex.1.cls m_hex.2.1 37 k_hex_37 44 = true := by decide +kernel
theorem d_hex_44 : decode m_hex.2.1 44 = .ok (.invokestatic 176, 3) := by decide +kernel
theorem d_hex_47 : decode m_hex.2.1 47 = .ok (.invokevirtual 199, 3) := by decide +kernel
def k_hex_50 : List fwO := [(.iinc 2 16, 0, 0, .int 16)]
theorem k_hex_50_ok : fwChain m_hex.1.cls m_hex.2.1 50 k_hex_50 53 = true := by decide +kernel
theorem d_hex_53 : decode m_hex.2.1 53 = .ok (.goto (-21), 3) := by decide +kernel
def k_hex_56 : List fwO := [(.aload_n 0, 0, 0, .null), (.ldc 202, 33, 0, .retAddr 26)]
theorem k_hex_56_ok : fwChain m_hex.1.cls m_hex.2.1 56 k_hex_56 59 = true := by decide +kernel
theorem d_hex_59 : decode m_hex.2.1 59 = .ok (.invokevirtual 204, 3) := by decide +kernel
def k_hex_62 : List fwO := [(.aload_n 0, 0, 0, .null), (.getfield 164, 0, 11, .retAddr 162)]
theorem k_hex_62_ok : fwChain m_hex.1.cls m_hex.2.1 62 k_hex_62 66 = true := by decide +kernel
theorem d_hex_66 : decode m_hex.2.1 66 = .ok (.ireturn, 1) := by decide +kernel
theorem c_back_8 : ∀ w ∈ ([(Cond.methodLink "MonitorBoard" (176 : Nat) ({ cls := "java/lang/Math", name := "min", desc := "(II)I" } : MethodName)), (Cond.static ({ cls := "java/lang/Math", name := "min", desc := "(II)I" } : MethodName)), (Cond.initialized "java/lang/Math")] : List Cond), w ∈ fwT := fwT_all [1843, 873, 297] (by decide +kernel) (by decide +kernel)
theorem c_back_28 : ∀ w ∈ ([(Cond.methodLink "MonitorBoard" (179 : Nat) ({ cls := "java/lang/System", name := "arraycopy", desc := "(Ljava/lang/Object;ILjava/lang/Object;II)V" } : MethodName)), (Cond.static ({ cls := "java/lang/System", name := "arraycopy", desc := "(Ljava/lang/Object;ILjava/lang/Object;II)V" } : MethodName)), (Cond.initialized "java/lang/System")] : List Cond), w ∈ fwT := fwT_all [1844, 1105, 300] (by decide +kernel) (by decide +kernel)
theorem c_hex_7 : ∀ w ∈ ([(Cond.methodLink "MonitorBoard" (176 : Nat) ({ cls := "java/lang/Math", name := "min", desc := "(II)I" } : MethodName)), (Cond.static ({ cls := "java/lang/Math", name := "min", desc := "(II)I" } : MethodName)), (Cond.initialized "java/lang/Math")] : List Cond), w ∈ fwT := c_back_8
theorem c_hex_22 : ∀ w ∈ ([(Cond.methodLink "MonitorBoard" (179 : Nat) ({ cls := "java/lang/System", name := "arraycopy", desc := "(Ljava/lang/Object;ILjava/lang/Object;II)V" } : MethodName)), (Cond.static ({ cls := "java/lang/System", name := "arraycopy", desc := "(Ljava/lang/Object;ILjava/lang/Object;II)V" } : MethodName)), (Cond.initialized "java/lang/System")] : List Cond), w ∈ fwT := c_back_28
theorem c_hex_44 : ∀ w ∈ ([(Cond.methodLink "MonitorBoard" (176 : Nat) ({ cls := "java/lang/Math", name := "min", desc := "(II)I" } : MethodName)), (Cond.static ({ cls := "java/lang/Math", name := "min", desc := "(II)I" } : MethodName)), (Cond.initialized "java/lang/Math")] : List Cond), w ∈ fwT := c_back_8
theorem c_hex_47 : ∀ w ∈ ([(Cond.methodLink "MonitorBoard" (199 : Nat) ({ cls := "MonitorBoard", name := "putHexLine", desc := "(II)V" } : MethodName)), (Cond.instanceMethod ({ cls := "MonitorBoard", name := "putHexLine", desc := "(II)V" } : MethodName)), (Cond.selects "MonitorBoard" ({ cls := "MonitorBoard", name := "putHexLine", desc := "(II)V" } : MethodName) ({ cls := "MonitorBoard", name := "putHexLine", desc := "(II)V" } : MethodName)), (Cond.initialized "MonitorBoard")] : List Cond), w ∈ fwT := fwT_all [1917, 1919, 142, 282] (by decide +kernel) (by decide +kernel)
theorem c_hex_59 : ∀ w ∈ ([(Cond.methodLink "MonitorBoard" (204 : Nat) ({ cls := "MonitorBoard", name := "putText", desc := "(Ljava/lang/String;)V" } : MethodName)), (Cond.instanceMethod ({ cls := "MonitorBoard", name := "putText", desc := "(Ljava/lang/String;)V" } : MethodName)), (Cond.selects "MonitorBoard" ({ cls := "MonitorBoard", name := "putText", desc := "(Ljava/lang/String;)V" } : MethodName) ({ cls := "MonitorBoard", name := "putText", desc := "(Ljava/lang/String;)V" } : MethodName)), (Cond.initialized "MonitorBoard")] : List Cond), w ∈ fwT := fwT_all [1922, 1924, 143, 282] (by decide +kernel) (by decide +kernel)
theorem w_copy : ∀ w ∈ ([(Cond.methodLink "MonitorBoard" (179 : Nat) ({ cls := "java/lang/System", name := "arraycopy", desc := "(Ljava/lang/Object;ILjava/lang/Object;II)V" } : MethodName)), (Cond.native ({ cls := "java/lang/System", name := "arraycopy", desc := "(Ljava/lang/Object;ILjava/lang/Object;II)V" } : MethodName)), (Cond.static ({ cls := "java/lang/System", name := "arraycopy", desc := "(Ljava/lang/Object;ILjava/lang/Object;II)V" } : MethodName)), (Cond.initialized "java/lang/System")] : List Cond), w ∈ fwT := fwT_all [1844, 1106, 1105, 300] (by decide +kernel) (by decide +kernel)
section FST
variable {l : Launch} {Z : fwZ} {re : List fwE} {σ : fwS}
theorem ct_back (hF : Fre σ) : fwC l Z m_back 2 0 0 [.ref 0] (shMB re) σ (fun w sh' σ' => w = some (.int 0) ∧ sh' = shMB re ∧ Up σ σ') := by
  refine fwC_of (ls := [some (.ref 0)]) (by decide +kernel) rfl (by rw [fw_sl1]; exact Nat.le_refl 1) ?_
  have h11 : σ.1 0 11 = 0 := hF.1.2
  refine fwRun_ok k_back_0_ok rfl trivial ?_
  show fwG l Z m_back _ _ _ _ _ _ 8 _ [.int 4000, .int (σ.1 0 11), .ref 0] _ _
  rw [h11]
  refine fwg_callS (n := 2) (as := [.int 0, .int 4000]) (r := [.ref 0]) (ct_mmin _ _) ⟨by decide, by decide, by decide +kernel⟩ m_mmin_in c_back_8 rfl rfl (Nat.le_of_ble_eq_true rfl) d_back_8 ⟨Nat.le_refl _, Nat.le_of_ble_eq_true rfl⟩ ⟨Nat.le_refl _, Nat.le_refl _⟩ (fun v sh' σ1 hq => ?_)
  obtain ⟨rfl, rfl, rfl⟩ := hq
  rw [if_neg (show ¬ (4000 : Int32) < 0 by decide)]
  refine fwRun_ok k_back_11_ok rfl trivial ?_
  have e : (fwI σ1 0 10 0).1 0 10 = 0 := fwI_eq
  show fwG l Z m_back _ _ _ _ _ _ 28 _ [.int ((fwI σ1 0 10 0).1 0 10), .int 0, .ref 1, .int 0, .ref 2] _ (fwI σ1 0 10 0)
  rw [e]
  refine fwg_copy0 (i := 2) (j := 1) rfl rfl w_copy d_back_28 (Nat.le_of_ble_eq_true rfl) (Nat.le_of_ble_eq_true rfl) ?_
  refine fwRun_ok k_back_31_ok rfl trivial ?_
  refine fwg_iret rfl (Nat.le_refl _) (Nat.le_refl _) ⟨?_, rfl, fwSame_I (by decide)⟩ d_back_35
  show some (Value.int ((fwI σ1 0 10 0).1 0 10)) = _
  rw [e]
theorem ct_hex (hF : Fre σ) : fwC l Z m_hex 6 0 0 [.ref 0] (shMB re) σ (fun w sh' σ' => w = some (.int (nI 13)) ∧ sh' = shMB re ∧ Up σ σ') := by
  refine fwC_of (ls := [some (.ref 0), none, none]) (by decide +kernel) rfl (by rw [fw_sl1]; exact Nat.le_of_ble_eq_true rfl) ?_
  have h11 : σ.1 0 11 = 0 := hF.1.2
  refine fwRun_ok k_hex_0_ok rfl trivial ?_
  show fwG l Z m_hex _ _ _ _ _ _ 7 _ [.int 2000, .int (σ.1 0 11)] _ _
  rw [h11]
  refine fwg_callS (n := 2) (as := [.int 0, .int 2000]) (r := []) (ct_mmin _ _) ⟨by decide, by decide, by decide +kernel⟩ m_mmin_in c_hex_7 rfl rfl (Nat.le_of_ble_eq_true rfl) d_hex_7 ⟨Nat.le_of_ble_eq_true rfl, Nat.le_of_ble_eq_true rfl⟩ ⟨Nat.le_refl _, Nat.le_refl _⟩ (fun v sh' σ1 hq => ?_)
  obtain ⟨rfl, rfl, rfl⟩ := hq
  rw [if_neg (show ¬ (2000 : Int32) < 0 by decide)]
  refine fwRun_ok k_hex_10_ok rfl trivial ?_
  refine fwg_copy0 (i := 2) (j := 3) rfl rfl w_copy d_hex_22 (Nat.le_of_ble_eq_true rfl) (Nat.le_of_ble_eq_true rfl) ?_
  refine fwRun_ok k_hex_25_ok rfl trivial ?_
  refine fwRun_ok k_hex_32_ok rfl trivial ?_
  refine fwg_cmp 56 d_hex_34 (by decide) (fun _ => ?_) (fun q => absurd (show (0 : Int32) ≤ 0 by decide) q)
  refine fwRun_ok k_hex_56_ok rfl trivial ?_
  refine fwg_callV (n := 1) (i := 0) (as := [.retAddr 26]) (r := []) (ct_putText (c := 26) (t := 0) (by decide) fwI_eq (by decide)) ⟨by decide, by decide, by decide +kernel⟩ m_putText_in c_hex_59 rfl rfl rfl rfl (Nat.le_of_ble_eq_true rfl) d_hex_59 ⟨Nat.le_refl _, Nat.le_of_ble_eq_true rfl⟩ ⟨Nat.le_refl _, Nat.le_refl _⟩ (fun v sh' σ2 hq => ?_)
  obtain ⟨rfl, rfl, h2, s2⟩ := hq
  refine fwRun_ok k_hex_62_ok rfl trivial ?_
  refine fwg_iret rfl (Nat.le_refl _) (Nat.le_refl _) ⟨?_, rfl, (fwSame_I (by decide)).tr (s2.up (by decide))⟩ d_hex_66
  show some (Value.int (σ2.1 0 11)) = _
  rw [h2]
  rfl
end FST
