/-! methods, their instructions, by program (wip/whole/methods.py) -/
/-- MonitorBoardModel.assemble()I -/
abbrev m_rAssemble : fwM := (⟨"MonitorBoardModel", "assemble", "()I"⟩, prog_13_method_123_code, 5, (some FieldType.int))
theorem m_rAssemble_in : Cond.code m_rAssemble.1 m_rAssemble.2.1 m_rAssemble.2.2.1 m_rAssemble.2.2.2 ∈ fwT := fwT_mem (List.mem_of_getElem? (i := 2683) (by decide +kernel)) rfl
def k_rAssemble_0 : List fwO := [(.aload_n 0, 0, 0, .null), (.getfield 80, 1, 6, .retAddr 169), (.istore_n 1, 0, 0, .null), (.aload_n 0, 0, 0, .null), (.iconst 0, 0, 0, .int 0), (.putfield 80, 1, 6, .retAddr 169), (.aload_n 0, 0, 0, .null), (.iload_n 1, 0, 0, .null), (.putfield 614, 1, 67, .retAddr 230), (.aload_n 0, 0, 0, .null), (.iconst 0, 0, 0, .int 0), (.putfield 620, 1, 62, .retAddr 225), (.aload_n 0, 0, 0, .null), (.iconst (-1), 0, 0, .int (-1)), (.putfield 605, 1, 68, .retAddr 231), (.iconst 0, 0, 0, .int 0), (.istore_n 2, 0, 0, .null)]
theorem k_rAssemble_0_ok : fwChain m_rAssemble.1.cls m_rAssemble.2.1 0 k_rAssemble_0 27 = true := by decide +kernel
def k_rAssemble_27 : List fwO := [(.iload_n 2, 0, 0, .null)]
theorem k_rAssemble_27_ok : fwChain m_rAssemble.1.cls m_rAssemble.2.1 27 k_rAssemble_27 28 = true := by decide +kernel
theorem d_rAssemble_28 : decode m_rAssemble.2.1 28 = .ok (.ldc_w 623, 3) := by decide +kernel
theorem d_rAssemble_31 : decode m_rAssemble.2.1 31 = .ok (.if_icmp .ge 16, 3) := by decide +kernel
def k_rAssemble_34 : List fwO := [(.aload_n 0, 0, 0, .null), (.getfield 28, 1, 5, .retAddr 168), (.iload_n 2, 0, 0, .null), (.iconst 0, 0, 0, .int 0), (.bastore, 0, 0, .null), (.iinc 2 1, 0, 0, .int 1)]
theorem k_rAssemble_34_ok : fwChain m_rAssemble.1.cls m_rAssemble.2.1 34 k_rAssemble_34 44 = true := by decide +kernel
theorem d_rAssemble_44 : decode m_rAssemble.2.1 44 = .ok (.goto (-17), 3) := by decide +kernel
def k_rAssemble_47 : List fwO := [(.iconst 0, 0, 0, .int 0), (.istore_n 2, 0, 0, .null)]
theorem k_rAssemble_47_ok : fwChain m_rAssemble.1.cls m_rAssemble.2.1 47 k_rAssemble_47 49 = true := by decide +kernel
def k_rAssemble_49 : List fwO := [(.iload_n 2, 0, 0, .null), (.iconst 2, 0, 0, .int 2)]
theorem k_rAssemble_49_ok : fwChain m_rAssemble.1.cls m_rAssemble.2.1 49 k_rAssemble_49 51 = true := by decide +kernel
theorem d_rAssemble_51 : decode m_rAssemble.2.1 51 = .ok (.if_icmp .ge 134, 3) := by decide +kernel
def k_rAssemble_54 : List fwO := [(.aload_n 0, 0, 0, .null), (.getfield 605, 1, 68, .retAddr 231)]
theorem k_rAssemble_54_ok : fwChain m_rAssemble.1.cls m_rAssemble.2.1 54 k_rAssemble_54 58 = true := by decide +kernel
theorem d_rAssemble_58 : decode m_rAssemble.2.1 58 = .ok (.ifCond .ge 127, 3) := by decide +kernel
def k_rAssemble_61 : List fwO := [(.aload_n 0, 0, 0, .null), (.iload_n 2, 0, 0, .null), (.iconst 1, 0, 0, .int 1)]
theorem k_rAssemble_61_ok : fwChain m_rAssemble.1.cls m_rAssemble.2.1 61 k_rAssemble_61 64 = true := by decide +kernel
theorem d_rAssemble_64 : decode m_rAssemble.2.1 64 = .ok (.if_icmp .ne 7, 3) := by decide +kernel
def k_rAssemble_67 : List fwO := [(.iconst 1, 0, 0, .int 1)]
theorem k_rAssemble_67_ok : fwChain m_rAssemble.1.cls m_rAssemble.2.1 67 k_rAssemble_67 68 = true := by decide +kernel
theorem d_rAssemble_68 : decode m_rAssemble.2.1 68 = .ok (.goto 4, 3) := by decide +kernel
def k_rAssemble_71 : List fwO := [(.iconst 0, 0, 0, .int 0)]
theorem k_rAssemble_71_ok : fwChain m_rAssemble.1.cls m_rAssemble.2.1 71 k_rAssemble_71 72 = true := by decide +kernel
def k_rAssemble_72 : List fwO := [(.putfield 624, 1, 69, .retAddr 232), (.aload_n 0, 0, 0, .null), (.iconst 0, 0, 0, .int 0), (.putfield 627, 1, 77, .retAddr 240), (.aload_n 0, 0, 0, .null), (.sipush 256, 0, 0, .int 256), (.putfield 630, 1, 63, .retAddr 226), (.aload_n 0, 0, 0, .null), (.sipush 256, 0, 0, .int 256), (.putfield 633, 1, 64, .retAddr 227), (.iconst 1, 0, 0, .int 1), (.istore_n 3, 0, 0, .null), (.iconst 0, 0, 0, .int 0), (.istore 4, 0, 0, .null)]
theorem k_rAssemble_72_ok : fwChain m_rAssemble.1.cls m_rAssemble.2.1 72 k_rAssemble_72 99 = true := by decide +kernel
def k_rAssemble_99 : List fwO := [(.iload 4, 0, 0, .null), (.iload_n 1, 0, 0, .null)]
theorem k_rAssemble_99_ok : fwChain m_rAssemble.1.cls m_rAssemble.2.1 99 k_rAssemble_99 102 = true := by decide +kernel
theorem d_rAssemble_102 : decode m_rAssemble.2.1 102 = .ok (.if_icmp .ge 77, 3) := by decide +kernel
def k_rAssemble_105 : List fwO := [(.iload_n 3, 0, 0, .null)]
theorem k_rAssemble_105_ok : fwChain m_rAssemble.1.cls m_rAssemble.2.1 105 k_rAssemble_105 106 = true := by decide +kernel
theorem d_rAssemble_106 : decode m_rAssemble.2.1 106 = .ok (.ifCond .eq 73, 3) := by decide +kernel
def k_rAssemble_109 : List fwO := [(.aload_n 0, 0, 0, .null), (.getfield 605, 1, 68, .retAddr 231)]
theorem k_rAssemble_109_ok : fwChain m_rAssemble.1.cls m_rAssemble.2.1 109 k_rAssemble_109 113 = true := by decide +kernel
theorem d_rAssemble_113 : decode m_rAssemble.2.1 113 = .ok (.ifCond .ge 66, 3) := by decide +kernel
def k_rAssemble_116 : List fwO := [(.aload_n 0, 0, 0, .null), (.iload 4, 0, 0, .null), (.putfield 602, 1, 66, .retAddr 229)]
theorem k_rAssemble_116_ok : fwChain m_rAssemble.1.cls m_rAssemble.2.1 116 k_rAssemble_116 122 = true := by decide +kernel
def k_rAssemble_122 : List fwO := [(.aload_n 0, 0, 0, .null), (.getfield 602, 1, 66, .retAddr 229), (.iload_n 1, 0, 0, .null)]
theorem k_rAssemble_122_ok : fwChain m_rAssemble.1.cls m_rAssemble.2.1 122 k_rAssemble_122 127 = true := by decide +kernel
theorem d_rAssemble_127 : decode m_rAssemble.2.1 127 = .ok (.if_icmp .ge 30, 3) := by decide +kernel
def k_rAssemble_130 : List fwO := [(.aload_n 0, 0, 0, .null), (.getfield 18, 1, 2, .retAddr 165), (.aload_n 0, 0, 0, .null), (.getfield 602, 1, 66, .retAddr 229), (.baload, 0, 0, .null), (.bipush 10, 0, 0, .int 10)]
theorem k_rAssemble_130_ok : fwChain m_rAssemble.1.cls m_rAssemble.2.1 130 k_rAssemble_130 141 = true := by decide +kernel
theorem d_rAssemble_141 : decode m_rAssemble.2.1 141 = .ok (.if_icmp .eq 16, 3) := by decide +kernel
def k_rAssemble_144 : List fwO := [(.aload_n 0, 0, 0, .null), (.dup, 0, 0, .null), (.getfield 602, 1, 66, .retAddr 229), (.iconst 1, 0, 0, .int 1), (.iadd, 0, 0, .null), (.putfield 602, 1, 66, .retAddr 229)]
theorem k_rAssemble_144_ok : fwChain m_rAssemble.1.cls m_rAssemble.2.1 144 k_rAssemble_144 154 = true := by decide +kernel
theorem d_rAssemble_154 : decode m_rAssemble.2.1 154 = .ok (.goto (-32), 3) := by decide +kernel
def k_rAssemble_157 : List fwO := [(.aload_n 0, 0, 0, .null), (.iload 4, 0, 0, .null), (.putfield 599, 1, 65, .retAddr 228), (.aload_n 0, 0, 0, .null)]
theorem k_rAssemble_157_ok : fwChain m_rAssemble.1.cls m_rAssemble.2.1 157 k_rAssemble_157 164 = true := by decide +kernel
theorem d_rAssemble_164 : decode m_rAssemble.2.1 164 = .ok (.invokevirtual 636, 3) := by decide +kernel
def k_rAssemble_167 : List fwO := [(.istore_n 3, 0, 0, .null), (.aload_n 0, 0, 0, .null), (.getfield 602, 1, 66, .retAddr 229), (.iconst 1, 0, 0, .int 1), (.iadd, 0, 0, .null), (.istore 4, 0, 0, .null)]
theorem k_rAssemble_167_ok : fwChain m_rAssemble.1.cls m_rAssemble.2.1 167 k_rAssemble_167 176 = true := by decide +kernel
theorem d_rAssemble_176 : decode m_rAssemble.2.1 176 = .ok (.goto (-77), 3) := by decide +kernel
def k_rAssemble_179 : List fwO := [(.iinc 2 1, 0, 0, .int 1)]
theorem k_rAssemble_179_ok : fwChain m_rAssemble.1.cls m_rAssemble.2.1 179 k_rAssemble_179 182 = true := by decide +kernel
theorem d_rAssemble_182 : decode m_rAssemble.2.1 182 = .ok (.goto (-133), 3) := by decide +kernel
def k_rAssemble_185 : List fwO := [(.aload_n 0, 0, 0, .null), (.iconst 0, 0, 0, .int 0), (.putfield 129, 1, 11, .retAddr 174), (.aload_n 0, 0, 0, .null), (.getfield 605, 1, 68, .retAddr 231)]
theorem k_rAssemble_185_ok : fwChain m_rAssemble.1.cls m_rAssemble.2.1 185 k_rAssemble_185 194 = true := by decide +kernel
theorem d_rAssemble_194 : decode m_rAssemble.2.1 194 = .ok (.ifCond .lt 10, 3) := by decide +kernel
def k_rAssemble_197 : List fwO := [(.iconst (-1), 0, 0, .int (-1)), (.aload_n 0, 0, 0, .null), (.getfield 605, 1, 68, .retAddr 231), (.isub, 0, 0, .null)]
theorem k_rAssemble_197_ok : fwChain m_rAssemble.1.cls m_rAssemble.2.1 197 k_rAssemble_197 203 = true := by decide +kernel
theorem d_rAssemble_203 : decode m_rAssemble.2.1 203 = .ok (.ireturn, 1) := by decide +kernel
def k_rAssemble_204 : List fwO := [(.aload_n 0, 0, 0, .null), (.aload_n 0, 0, 0, .null), (.getfield 633, 1, 64, .retAddr 227), (.sipush 256, 0, 0, .int 256), (.isub, 0, 0, .null), (.putfield 129, 1, 11, .retAddr 174), (.aload_n 0, 0, 0, .null), (.getfield 129, 1, 11, .retAddr 174)]
theorem k_rAssemble_204_ok : fwChain m_rAssemble.1.cls m_rAssemble.2.1 204 k_rAssemble_204 220 = true := by decide +kernel
theorem d_rAssemble_220 : decode m_rAssemble.2.1 220 = .ok (.ireturn, 1) := by decide +kernel
theorem c_rAssemble_164 : ∀ w ∈ ([(Cond.methodLink "MonitorBoardModel" (636 : Nat) ({ cls := "MonitorBoardModel", name := "statement", desc := "()Z" } : MethodName)), (Cond.instanceMethod ({ cls := "MonitorBoardModel", name := "statement", desc := "()Z" } : MethodName)), (Cond.selects "MonitorBoardModel" ({ cls := "MonitorBoardModel", name := "statement", desc := "()Z" } : MethodName) ({ cls := "MonitorBoardModel", name := "statement", desc := "()Z" } : MethodName)), (Cond.initialized "MonitorBoardModel")] : List Cond), w ∈ fwT := fwT_all [2685, 2687, 244, 298] (by decide +kernel) (by decide +kernel)
section REF
variable {l : Launch} {Z : fwZ} {re : List fwE} {σ : fwS}
theorem ra_1 {Post : fwPost} (k : ∀ σ' : fwS, σ'.1 37 68 = -1 → fwG l Z m_rAssemble 1 0 0 Post 0 0 47 [some (.ref 37), some (.int 0), some (.int (nI 60000)), none, none] [] (shMd re) σ') : ∀ (q i : Nat) (σ : fwS), i + q = 60000 → σ.1 37 68 = -1 → fwG l Z m_rAssemble 1 0 0 Post 0 0 27 [some (.ref 37), some (.int 0), some (.int (nI i)), none, none] [] (shMd re) σ := by
  intro q
  induction q with
  | zero =>
    intro i σ hi h
    obtain rfl : i = 60000 := by omega
    refine fwRun_ok k_rAssemble_27_ok rfl trivial ?_
    refine fwg_ldcw (v := 60000) (List.mem_of_getElem? (i := 53) rfl) d_rAssemble_28 ?_
    exact fwg_cmp 47 d_rAssemble_31 (by decide) (fun _ => k σ h) (fun h => absurd (show (60000 : Int32) ≤ nI 60000 by decide) h)
  | succ q ih =>
    intro i σ hi h
    refine fwRun_ok k_rAssemble_27_ok rfl trivial ?_
    refine fwg_ldcw (v := 60000) (List.mem_of_getElem? (i := 53) rfl) d_rAssemble_28 ?_
    refine fwg_cmp 47 d_rAssemble_31 (by decide) (fun h => absurd (show nI 60000 ≤ nI i from h) (nI_ge (by omega) (by decide))) (fun _ => ?_)
    refine fwRun_ok k_rAssemble_34_ok rfl (vp_in_nI (by omega) (by decide)) ?_
    refine fwg_goto 27 d_rAssemble_44 (by decide) ?_
    refine fw_cut (fun s => s.1 37 68 = -1) ?_ (fun s hs => ?_)
    · show (fwI _ 43 _ _).1 37 68 = _
      rw [fwI_ne (by decide)]
      exact h
    · have := ih (i + 1) s (by omega) hs
      rw [← nI_1] at this
      exact this
theorem ra_pass {b r : Int32} {l3 l4 : Option Value} {Post : fwPost} (hb : b = 0 ∨ b = 1) (h : σ.1 37 68 = -1) (k : ∀ σ' : fwS, σ'.1 37 68 = -1 → σ'.1 37 64 = 256 → fwG l Z m_rAssemble 1 0 0 Post 0 0 49 [some (.ref 37), some (.int 0), some (.int (r + 1)), some (.int 1), some (.int 0)] [] (shMd re) σ') : fwG l Z m_rAssemble 1 0 0 Post 0 0 72 [some (.ref 37), some (.int 0), some (.int r), l3, l4] [.int b, .ref 37] (shMd re) σ := by
  refine fwRun_ok k_rAssemble_72_ok rfl hb ?_
  refine fw_cut (fun s => s.1 37 68 = -1 ∧ s.1 37 64 = 256) ⟨?_, ?_⟩ (fun s hs => ?_)
  · show (fwI (fwI (fwI (fwI σ 37 69 b) 37 77 0) 37 63 256) 37 64 256).1 37 68 = _
    rw [fwI_ne2 (by decide), fwI_ne2 (by decide), fwI_ne2 (by decide), fwI_ne2 (by decide)]
    exact h
  · show (fwI (fwI (fwI (fwI σ 37 69 b) 37 77 0) 37 63 256) 37 64 256).1 37 64 = _
    rw [fwI_eq]
  refine fwRun_ok k_rAssemble_99_ok rfl trivial ?_
  refine fwg_cmp 179 d_rAssemble_102 (by decide) (fun _ => ?_) (fun q => absurd (show (0 : Int32) ≤ 0 by decide) q)
  refine fwRun_ok k_rAssemble_179_ok rfl trivial ?_
  refine fwg_goto 49 d_rAssemble_182 (by decide) ?_
  exact k s hs.1 hs.2
theorem ct_rAssemble (hF : FreM σ) : fwC l Z m_rAssemble 1 0 0 [.ref 37] (shMd re) σ (fun w sh' _ => w = some (.int 0) ∧ sh' = shMd re) := by
  refine fwC_of (ls := [some (.ref 37), none, none, none, none]) (by decide +kernel) rfl (by rw [fw_sl1]; exact Nat.le_of_ble_eq_true rfl) ?_
  have h6 : σ.1 37 6 = 0 := hF.1.1
  refine fwRun_ok k_rAssemble_0_ok rfl trivial ?_
  show fwG l Z m_rAssemble _ _ _ _ _ _ 27 [some (.ref 37), some (.int (σ.1 37 6)), some (.int 0), none, none] [] _ (fwI (fwI (fwI (fwI σ 37 6 0) 37 67 (σ.1 37 6)) 37 62 0) 37 68 (-1))
  rw [h6]
  refine ra_1 (fun σ1 h1 => ?_) 60000 0 _ rfl fwI_eq
  refine fwRun_ok k_rAssemble_47_ok rfl trivial ?_
  refine fwRun_ok k_rAssemble_49_ok rfl trivial ?_
  refine fwg_cmp 185 d_rAssemble_51 (by decide) (fun q => absurd (show (2 : Int32) ≤ 0 from q) (by decide)) (fun _ => ?_)
  refine fwRun_ok k_rAssemble_54_ok rfl trivial ?_
  refine fwg_if 185 d_rAssemble_58 (by decide) (fun q => absurd (show (0 : Int32) ≤ σ1.1 37 68 from q) (by rw [h1]; decide)) (fun _ => ?_)
  refine fwRun_ok k_rAssemble_61_ok rfl trivial ?_
  refine fwg_cmp 71 d_rAssemble_64 (by decide) (fun _ => ?_) (fun q => absurd (show ¬ (0 : Int32) = 1 by decide) q)
  refine fwRun_ok k_rAssemble_71_ok rfl trivial ?_
  refine ra_pass (Or.inl rfl) h1 (fun σ2 h2 g2 => ?_)
  refine fwRun_ok k_rAssemble_49_ok rfl trivial ?_
  refine fwg_cmp 185 d_rAssemble_51 (by decide) (fun q => absurd (show (2 : Int32) ≤ 0 + 1 from q) (by decide)) (fun _ => ?_)
  refine fwRun_ok k_rAssemble_54_ok rfl trivial ?_
  refine fwg_if 185 d_rAssemble_58 (by decide) (fun q => absurd (show (0 : Int32) ≤ σ2.1 37 68 from q) (by rw [h2]; decide)) (fun _ => ?_)
  refine fwRun_ok k_rAssemble_61_ok rfl trivial ?_
  refine fwg_cmp 71 d_rAssemble_64 (by decide) (fun q => absurd (show (0 : Int32) + 1 = 1 by decide) q) (fun _ => ?_)
  refine fwRun_ok k_rAssemble_67_ok rfl trivial ?_
  refine fwg_goto 72 d_rAssemble_68 (by decide) ?_
  refine ra_pass (Or.inr rfl) h2 (fun σ3 h3 g3 => ?_)
  refine fwRun_ok k_rAssemble_49_ok rfl trivial ?_
  refine fwg_cmp 185 d_rAssemble_51 (by decide) (fun _ => ?_) (fun q => absurd (show (2 : Int32) ≤ 0 + 1 + 1 by decide) q)
  refine fwRun_ok k_rAssemble_185_ok rfl trivial ?_
  refine fwg_if 204 d_rAssemble_194 (by decide) (fun _ => ?_) (fun q => absurd (show (fwI σ3 37 11 0).1 37 68 < 0 by rw [fwI_ne2 (by decide), h3]; decide) q)
  refine fwRun_ok k_rAssemble_204_ok rfl trivial ?_
  refine fwg_iret rfl (Nat.le_refl _) (Nat.le_refl _) ⟨?_, rfl⟩ d_rAssemble_220
  show some (Value.int ((fwI (fwI σ3 37 11 0) 37 11 ((fwI σ3 37 11 0).1 37 64 - 256)).1 37 11)) = _
  rw [fwI_eq, fwI_ne2 (by decide), g3]
  rfl
end REF
