/-! the boots -/
/-- a call of one of the class's own methods on cell i -/
theorem fwSame.c {S : List Nat} {σ σ' : fwS} (h : fwSame S σ σ') {a : Nat} (ha : a ∉ S) (b : Nat) : σ'.1 a b = σ.1 a b := by rw [(h a ha).1]
theorem fwSame.c2 {S : List Nat} {σ σ' : fwS} (h : fwSame S σ σ') {a : Nat} (ha : a ∉ S) (b : Nat) : σ'.2 a b = σ.2 a b := by rw [(h a ha).2]
section BOOT
variable {l : Launch} {Z : fwZ} {e0 e1 e2 e3 : fwE} {re : List fwE} {σ : fwS}
/-- at the command line -/
def Cmd (σ σ' : fwS) (t : Nat) : Prop := fwSame [4, 5, 8, 18] σ σ' ∧ (σ'.1 4 3 = 0 ∧ σ'.1 4 4 = nI t ∧ σ'.1 4 5 = σ.1 4 5 ∧ σ'.1 4 6 = σ.1 4 6 ∧ σ'.1 4 7 = 0 ∧ σ'.1 4 8 = 127 ∧ σ'.1 4 9 = 1) ∧ (σ'.1 8 5 = 60419 ∧ (∀ b, b ≠ 5 → σ'.1 8 b = σ.1 8 b) ∧ σ'.2 8 = σ.2 8) ∧ σ'.1 18 8 = 1 ∧ ∀ b, b ≠ 8 → σ'.1 18 b = σ.1 18 b
theorem ct_goCmd {t : Nat} (h3 : σ.1 4 3 = 0) (h4 : σ.1 4 4 = nI t) (ht : t + 4 ≤ 8000) (hh : σ.1 11 11 = 0) (hu : σ.1 11 12 = 0) : fwC l Z m_goCmd 6 0 0 [.ref 18] (shMon e0 e1 e2 e3 re) σ (fun w sh' σ' => w = none ∧ sh' = shMon e0 e1 e2 e3 re ∧ Cmd σ σ' (t + 4)) := by
  refine fwC_of (ls := [some (.ref 18)]) (by decide +kernel) rfl (by rw [fw_sl1]; exact Nat.le_refl 1) ?_
  refine fwRun_ok k_goCmd_0_ok rfl (Or.inr rfl) ?_
  refine fwg_callV (n := 1) (i := 4) (as := [.retAddr 3]) (r := []) (ct_tellLine (c := 3) (t := t) (by decide) h3 h4 (by show t + 2 + 0 ≤ 8000; omega)) ⟨by decide, by decide, by decide +kernel⟩ m_tellLine_in c_goCmd_20 rfl rfl rfl rfl (Nat.le_of_ble_eq_true rfl) d_goCmd_20 ⟨Nat.le_of_ble_eq_true rfl, Nat.le_of_ble_eq_true rfl⟩ ⟨Nat.le_refl _, Nat.le_refl _⟩ (fun v sh' σ1 hq => ?_)
  obtain ⟨rfl, rfl, hT1⟩ := hq
  refine fwRun_ok k_goCmd_23_ok rfl trivial ?_
  refine fwg_callV (n := 1) (i := 4) (as := [.int (65 + σ1.1 11 11)]) (r := []) (ct_tell hT1.2.1 hT1.2.2.1 (by show t + 2 + 0 < 8000; omega)) ⟨by decide, by decide, by decide +kernel⟩ m_tell_in c_goCmd_37 rfl rfl rfl rfl (Nat.le_of_ble_eq_true rfl) d_goCmd_37 ⟨Nat.le_of_ble_eq_true rfl, Nat.le_of_ble_eq_true rfl⟩ ⟨Nat.le_refl _, Nat.le_refl _⟩ (fun v sh' σ2 hq => ?_)
  obtain ⟨rfl, rfl, hT2⟩ := hq
  refine fwRun_ok k_goCmd_40_ok rfl trivial ?_
  have hT := hT1.tr hT2
  refine fwg_if 64 d_goCmd_47 (by decide) (fun h => ?_) (fun h => ?_)
  · refine fwRun_ok k_goCmd_64_ok rfl trivial ?_
    refine fwg_callV (n := 1) (i := 4) (as := [.int 62]) (r := []) (ct_tell hT2.2.1 hT2.2.2.1 (by show t + 2 + 0 + 1 < 8000; omega)) ⟨by decide, by decide, by decide +kernel⟩ m_tell_in c_goCmd_70 rfl rfl rfl rfl (Nat.le_of_ble_eq_true rfl) d_goCmd_70 ⟨Nat.le_of_ble_eq_true rfl, Nat.le_of_ble_eq_true rfl⟩ ⟨Nat.le_refl _, Nat.le_refl _⟩ (fun v sh' σ3 hq => ?_)
    obtain ⟨rfl, rfl, hT3⟩ := hq
    refine fwRun_ok k_goCmd_73_ok rfl trivial ?_
    refine fwg_callV (n := 1) (i := 4) (as := [.int 127]) (r := []) ct_openLine ⟨by decide, by decide, by decide +kernel⟩ m_openLine_in c_goCmd_79 rfl rfl rfl rfl (Nat.le_of_ble_eq_true rfl) d_goCmd_79 ⟨Nat.le_of_ble_eq_true rfl, Nat.le_of_ble_eq_true rfl⟩ ⟨Nat.le_refl _, Nat.le_refl _⟩ (fun v sh' σ4 hq => ?_)
    obtain ⟨rfl, rfl, rfl⟩ := hq
    refine fwg_vret rfl (Nat.le_refl _) (Nat.le_refl _) ⟨rfl, rfl, ?_⟩ d_goCmd_82
    have hT' := hT.tr hT3
    refine ⟨?_, ⟨hT'.2.1, hT'.2.2.1, hT'.2.2.2.1 5 (by decide) (by decide), hT'.2.2.2.1 6 (by decide) (by decide), rfl, rfl, rfl⟩, ⟨?_, fun b hb => ?_, ?_⟩, ?_, fun b hb => ?_⟩
    · refine fwSame.tr (σ1 := fwI (fwI σ 8 5 60419) 18 8 1) ((fwSame_I (by decide)).tr (fwSame_I (by decide))) ((hT'.1.up (by decide)).tr (((fwSame_I (by decide)).tr (fwSame_I (by decide))).tr (fwSame_I (by decide))))
    · exact hT'.1.c (a := 8) (by decide) 5
    · refine (hT'.1.c (a := 8) (by decide) b).trans ?_
      show (fwI (fwI σ 8 5 60419) 18 8 1).1 8 b = _
      rw [fwI_ne (by decide), fwI_ne2 hb]
    · exact (hT'.1 8 (by decide)).2
    · exact hT'.1.c (a := 18) (by decide) 8
    · refine (hT'.1.c (a := 18) (by decide) b).trans ?_
      show (fwI (fwI σ 8 5 60419) 18 8 1).1 18 b = _
      rw [fwI_ne2 hb, fwI_ne (by decide)]
  · refine absurd ?_ h
    show σ2.1 11 12 = 0
    rw [hT.1.c (a := 11) (by decide) 12]
    exact hu
end BOOT
