/-! the reference's calls on a new object: run -/
section REF
variable {l : Launch} {Z : fwZ} {re : List fwE} {σ : fwS}
theorem ct_rReads0 (h8 : σ.1 37 8 = 0) (h35 : σ.1 37 35 = -1) : fwC l Z m_rReads 1 0 0 [.ref 37, .int 127] (shMd re) σ (fun w sh' _ => w = some (.int 0) ∧ sh' = shMd re) := by
  refine fwC_of (ls := [some (.ref 37), some (.int 127), none]) (by decide +kernel) rfl (by rw [fw_sl1]; exact Nat.le_of_ble_eq_true rfl) ?_
  refine fwRun_ok k_rReads_0_ok rfl trivial ?_
  refine fwg_if 12 d_rReads_4 (by decide) (fun q => absurd (show (0 : Int32) ≤ σ.1 37 35 from q) (by rw [h35]; decide)) (fun _ => ?_)
  refine fwRun_ok k_rReads_7_ok rfl trivial ?_
  refine fwRun_ok k_rReads_12_ok rfl trivial ?_
  refine fwg_cmp 176 d_rReads_17 (by decide) (fun q => absurd (show (127 : Int32) ≤ (fwI σ 37 35 0).1 37 35 from q) (by rw [fwI_eq]; decide)) (fun _ => ?_)
  refine fwRun_ok k_rReads_20_ok rfl trivial ?_
  refine fwg_if 29 d_rReads_24 (by decide) (fun q => absurd (show (fwI σ 37 35 0).1 37 8 = 0 by rw [fwI_ne2 (by decide)]; exact h8) q) (fun _ => ?_)
  refine fwRun_ok k_rReads_27_ok rfl trivial ?_
  exact fwg_iret rfl (Nat.le_refl _) (Nat.le_refl _) ⟨rfl, rfl⟩ d_rReads_28
theorem ct_rLine0 (h8 : σ.1 37 8 = 0) (h35 : σ.1 37 35 = -1) : fwC l Z m_rLine 2 0 0 [.ref 37] (shMd re) σ (fun w sh' _ => w = some (.int 0) ∧ sh' = shMd re) := by
  refine fwC_of (ls := [some (.ref 37), none, none]) (by decide +kernel) rfl (by rw [fw_sl1]; exact Nat.le_of_ble_eq_true rfl) ?_
  refine fwRun_ok k_rLine_0_ok rfl trivial ?_
  refine fwg_callV (n := 1) (i := 37) (as := [.int 127]) (r := []) (ct_rReads0 h8 h35) ⟨by decide, by decide, by decide +kernel⟩ m_rReads_in c_rLine_3 rfl rfl rfl rfl (Nat.le_of_ble_eq_true rfl) d_rLine_3 ⟨Nat.le_refl _, Nat.le_of_ble_eq_true rfl⟩ ⟨Nat.le_refl _, Nat.le_refl _⟩ (fun v sh' σ1 hq => ?_)
  obtain ⟨rfl, rfl⟩ := hq
  refine fwRun_ok k_rLine_6_ok rfl trivial ?_
  refine fwg_if 13 d_rLine_8 (by decide) (fun q => absurd rfl q) (fun _ => ?_)
  refine fwRun_ok k_rLine_11_ok rfl trivial ?_
  exact fwg_zret rfl rfl (Nat.le_refl _) (Nat.le_refl _) ⟨rfl, rfl⟩ d_rLine_12
theorem ct_rRun {n : Int32} (hF : FreM σ) : fwC l Z m_rRun 3 0 0 [.ref 37, .int n] (shMd re) σ (fun w sh' _ => w = some (.int (aRun n)) ∧ sh' = shMd re) := by
  refine fwC_of (ls := [some (.ref 37), some (.int n), none, none, none, none, none]) (by decide +kernel) rfl (by rw [fw_sl1]; exact Nat.le_of_ble_eq_true rfl) ?_
  obtain ⟨⟨-, -, f8, -, -, -, -, -, -, f17, f18, -, -, -, f35, fl⟩, -⟩ := hF
  have key : ∀ x : Int32, (x = 0 → aRun n = 0) → (¬ x = 0 → ¬ x < 1 ∧ aRun n = 1) → fwG l Z m_rRun 3 0 0 (fun w sh' _ => w = some (.int (aRun n)) ∧ sh' = shMd re) 0 0 15 [some (.ref 37), some (.int n), none, none, none, none, none] [.int x] (shMd re) σ := by
    intro x h0 h1
    refine fwRun_ok k_rRun_15_ok rfl trivial ?_
    refine fwg_if 41 d_rRun_25 (by decide) (fun h => ?_) (fun h => ?_)
    · obtain ⟨g1, g2⟩ := h1 h
      rw [g2]
      refine fwRun_ok k_rRun_41_ok rfl trivial ?_
      refine fwg_if 212 d_rRun_47 (by decide) (fun q => absurd (show (0 : Int32) ≤ lg_cmp (σ.2 37 16) (σ.2 37 16 + x.toInt64) from q) (by rw [fl]; exact Int32.not_le.2 ((lg_cmp_lt _ _).2 (fw_lpos g1)))) (fun _ => ?_)
      refine fwRun_ok k_rRun_50_ok rfl trivial ?_
      refine fwg_if 59 d_rRun_54 (by decide) (fun _ => ?_) (fun q => absurd f17 q)
      refine fwRun_ok k_rRun_59_ok rfl trivial ?_
      refine fwg_if 75 d_rRun_63 (by decide) (fun q => absurd ((show σ.1 37 18 = 0 from q).symm.trans f18) (by decide)) (fun _ => ?_)
      refine fwRun_ok k_rRun_66_ok rfl trivial ?_
      refine fwg_callV (n := 0) (i := 37) (as := []) (r := []) (ct_rLine0 f8 f35) ⟨by decide, by decide, by decide +kernel⟩ m_rLine_in c_rRun_67 rfl rfl rfl rfl (Nat.le_of_ble_eq_true rfl) d_rRun_67 ⟨Nat.le_refl _, Nat.le_of_ble_eq_true rfl⟩ ⟨Nat.le_refl _, Nat.le_refl _⟩ (fun v sh' σ1 hq => ?_)
      obtain ⟨rfl, rfl⟩ := hq
      refine fwg_if 41 d_rRun_70 (by decide) (fun q => absurd rfl q) (fun _ => ?_)
      refine fwRun_ok k_rRun_73_ok rfl trivial ?_
      exact fwg_iret rfl (Nat.le_refl _) (Nat.le_refl _) ⟨rfl, rfl⟩ d_rRun_74
    · rw [h0 (Decidable.byContradiction h)]
      refine fwRun_ok k_rRun_28_ok rfl trivial ?_
      refine fwg_if 39 d_rRun_32 (by decide) (fun _ => ?_) (fun q => absurd f17 q)
      refine fwRun_ok k_rRun_39_ok rfl trivial ?_
      exact fwg_iret rfl (Nat.le_refl _) (Nat.le_refl _) ⟨rfl, rfl⟩ d_rRun_40
  have k10 : (n < 1 ∨ ¬ n ≤ 200000) → fwG l Z m_rRun 3 0 0 (fun w sh' _ => w = some (.int (aRun n)) ∧ sh' = shMd re) 0 0 10 [some (.ref 37), some (.int n), none, none, none, none, none] [] (shMd re) σ := by
    intro h
    refine fwRun_ok k_rRun_10_ok rfl trivial ?_
    refine fwg_goto 15 d_rRun_11 (by decide) ?_
    exact key 0 (fun _ => by rw [aRun, if_pos h]) (fun q => absurd rfl q)
  refine fwRun_ok k_rRun_0_ok rfl trivial ?_
  refine fwg_if 10 d_rRun_1 (by decide) (fun h => k10 (Or.inl (Int32.lt_trans h (by decide)))) (fun h => ?_)
  refine fwRun_ok k_rRun_4_ok rfl trivial ?_
  refine fwg_cmp 14 d_rRun_7 (by decide) (fun h2 => ?_) (fun h2 => k10 (Or.inr h2))
  refine fwRun_ok k_rRun_14_ok rfl trivial ?_
  refine key n (fun q => ?_) (fun q => ?_)
  · subst q
    rfl
  · have g : ¬ n < 1 := fun r => by
      have r1 := Int32.lt_iff_toInt_lt.1 r
      have r2 : (0 : Int32).toInt ≤ n.toInt := Int.not_lt.1 (fun z => h (Int32.lt_iff_toInt_lt.2 z))
      have r3 : (1 : Int32).toInt = 1 := by decide
      have r4 : (0 : Int32).toInt = 0 := by decide
      exact q (Int32.toInt_inj.1 (by omega))
    exact ⟨g, by rw [aRun, if_neg (fun z => z.elim g (fun z => z h2))]⟩
end REF
