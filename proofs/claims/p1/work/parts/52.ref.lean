/-! the reference's calls on a new object: register, console, disk, feed -/
section REF
variable {l : Launch} {Z : fwZ} {re : List fwE} {σ : fwS}
theorem ct_rRegister {i : Int32} (hF : FreM σ) : fwC l Z m_rRegister 1 0 0 [.ref 37, .int i] (shMd re) σ (fun w sh' _ => w = some (.int (aReg i)) ∧ sh' = shMd re) := by
  refine fwC_of (ls := [some (.ref 37), some (.int i)]) (by decide +kernel) rfl (by rw [fw_sl1]; exact Nat.le_refl 2) ?_
  refine fwRun_ok k_rRegister_0_ok rfl trivial ?_
  by_cases h : i < 0 ∨ ¬ i ≤ 12
  · have n6 : ¬ i = 6 := fun q => by subst q; revert h; decide
    have n9 : ¬ i = 9 := fun q => by subst q; revert h; decide
    have n12 : ¬ i = 12 := fun q => by subst q; revert h; decide
    have ha : aReg i = -1 := by rw [aReg, if_neg n6, if_neg n9, if_neg n12, if_pos h]
    rw [ha]
    have k95 : fwG l Z m_rRegister 1 0 0 (fun w sh' _ => w = some (.int (-1)) ∧ sh' = shMd re) 0 0 95 [some (.ref 37), some (.int i)] [] (shMd re) σ := by
      refine fwRun_ok k_rRegister_95_ok rfl trivial ?_
      exact fwg_iret rfl (Nat.le_refl _) (Nat.le_refl _) ⟨rfl, rfl⟩ d_rRegister_96
    have z0 : (0 : Int32).toInt = 0 := by decide
    have z12 : (12 : Int32).toInt = 12 := by decide
    have z8 : (8 : Int32).toInt = 8 := by decide
    have hx : i.toInt < 6 ∨ (12 : Int) < i.toInt := by
      rcases h with h | h
      · have := Int32.lt_iff_toInt_lt.1 h
        exact Or.inl (by omega)
      · have := Int32.lt_iff_toInt_lt.1 (Int32.not_le.1 h)
        exact Or.inr (by omega)
    refine fwg_tabOut 76 d_rRegister_1 hx (by decide) ?_
    refine fwRun_ok k_rRegister_76_ok rfl trivial ?_
    refine fwg_if 95 d_rRegister_77 (by decide) (fun _ => k95) (fun h1 => ?_)
    refine fwRun_ok k_rRegister_80_ok rfl trivial ?_
    refine fwg_cmp 95 d_rRegister_83 (by decide) (fun _ => k95) (fun q => absurd (show (8 : Int32) ≤ i from ?_) q)
    rcases h with h | h
    · exact absurd h h1
    · have := Int32.lt_iff_toInt_lt.1 (Int32.not_le.1 h)
      exact Int32.le_iff_toInt_le.2 (by omega)
  · have h1 : ¬ i < 0 := fun q => h (Or.inl q)
    have h2 : i ≤ 12 := Decidable.byContradiction (fun q => h (Or.inr q))
    clear h
    obtain ⟨j, hj, rfl⟩ := nI_of2 (n := 12) (M := 12) (by decide) h1 h2
    obtain ⟨⟨-, -, -, -, -, -, f13, f14, f15, -, -, f21, f22, f23, -, -⟩, -, hr, -⟩ := hF
    have k76 : j < 8 → aReg (nI j) = 0 → fwG l Z m_rRegister 1 0 0 (fun w sh' _ => w = some (.int (aReg (nI j))) ∧ sh' = shMd re) 0 0 76 [some (.ref 37), some (.int (nI j))] [] (shMd re) σ := by
      intro h8 ha
      refine fwRun_ok k_rRegister_76_ok rfl trivial ?_
      refine fwg_if 95 d_rRegister_77 (by decide) (fun q => absurd q h1) (fun _ => ?_)
      refine fwRun_ok k_rRegister_80_ok rfl trivial ?_
      refine fwg_cmp 95 d_rRegister_83 (by decide) (fun q => absurd (show nI 8 ≤ nI j from q) (nI_ge h8 (by decide))) (fun _ => ?_)
      refine fwRun_ok k_rRegister_86_ok rfl (vp_in_nI h8 (by decide)) ?_
      refine fwg_goto 96 d_rRegister_92 (by decide) ?_
      refine fwg_iret rfl (Nat.le_refl _) (Nat.le_refl _) ⟨?_, rfl⟩ d_rRegister_96
      rw [ha]
      show some (Value.int (σ.1 44 (nI j).toNatClampNeg)) = _
      rw [nI_clamp (by omega), hr j h8]
    have hc : j = 0 ∨ j = 1 ∨ j = 2 ∨ j = 3 ∨ j = 4 ∨ j = 5 ∨ j = 6 ∨ j = 7 ∨ j = 8 ∨ j = 9 ∨ j = 10 ∨ j = 11 ∨ j = 12 := by omega
    rcases hc with rfl | rfl | rfl | rfl | rfl | rfl | rfl | rfl | rfl | rfl | rfl | rfl | rfl
    · exact fwg_tabOut 76 d_rRegister_1 (by decide) (by decide) (k76 (by decide) (by decide))
    · exact fwg_tabOut 76 d_rRegister_1 (by decide) (by decide) (k76 (by decide) (by decide))
    · exact fwg_tabOut 76 d_rRegister_1 (by decide) (by decide) (k76 (by decide) (by decide))
    · exact fwg_tabOut 76 d_rRegister_1 (by decide) (by decide) (k76 (by decide) (by decide))
    · exact fwg_tabOut 76 d_rRegister_1 (by decide) (by decide) (k76 (by decide) (by decide))
    · exact fwg_tabOut 76 d_rRegister_1 (by decide) (by decide) (k76 (by decide) (by decide))
    · refine fwg_tabIn 44 d_rRegister_1 (by decide) (by decide) rfl (by decide) ?_
      refine fwRun_ok k_rRegister_44_ok rfl trivial ?_
      exact fwg_iret rfl (Nat.le_refl _) (Nat.le_refl _) ⟨by show some (Value.int (σ.1 37 13 ||| 2)) = _; rw [f13]; rfl, rfl⟩ d_rRegister_50
    · exact fwg_tabIn 76 d_rRegister_1 (by decide) (by decide) rfl (by decide) (k76 (by decide) (by decide))
    · refine fwg_tabIn 51 d_rRegister_1 (by decide) (by decide) rfl (by decide) ?_
      refine fwRun_ok k_rRegister_51_ok rfl trivial ?_
      exact fwg_iret rfl (Nat.le_refl _) (Nat.le_refl _) ⟨by show some (Value.int (σ.1 37 14)) = _; rw [f14]; rfl, rfl⟩ d_rRegister_55
    · refine fwg_tabIn 56 d_rRegister_1 (by decide) (by decide) rfl (by decide) ?_
      refine fwRun_ok k_rRegister_56_ok rfl trivial ?_
      exact fwg_iret rfl (Nat.le_refl _) (Nat.le_refl _) ⟨by show some (Value.int (σ.1 37 15)) = _; rw [f15]; rfl, rfl⟩ d_rRegister_60
    · refine fwg_tabIn 61 d_rRegister_1 (by decide) (by decide) rfl (by decide) ?_
      refine fwRun_ok k_rRegister_61_ok rfl trivial ?_
      exact fwg_iret rfl (Nat.le_refl _) (Nat.le_refl _) ⟨by show some (Value.int (σ.1 37 21)) = _; rw [f21]; rfl, rfl⟩ d_rRegister_65
    · refine fwg_tabIn 66 d_rRegister_1 (by decide) (by decide) rfl (by decide) ?_
      refine fwRun_ok k_rRegister_66_ok rfl trivial ?_
      exact fwg_iret rfl (Nat.le_refl _) (Nat.le_refl _) ⟨by show some (Value.int (σ.1 37 22)) = _; rw [f22]; rfl, rfl⟩ d_rRegister_70
    · refine fwg_tabIn 71 d_rRegister_1 (by decide) (by decide) rfl (by decide) ?_
      refine fwRun_ok k_rRegister_71_ok rfl trivial ?_
      exact fwg_iret rfl (Nat.le_refl _) (Nat.le_refl _) ⟨by show some (Value.int (σ.1 37 23)) = _; rw [f23]; rfl, rfl⟩ d_rRegister_75
theorem rConsole_loop {Post : fwPost} (k : ∀ σ' : fwS, σ'.1 37 11 = nI 9 → fwG l Z m_rConsole 1 0 0 Post 0 0 45 [some (.ref 37), some (.int (nI 9))] [] (shMd re) σ') : ∀ (q i : Nat) (σ : fwS), i + q = 9 → σ.1 37 9 = 0 → σ.1 37 10 = nI 9 → σ.1 37 11 = nI 9 → fwG l Z m_rConsole 1 0 0 Post 0 0 10 [some (.ref 37), some (.int (nI i))] [] (shMd re) σ := by
  intro q
  induction q with
  | zero =>
    intro i σ hi h9 h10 h11
    obtain rfl : i = 9 := by omega
    refine fwRun_ok k_rConsole_10_ok rfl trivial ?_
    exact fwg_cmp 45 d_rConsole_15 (by decide) (fun _ => k σ h11) (fun h => absurd (show σ.1 37 10 ≤ nI 9 by rw [h10]; decide) h)
  | succ q ih =>
    intro i σ hi h9 h10 h11
    refine fwRun_ok k_rConsole_10_ok rfl trivial ?_
    refine fwg_cmp 45 d_rConsole_15 (by decide) (fun h => absurd (show nI 9 ≤ nI i from h10 ▸ h) (nI_ge (by omega) (by decide))) (fun h => ?_)
    have e : σ.1 37 9 + nI i - (σ.1 37 9 + nI i) / 8000 * 8000 = nI i := by
      rw [h9, ← nI_0, nI_add, Nat.zero_add]
      show nI i - nI i / nI 8000 * nI 8000 = nI i
      rw [pk_rem (by omega) (by decide) (by decide), Nat.mod_eq_of_lt (by omega)]
    refine fwRun_ok k_rConsole_18_ok rfl ⟨by decide, by show vp_in (σ.1 37 9 + nI i - (σ.1 37 9 + nI i) / 8000 * 8000) 8000; rw [e]; exact vp_in_nI (by omega) (by decide), vp_in_nI (by omega) (by decide)⟩ ?_
    refine fwg_goto 10 d_rConsole_42 (by decide) ?_
    have := ih (i + 1) (fwI σ 43 (nI i).toNatClampNeg (σ.1 42 (σ.1 37 9 + nI i - (σ.1 37 9 + nI i) / 8000 * 8000).toNatClampNeg).toInt8.toInt32) (by omega) (by rw [fwI_ne (by decide)]; exact h9) (by rw [fwI_ne (by decide)]; exact h10) (by rw [fwI_ne (by decide)]; exact h11)
    rw [← nI_1] at this
    exact this
theorem ct_rConsole (hF : FreM σ) : fwC l Z m_rConsole 1 0 0 [.ref 37] (shMd re) σ (fun w sh' _ => w = some (.int (nI 9)) ∧ sh' = shMd re) := by
  refine fwC_of (ls := [some (.ref 37), none]) (by decide +kernel) rfl (by rw [fw_sl1]; exact Nat.le_of_ble_eq_true rfl) ?_
  refine fwRun_ok k_rConsole_0_ok rfl trivial ?_
  refine rConsole_loop (fun σ' h11 => ?_) 9 0 _ rfl (by show (fwI σ 37 11 (σ.1 37 10)).1 37 9 = 0; rw [fwI_ne2 (by decide)]; exact hF.1.2.2.2.1) (by show (fwI σ 37 11 (σ.1 37 10)).1 37 10 = _; rw [fwI_ne2 (by decide)]; exact hF.1.2.2.2.2.1) (by show (fwI σ 37 11 (σ.1 37 10)).1 37 11 = _; rw [fwI_eq]; exact hF.1.2.2.2.2.1)
  refine fwRun_ok k_rConsole_45_ok rfl trivial ?_
  refine fwg_iret rfl (Nat.le_refl _) (Nat.le_refl _) ⟨?_, rfl⟩ d_rConsole_54
  show some (Value.int ((fwI σ' 37 10 0).1 37 11)) = _
  rw [fwI_ne2 (by decide), h11]
end REF
