/-! the reference's calls on a new object -/
section REF
variable {l : Launch} {Z : fwZ} {re : List fwE} {σ : fwS}
theorem ct_rStates (hF : FreM σ) : fwC l Z m_rStates 1 0 0 [.ref 37] (shMd re) σ (fun w sh' _ => w = some (.long 0) ∧ sh' = shMd re) := by
  refine fwC_of (ls := [some (.ref 37)]) (by decide +kernel) rfl (by rw [fw_sl1]; exact Nat.le_refl 1) ?_
  refine fwRun_ok k_rStates_0_ok rfl trivial ?_
  refine fwg_lret rfl (Nat.le_refl _) (Nat.le_refl _) ⟨?_, rfl⟩ d_rStates_4
  obtain ⟨⟨-, -, -, -, -, -, -, -, -, -, -, -, -, -, -, h⟩, -⟩ := hF
  show some (Value.long (σ.2 37 16)) = _
  rw [h]
theorem ct_rEnd {n : Int32} (hF : FreM σ) : fwC l Z m_rEnd 1 0 0 [.ref 37, .int n] (shMd re) σ (fun w sh' _ => w = some (.int (aEnd n)) ∧ sh' = shMd re) := by
  refine fwC_of (ls := [some (.ref 37), some (.int n)]) (by decide +kernel) rfl (by rw [fw_sl1]; exact Nat.le_refl 2) ?_
  have h6 : σ.1 37 6 = 0 := hF.1.1
  refine fwRun_ok k_rEnd_0_ok rfl trivial ?_
  refine fwg_if 12 d_rEnd_1 (by decide) (fun h => ?_) (fun h => ?_)
  · refine fwRun_ok k_rEnd_12_ok rfl trivial ?_
    exact fwg_zret rfl rfl (Nat.le_refl _) (Nat.le_refl _) ⟨by rw [aEnd, if_pos (Or.inl (show n < 0 from h))], rfl⟩ d_rEnd_13
  · refine fwRun_ok k_rEnd_4_ok rfl trivial ?_
    refine fwg_cmp 14 d_rEnd_9 (by decide) (fun h2 => ?_) (fun h2 => ?_)
    · have h3 : n ≤ σ.1 37 6 := h2
      rw [h6] at h3
      refine fwRun_ok k_rEnd_14_ok rfl trivial ?_
      exact fwg_zret rfl rfl (Nat.le_refl _) (Nat.le_refl _) ⟨by rw [aEnd, if_neg (fun q => q.elim h (fun q => q h3))], rfl⟩ d_rEnd_20
    · have h3 : ¬ n ≤ σ.1 37 6 := h2
      rw [h6] at h3
      refine fwRun_ok k_rEnd_12_ok rfl trivial ?_
      exact fwg_zret rfl rfl (Nat.le_refl _) (Nat.le_refl _) ⟨by rw [aEnd, if_pos (Or.inr h3)], rfl⟩ d_rEnd_13
theorem ct_rKeys (hF : FreM σ) : fwC l Z m_rKeys 1 0 0 [.ref 37] (shMd re) σ (fun w sh' _ => w = some (.int 0) ∧ sh' = shMd re) := by
  refine fwC_of (ls := [some (.ref 37), none]) (by decide +kernel) rfl (by rw [fw_sl1]; exact Nat.le_of_ble_eq_true rfl) ?_
  have h6 : σ.1 37 6 = 0 := hF.1.1
  have h8 : σ.1 37 8 = 0 := hF.1.2.2.1
  refine fwRun_ok k_rKeys_0_ok rfl trivial ?_
  refine fwg_cmp 17 d_rKeys_12 (by decide) (fun _ => ?_) (fun q => absurd (show σ.1 37 8 + σ.1 37 6 ≤ 2000 by rw [h6, h8]; decide) q)
  refine fwRun_ok k_rKeys_17_ok rfl trivial ?_
  refine fwRun_ok k_rKeys_19_ok rfl trivial ?_
  refine fwg_cmp 59 d_rKeys_24 (by decide) (fun _ => ?_) (fun q => absurd (show σ.1 37 6 ≤ 0 by rw [h6]; decide) q)
  refine fwRun_ok k_rKeys_59_ok rfl trivial ?_
  refine fwg_iret rfl (Nat.le_refl _) (Nat.le_refl _) ⟨?_, rfl⟩ d_rKeys_81
  show some (Value.int ((fwI (fwI σ 37 8 (σ.1 37 8 + σ.1 37 6)) 37 6 0).1 37 8)) = _
  rw [fwI_ne2 (by decide), fwI_eq, h6, h8]
  rfl
theorem ct_rBoot (hF : FreM σ) : fwC l Z m_rBoot 8 0 0 [.ref 37] (shMd re) σ (fun w sh' _ => w = none ∧ sh' = shMd re) := by
  refine fwC_of (ls := [some (.ref 37)]) (by decide +kernel) rfl (by rw [fw_sl1]; exact Nat.le_refl 1) ?_
  refine fwRun_ok k_rBoot_0_ok rfl trivial ?_
  refine fwg_callV (n := 0) (i := 37) (as := []) (r := []) (ct_rCold (t := 9) hF.1.2.2.2.1 hF.1.2.2.2.2.1 (by decide) hF.2.2.2) ⟨by decide, by decide, by decide +kernel⟩ m_rCold_in c_rBoot_1 rfl rfl rfl rfl (Nat.le_of_ble_eq_true rfl) d_rBoot_1 ⟨Nat.le_refl _, Nat.le_of_ble_eq_true rfl⟩ ⟨Nat.le_refl _, Nat.le_refl _⟩ (fun v sh' σ1 hq => ?_)
  obtain ⟨rfl, rfl, -⟩ := hq
  exact fwg_vret rfl (Nat.le_refl _) (Nat.le_refl _) ⟨rfl, rfl⟩ d_rBoot_4
theorem ct_rJump {x : Int32} : fwC l Z m_rJump 2 0 0 [.ref 37, .int x] (shMd re) σ (fun w sh' _ => w = none ∧ sh' = shMd re) := by
  refine fwC_of (ls := [some (.ref 37), some (.int x)]) (by decide +kernel) rfl (by rw [fw_sl1]; exact Nat.le_refl 2) ?_
  refine fwRun_ok k_rJump_0_ok rfl ⟨Or.inl rfl, Or.inl rfl⟩ ?_
  refine fwg_callV (n := 0) (i := 37) (as := []) (r := []) ct_rForget ⟨by decide, by decide, by decide +kernel⟩ m_rForget_in c_rJump_19 rfl rfl rfl rfl (Nat.le_of_ble_eq_true rfl) d_rJump_19 ⟨Nat.le_refl _, Nat.le_of_ble_eq_true rfl⟩ ⟨Nat.le_refl _, Nat.le_refl _⟩ (fun v sh' σ1 hq => ?_)
  obtain ⟨rfl, rfl, -⟩ := hq
  exact fwg_vret rfl (Nat.le_refl _) (Nat.le_refl _) ⟨rfl, rfl⟩ d_rJump_22
theorem ct_rLoad {x : Int32} (hF : FreM σ) : fwC l Z m_rLoad 2 0 0 [.ref 37, .int x] (shMd re) σ (fun w sh' _ => w = none ∧ sh' = shMd re) := by
  refine fwC_of (ls := [some (.ref 37), some (.int x), none, none]) (by decide +kernel) rfl (by rw [fw_sl1]; exact Nat.le_of_ble_eq_true rfl) ?_
  have h6 : σ.1 37 6 = 0 := hF.1.1
  refine fwRun_ok k_rLoad_0_ok rfl trivial ?_
  refine fwRun_ok k_rLoad_7_ok rfl trivial ?_
  refine fwg_cmp 34 d_rLoad_12 (by decide) (fun _ => ?_) (fun q => absurd (show σ.1 37 6 ≤ 0 by rw [h6]; decide) q)
  refine fwRun_ok k_rLoad_34_ok rfl trivial ?_
  exact fwg_vret rfl (Nat.le_refl _) (Nat.le_refl _) ⟨rfl, rfl⟩ d_rLoad_39
theorem ct_rOut {i : Int32} (hF : FreM σ) : fwC l Z m_rOut 1 0 0 [.ref 37, .int i] (shMd re) σ (fun w sh' _ => w = some (.int (-1)) ∧ sh' = shMd re) := by
  refine fwC_of (ls := [some (.ref 37), some (.int i)]) (by decide +kernel) rfl (by rw [fw_sl1]; exact Nat.le_refl 2) ?_
  have h11 : σ.1 37 11 = 0 := hF.1.2.2.2.2.2.1
  have k25 : fwG l Z m_rOut 1 0 0 (fun w sh' _ => w = some (.int (-1)) ∧ sh' = shMd re) 0 0 25 [some (.ref 37), some (.int i)] [] (shMd re) σ := by
    refine fwRun_ok k_rOut_25_ok rfl trivial ?_
    exact fwg_iret rfl (Nat.le_refl _) (Nat.le_refl _) ⟨rfl, rfl⟩ d_rOut_26
  refine fwRun_ok k_rOut_0_ok rfl trivial ?_
  refine fwg_if 25 d_rOut_1 (by decide) (fun _ => k25) (fun h => ?_)
  refine fwRun_ok k_rOut_4_ok rfl trivial ?_
  refine fwg_cmp 25 d_rOut_9 (by decide) (fun _ => k25) (fun q => absurd (show σ.1 37 11 ≤ i by rw [h11]; exact Int32.not_lt.1 h) q)
theorem ct_rBack (hF : FreM σ) : fwC l Z m_rBack 1 0 0 [.ref 37] (shMd re) σ (fun w sh' _ => w = some (.int 0) ∧ sh' = shMd re) := by
  refine fwC_of (ls := [some (.ref 37), none]) (by decide +kernel) rfl (by rw [fw_sl1]; exact Nat.le_of_ble_eq_true rfl) ?_
  have h11 : σ.1 37 11 = 0 := hF.1.2.2.2.2.2.1
  refine fwRun_ok k_rBack_0_ok rfl trivial ?_
  refine fwg_cmp 18 d_rBack_8 (by decide) (fun q => absurd (show (4000 : Int32) ≤ σ.1 37 11 from q) (by rw [h11]; decide)) (fun _ => ?_)
  refine fwRun_ok k_rBack_11_ok rfl trivial ?_
  refine fwg_goto 21 d_rBack_15 (by decide) ?_
  refine fwRun_ok k_rBack_21_ok rfl trivial ?_
  refine fwRun_ok k_rBack_26_ok rfl trivial ?_
  have e : (fwI σ 37 6 (σ.1 37 11)).1 37 6 = 0 := by rw [fwI_eq]; exact h11
  refine fwg_cmp 52 d_rBack_31 (by decide) (fun _ => ?_) (fun q => absurd (show (fwI σ 37 6 (σ.1 37 11)).1 37 6 ≤ 0 by rw [e]; decide) q)
  refine fwRun_ok k_rBack_52_ok rfl trivial ?_
  refine fwg_iret rfl (Nat.le_refl _) (Nat.le_refl _) ⟨?_, rfl⟩ d_rBack_56
  show some (Value.int ((fwI σ 37 6 (σ.1 37 11)).1 37 6)) = _
  rw [e]
theorem ct_rMemory {a : Int32} (hF : FreM σ) : fwC l Z m_rMemory 1 0 0 [.ref 37, .int a] (shMd re) σ (fun w sh' _ => w = some (.int (aMem a)) ∧ sh' = shMd re) := by
  refine fwC_of (ls := [some (.ref 37), some (.int a)]) (by decide +kernel) rfl (by rw [fw_sl1]; exact Nat.le_refl 2) ?_
  have k23 : (a < 0 ∨ ¬ a < 65536) → fwG l Z m_rMemory 1 0 0 (fun w sh' _ => w = some (.int (aMem a)) ∧ sh' = shMd re) 0 0 23 [some (.ref 37), some (.int a)] [] (shMd re) σ := by
    intro h
    refine fwRun_ok k_rMemory_23_ok rfl trivial ?_
    exact fwg_iret rfl (Nat.le_refl _) (Nat.le_refl _) ⟨by rw [aMem, if_pos h], rfl⟩ d_rMemory_24
  refine fwRun_ok k_rMemory_0_ok rfl trivial ?_
  refine fwg_if 23 d_rMemory_1 (by decide) (fun h => k23 (Or.inl h)) (fun h => ?_)
  refine fwRun_ok k_rMemory_4_ok rfl trivial ?_
  refine fwg_cmp 23 d_rMemory_7 (by decide) (fun h2 => k23 (Or.inr (Int32.not_lt.2 h2))) (fun h2 => ?_)
  clear k23
  have h2' : a < 65536 := Int32.not_le.1 h2
  obtain ⟨j, hj, rfl⟩ := fw_nat (n := 65536) h h2 (by decide) (by decide)
  refine fwRun_ok k_rMemory_10_ok rfl (vp_in_nI hj (by decide)) ?_
  refine fwg_goto 24 d_rMemory_20 (by decide) ?_
  refine fwg_iret rfl (Nat.le_refl _) (Nat.le_refl _) ⟨?_, rfl⟩ d_rMemory_24
  have e : nI j &&& 65535 = nI j := by
    have := pk_andN (n := j) (by omega) 16 (m := 65535) (by decide)
    rw [Nat.mod_eq_of_lt (by omega)] at this
    exact this
  show some (Value.int (σ.1 38 (nI j).toNatClampNeg &&& 255)) = _
  rw [aMem, if_neg (fun q => q.elim h (fun q => q h2')), e, nI_clamp (by omega), hF.2.1 j hj]
end REF
