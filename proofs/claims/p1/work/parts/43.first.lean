/-! the class's calls on a new object: run, disk, assemble -/
section FST
variable {l : Launch} {Z : fwZ} {e0 e1 e2 e3 : fwE} {re : List fwE} {σ : fwS}
theorem fw_nat {x c : Int32} {n : Nat} (h0 : ¬ x < 0) (h : ¬ c ≤ x) (hc : c.toInt = n) (hn : n < 2 ^ 31) : ∃ j : Nat, j < n ∧ x = nI j := by
  refine vp_in_of (vp_in_iff.2 ⟨?_, ?_⟩) hn
  · have h1 : (0 : Int32).toInt ≤ x.toInt := Int.not_lt.1 (fun q => h0 (Int32.lt_iff_toInt_lt.2 q))
    exact h1
  · rw [← hc]
    exact Int.not_le.1 (fun q => h (Int32.le_iff_toInt_le.2 q))
theorem fw_lpos {n : Int32} (h : ¬ n < 1) : (0 : Int64) < 0 + n.toInt64 := by
  have h1 : (1 : Int32).toInt ≤ n.toInt := Int.not_lt.1 (fun q => h (Int32.lt_iff_toInt_lt.2 q))
  rw [Int64.zero_add]
  refine Int64.lt_iff_toInt_lt.2 ?_
  rw [Int32.toInt_toInt64]
  have h2 : (1 : Int32).toInt = 1 := by decide
  have h3 : (0 : Int64).toInt = 0 := by decide
  omega
theorem ct_run {n : Int32} (hF : Fre σ) : fwC l Z m_run 3 0 0 [.ref 0, .int n] (shMB re) σ (fun w sh' σ' => w = some (.int (aRun n)) ∧ sh' = shMB re ∧ Up σ σ') := by
  refine fwC_of (ls := [some (.ref 0), some (.int n), none, none, none]) (by decide +kernel) rfl (by rw [fw_sl1]; exact Nat.le_of_ble_eq_true rfl) ?_
  have h7 : σ.1 8 7 = 0 := hF.2.2.1.2.2.2.1
  have hl : σ.2 8 6 = 0 := hF.2.2.1.2.2.2.2
  have k11 : (n < 1 ∨ ¬ n ≤ 200000) → fwG l Z m_run 3 0 0 (fun w sh' σ' => w = some (.int (aRun n)) ∧ sh' = shMB re ∧ Up σ σ') 0 0 11 [some (.ref 0), some (.int n), none, none, none] [] (shMB re) σ := by
    intro h
    refine fwRun_ok k_run_11_ok rfl trivial ?_
    refine fwg_if 25 d_run_18 (by decide) (fun _ => ?_) (fun q => absurd h7 q)
    refine fwRun_ok k_run_25_ok rfl trivial ?_
    exact fwg_iret rfl (Nat.le_refl _) (Nat.le_refl _) ⟨by rw [aRun, if_pos h], rfl, fwSame.rf⟩ d_run_26
  refine fwRun_ok k_run_0_ok rfl trivial ?_
  refine fwg_cmp 11 d_run_2 (by decide) (fun h => k11 (Or.inl h)) (fun h => ?_)
  refine fwRun_ok k_run_5_ok rfl trivial ?_
  refine fwg_cmp 27 d_run_8 (by decide) (fun h2 => ?_) (fun h2 => k11 (Or.inr h2))
  refine fwRun_ok k_run_27_ok rfl trivial ?_
  refine fwRun_ok k_run_41_ok rfl trivial ?_
  refine fwg_cmp 134 d_run_45 (by decide) (fun q => absurd (show (1000000 : Int32) ≤ 0 from q) (by decide)) (fun _ => ?_)
  refine fwRun_ok k_run_48_ok rfl trivial ?_
  refine fwg_if 60 d_run_55 (by decide) (fun _ => ?_) (fun q => absurd h7 q)
  refine fwRun_ok k_run_60_ok rfl trivial ?_
  refine fwg_if 74 d_run_69 (by decide) (fun _ => ?_) (fun q => absurd (show lg_cmp (σ.2 8 6) (σ.2 8 6 + n.toInt64) < 0 by rw [hl]; exact (lg_cmp_lt _ _).2 (fw_lpos h)) q)
  refine fwRun_ok k_run_74_ok rfl trivial ?_
  refine fwg_if 96 d_run_81 (by decide) (fun q => absurd ((show σ.1 17 7 = 0 from q).symm.trans hF.2.2.2.2.2.2.1.1) (by decide)) (fun _ => ?_)
  refine fwRun_ok k_run_84_ok rfl trivial ?_
  refine fwg_callV (n := 0) (i := 18) (as := []) (r := []) (ct_goOn0 hF.2.1.2.2.2.1) ⟨by decide, by decide, by decide +kernel⟩ m_goOn_in c_run_88 rfl rfl rfl rfl (Nat.le_of_ble_eq_true rfl) d_run_88 ⟨Nat.le_refl _, Nat.le_of_ble_eq_true rfl⟩ ⟨Nat.le_refl _, Nat.le_refl _⟩ (fun v sh' σ1 hq => ?_)
  obtain ⟨rfl, rfl, rfl⟩ := hq
  refine fwg_if 128 d_run_91 (by decide) (fun q => absurd rfl q) (fun _ => ?_)
  refine fwRun_ok k_run_94_ok rfl trivial ?_
  exact fwg_iret rfl (Nat.le_refl _) (Nat.le_refl _) ⟨by rw [aRun, if_neg (fun q => q.elim h (fun q => q h2))], rfl, fwSame.rf⟩ d_run_95
theorem tr_pass {b p : Int32} {l3 : Option Value} {Post : fwPost} (hb : b = 0 ∨ b = 1) (h9 : σ.1 30 9 = 0) (h11 : σ.1 30 11 = -1) (k : ∀ σ', fwSame [30] σ σ' → σ'.1 30 9 = 0 → σ'.1 30 11 = -1 → σ'.1 30 13 = 256 → fwG l Z m_translate 2 0 0 Post 0 0 25 [some (.ref 30), some (.int 0), some (.int (p + 1)), some (.int 0)] [] (shMB re) σ') : fwG l Z m_translate 2 0 0 Post 0 0 49 [some (.ref 30), some (.int 0), some (.int p), l3] [.int b, .ref 30] (shMB re) σ := by
  refine fwRun_ok k_translate_49_ok rfl ⟨hb, Or.inl rfl⟩ ?_
  generalize hs : fwI (fwI (fwI (fwI (fwI σ 30 16 b) 30 10 0) 30 12 256) 30 13 256) 30 17 0 = σ1
  have q9 : σ1.1 30 9 = 0 := by rw [← hs, fwI_ne2 (by decide), fwI_ne2 (by decide), fwI_ne2 (by decide), fwI_ne2 (by decide), fwI_ne2 (by decide)]; exact h9
  have q11 : σ1.1 30 11 = -1 := by rw [← hs, fwI_ne2 (by decide), fwI_ne2 (by decide), fwI_ne2 (by decide), fwI_ne2 (by decide), fwI_ne2 (by decide)]; exact h11
  have q10 : σ1.1 30 10 = 0 := by rw [← hs, fwI_ne2 (by decide), fwI_ne2 (by decide), fwI_ne2 (by decide), fwI_eq]
  have q13 : σ1.1 30 13 = 256 := by rw [← hs, fwI_ne2 (by decide), fwI_eq]
  have hS : fwSame [30] σ σ1 := by
    rw [← hs]
    exact ((((fwSame_I (by decide)).tr (fwSame_I (by decide))).tr (fwSame_I (by decide))).tr (fwSame_I (by decide))).tr (fwSame_I (by decide))
  clear hs
  refine fwRun_ok k_translate_78_ok rfl trivial ?_
  refine fwg_cmp 129 d_translate_82 (by decide) (fun q => absurd (show (4000 : Int32) < 0 from q) (by decide)) (fun _ => ?_)
  refine fwRun_ok k_translate_85_ok rfl trivial ?_
  refine fwg_cmp 129 d_translate_93 (by decide) (fun _ => ?_) (fun q => absurd (show σ1.1 30 9 ≤ σ1.1 30 10 by rw [q9, q10]; decide) q)
  refine fwRun_ok k_translate_129_ok rfl trivial ?_
  refine fwg_goto 25 d_translate_132 (by decide) ?_
  exact k σ1 hS q9 q11 q13
theorem ct_translate0 : fwC l Z m_translate 2 0 0 [.ref 30, .int 0] (shMB re) σ (fun w sh' σ' => w = some (.int 0) ∧ sh' = shMB re ∧ fwSame [30] σ σ') := by
  refine fwC_of (ls := [some (.ref 30), some (.int 0), none, none]) (by decide +kernel) rfl (by rw [fw_sl1]; exact Nat.le_of_ble_eq_true rfl) ?_
  refine fwRun_ok k_translate_0_ok rfl trivial ?_
  refine fwg_callS (n := 2) (as := [.int 0, .int (nI 4000)]) (r := [.ref 30]) (ct_mmin _ _) ⟨by decide, by decide, by decide +kernel⟩ m_mmin_in c_translate_7 rfl rfl (Nat.le_of_ble_eq_true rfl) d_translate_7 ⟨Nat.le_refl _, Nat.le_of_ble_eq_true rfl⟩ ⟨Nat.le_refl _, Nat.le_refl _⟩ (fun v sh' σ1 hq => ?_)
  obtain ⟨rfl, rfl, rfl⟩ := hq
  rw [if_neg (show ¬ nI 4000 < 0 by decide)]
  refine fwRun_ok k_translate_10_ok rfl trivial ?_
  generalize hs : fwI (fwI (fwI σ1 30 9 0) 30 7 0) 30 11 (-1) = σ2
  have q9 : σ2.1 30 9 = 0 := by rw [← hs, fwI_ne2 (by decide), fwI_ne2 (by decide), fwI_eq]
  have q11 : σ2.1 30 11 = -1 := by rw [← hs, fwI_eq]
  have hS : fwSame [30] σ1 σ2 := by
    rw [← hs]
    exact ((fwSame_I (by decide)).tr (fwSame_I (by decide))).tr (fwSame_I (by decide))
  clear hs
  refine fwRun_ok k_translate_25_ok rfl trivial ?_
  refine fwg_cmp 135 d_translate_27 (by decide) (fun q => absurd (show (2 : Int32) < 1 from q) (by decide)) (fun _ => ?_)
  refine fwRun_ok k_translate_30_ok rfl trivial ?_
  refine fwg_cmp 135 d_translate_35 (by decide) (fun q => absurd q11 q) (fun _ => ?_)
  refine fwRun_ok k_translate_38_ok rfl trivial ?_
  refine fwg_cmp 48 d_translate_41 (by decide) (fun _ => ?_) (fun q => absurd (show ¬ (1 : Int32) = 2 by decide) q)
  refine fwRun_ok k_translate_48_ok rfl trivial ?_
  refine tr_pass (Or.inl rfl) q9 q11 (fun σ3 s3 r9 r11 r13 => ?_)
  refine fwRun_ok k_translate_25_ok rfl trivial ?_
  refine fwg_cmp 135 d_translate_27 (by decide) (fun q => absurd (show (2 : Int32) < 1 + 1 from q) (by decide)) (fun _ => ?_)
  refine fwRun_ok k_translate_30_ok rfl trivial ?_
  refine fwg_cmp 135 d_translate_35 (by decide) (fun q => absurd r11 q) (fun _ => ?_)
  refine fwRun_ok k_translate_38_ok rfl trivial ?_
  refine fwg_cmp 48 d_translate_41 (by decide) (fun q => absurd (show (1 : Int32) + 1 = 2 by decide) q) (fun _ => ?_)
  refine fwRun_ok k_translate_44_ok rfl trivial ?_
  refine fwg_goto 49 d_translate_45 (by decide) ?_
  refine tr_pass (Or.inr rfl) r9 r11 (fun σ4 s4 t9 t11 t13 => ?_)
  refine fwRun_ok k_translate_25_ok rfl trivial ?_
  refine fwg_cmp 135 d_translate_27 (by decide) (fun _ => ?_) (fun q => absurd (show (2 : Int32) < 1 + 1 + 1 by decide) q)
  refine fwRun_ok k_translate_135_ok rfl trivial ?_
  refine fwg_cmp 154 d_translate_140 (by decide) (fun q => absurd t11 q) (fun _ => ?_)
  refine fwRun_ok k_translate_143_ok rfl trivial ?_
  refine fwg_goto 160 d_translate_151 (by decide) ?_
  refine fwg_iret rfl (Nat.le_refl _) (Nat.le_refl _) ⟨?_, rfl, (hS.tr s3).tr s4⟩ d_translate_160
  show some (Value.int (σ4.1 30 13 - 256)) = _
  rw [t13]
  rfl
theorem ct_assemble (hF : Fre σ) : fwC l Z m_assemble 3 0 0 [.ref 0] (shMB re) σ (fun w sh' σ' => w = some (.int 0) ∧ sh' = shMB re ∧ Up σ σ') := by
  refine fwC_of (ls := [some (.ref 0), none]) (by decide +kernel) rfl (by rw [fw_sl1]; exact Nat.le_of_ble_eq_true rfl) ?_
  refine fwRun_ok k_assemble_0_ok rfl trivial ?_
  have h0 : σ.1 0 10 = 0 := hF.1.1
  show fwG l Z m_assemble _ _ _ _ _ _ 8 _ [.int (σ.1 0 10), .ref 30] _ _
  rw [h0]
  refine fwg_callV (n := 1) (i := 30) (as := [.int 0]) (r := []) ct_translate0 ⟨by decide, by decide, by decide +kernel⟩ m_translate_in c_assemble_8 rfl rfl rfl rfl (Nat.le_of_ble_eq_true rfl) d_assemble_8 ⟨Nat.le_refl _, Nat.le_of_ble_eq_true rfl⟩ ⟨Nat.le_refl _, Nat.le_refl _⟩ (fun v sh' σ1 hq => ?_)
  obtain ⟨rfl, rfl, s1⟩ := hq
  refine fwRun_ok k_assemble_11_ok rfl trivial ?_
  refine fwg_callS (n := 2) (as := [.int 0, .int 0]) (r := [.ref 0]) (ct_mmax _ _) ⟨by decide, by decide, by decide +kernel⟩ m_mmax_in c_assemble_20 rfl rfl (Nat.le_of_ble_eq_true rfl) d_assemble_20 ⟨Nat.le_of_ble_eq_true rfl, Nat.le_of_ble_eq_true rfl⟩ ⟨Nat.le_refl _, Nat.le_refl _⟩ (fun v sh' σ2 hq => ?_)
  obtain ⟨rfl, rfl, rfl⟩ := hq
  refine fwRun_ok k_assemble_23_ok rfl trivial ?_
  exact fwg_iret rfl (Nat.le_refl _) (Nat.le_refl _) ⟨rfl, rfl, ((s1.up (by decide)).tr (fwSame_I (by decide))).tr (fwSame_I (by decide))⟩ d_assemble_27
theorem ct_disk {dr t s k m : Int32} (hF : Fre σ) : fwC l Z m_disk 2 0 0 [.ref 0, .int dr, .int t, .int s, .int k, .int m] (shMB re) σ (fun w sh' σ' => w = some (.int (aDisk dr t s k m)) ∧ sh' = shMB re ∧ Up σ σ') := by
  refine fwC_of (ls := [some (.ref 0), some (.int dr), some (.int t), some (.int s), some (.int k), some (.int m), none]) (by decide +kernel) rfl (by rw [fw_sl1]; exact Nat.le_of_ble_eq_true rfl) ?_
  have k30 : ¬ aDiskOk dr t s k → fwG l Z m_disk 2 0 0 (fun w sh' σ' => w = some (.int (aDisk dr t s k m)) ∧ sh' = shMB re ∧ Up σ σ') 0 0 30 [some (.ref 0), some (.int dr), some (.int t), some (.int s), some (.int k), some (.int m), none] [] (shMB re) σ := by
    intro h
    refine fwRun_ok k_disk_30_ok rfl trivial ?_
    exact fwg_iret rfl (Nat.le_refl _) (Nat.le_refl _) ⟨by rw [aDisk, if_neg h], rfl, fwSame.rf⟩ d_disk_31
  refine fwRun_ok k_disk_0_ok rfl trivial ?_
  refine fwg_if 30 d_disk_1 (by decide) (fun h => k30 (fun q => q.1 h)) (fun h1 => ?_)
  refine fwRun_ok k_disk_4_ok rfl trivial ?_
  refine fwg_cmp 30 d_disk_6 (by decide) (fun h => k30 (fun q => q.2.1 h)) (fun h2 => ?_)
  refine fwRun_ok k_disk_9_ok rfl trivial ?_
  refine fwg_if 30 d_disk_11 (by decide) (fun h => k30 (fun q => q.2.2.1 h)) (fun h3 => ?_)
  refine fwRun_ok k_disk_14_ok rfl trivial ?_
  refine fwg_cmp 30 d_disk_19 (by decide) (fun h => k30 (fun q => q.2.2.2.1 h)) (fun h4 => ?_)
  refine fwRun_ok k_disk_22_ok rfl trivial ?_
  refine fwg_callS (n := 2) (as := [.int t, .int s]) (r := []) ct_isSector ⟨by decide, by decide, by decide +kernel⟩ m_isSector_in c_disk_24 rfl rfl (Nat.le_of_ble_eq_true rfl) d_disk_24 ⟨Nat.le_refl _, Nat.le_of_ble_eq_true rfl⟩ ⟨Nat.le_refl _, Nat.le_refl _⟩ (fun v sh' σ1 hq => ?_)
  obtain ⟨rfl, rfl, rfl⟩ := hq
  by_cases h5 : aSec t s
  · rw [if_pos h5]
    refine fwg_if 32 d_disk_27 (by decide) (fun _ => ?_) (fun q => absurd (show ¬ (1 : Int32) = 0 by decide) q)
    have hA : aDisk dr t s k m = ((-27) ^^^ m).toInt8.toInt32 &&& 255 := by rw [aDisk, if_pos ⟨h1, h2, h3, h4, h5⟩]
    rw [hA]
    clear k30 hA
    obtain ⟨s1, s2, s3, s4⟩ := h5
    have t0 : ¬ s < 0 := fun q => s3 (Int32.lt_trans q (by decide))
    obtain ⟨a, ha, rfl⟩ := nI_of2 (n := 1) (M := 1) (by decide) h1 (Int32.not_lt.1 h2)
    obtain ⟨b, hb, rfl⟩ := fw_nat (n := 128) h3 h4 (by decide) (by decide)
    obtain ⟨c, hc, rfl⟩ := fw_nat (n := 77) s1 s2 (by decide) (by decide)
    obtain ⟨e, he, rfl⟩ := nI_of2 (n := 26) (M := 26) (by decide) t0 (Int32.not_lt.1 s4)
    have he1 : 1 ≤ e := by
      rcases Nat.eq_zero_or_pos e with q | q
      · subst q; exact absurd (show nI 0 < 1 by decide) s3
      · exact q
    refine fwRun_ok k_disk_32_ok rfl trivial ?_
    refine fwg_callS (n := 3) (as := [.int (nI a), .int (nI c), .int (nI e)]) (r := []) (ct_place (by omega) hc ⟨he1, he⟩) ⟨by decide, by decide, by decide +kernel⟩ m_sectorPlace_in c_disk_35 rfl rfl (Nat.le_of_ble_eq_true rfl) d_disk_35 ⟨Nat.le_refl _, Nat.le_of_ble_eq_true rfl⟩ ⟨Nat.le_refl _, Nat.le_refl _⟩ (fun v sh' σ2 hq => ?_)
    obtain ⟨rfl, rfl, rfl⟩ := hq
    have hp : a * 256256 + (c * 26 + e - 1) * 128 + b < 512512 := by omega
    have hv : vp_in (nI (a * 256256 + (c * 26 + e - 1) * 128) + nI b) 512512 := by
      rw [nI_add]
      exact vp_in_nI hp (by decide)
    refine fwRun_ok k_disk_38_ok rfl ⟨hv, hv, hv⟩ ?_
    refine fwg_iret rfl (Nat.le_refl _) (Nat.le_refl _) ⟨?_, rfl, fwSame_I (by decide)⟩ d_disk_81
    show some (Value.int ((fwI σ2 12 (nI (a * 256256 + (c * 26 + e - 1) * 128) + nI b).toNatClampNeg (σ2.1 12 (nI (a * 256256 + (c * 26 + e - 1) * 128) + nI b).toNatClampNeg ^^^ m).toInt8.toInt32.toInt8.toInt32).1 12 (nI (a * 256256 + (c * 26 + e - 1) * 128) + nI b).toNatClampNeg &&& 255)) = _
    rw [fwI_eq, nI_add, nI_clamp (by omega), hF.2.2.2.2.2.2.2.1 _ hp, fw_b2]
  · rw [if_neg h5]
    exact fwg_if 32 d_disk_27 (by decide) (fun q => absurd rfl q) (fun _ => k30 (fun q => h5 q.2.2.2.2))
end FST
