/-! the class's calls on a new object -/
abbrev fwLo : List Nat := List.range 37
abbrev Up (σ σ' : fwS) : Prop := fwSame fwLo σ σ'
def aEnd (n : Int32) : Int32 := if n < 0 ∨ ¬ n ≤ 0 then 0 else 1
def aMem (a : Int32) : Int32 := if a < 0 ∨ ¬ a < 65536 then -1 else memW (fun _ => 0) (a &&& 65535).toNatClampNeg &&& 255
def aReg (i : Int32) : Int32 := if i = 6 then 2 else if i = 9 then 60419 else if i = 12 then 128 else if i < 0 ∨ ¬ i ≤ 12 then -1 else 0
def aRun (n : Int32) : Int32 := if n < 1 ∨ ¬ n ≤ 200000 then 0 else 1
theorem vp_in_lt {x : Int32} {n : Nat} (h : vp_in x n) : x.toNatClampNeg < n := Nat.lt_of_not_le (fun q => h (Or.inr q))
section FST
variable {l : Launch} {Z : fwZ} {e0 e1 e2 e3 : fwE} {re : List fwE} {σ : fwS}
theorem ct_states (hF : Fre σ) : fwC l Z m_states 1 0 0 [.ref 0] (shMB re) σ (fun w sh' σ' => w = some (.long 0) ∧ sh' = shMB re ∧ Up σ σ') := by
  refine fwC_of (ls := [some (.ref 0)]) (by decide +kernel) rfl (by rw [fw_sl1]; exact Nat.le_refl 1) ?_
  refine fwRun_ok k_states_0_ok rfl trivial ?_
  refine fwg_lret rfl (Nat.le_refl _) (Nat.le_refl _) ⟨?_, rfl, fwSame.rf⟩ d_states_7
  show some (Value.long (σ.2 8 6)) = _
  rw [hF.2.2.1.2.2.2.2]
theorem ct_end {n : Int32} (hF : Fre σ) : fwC l Z m_end 1 0 0 [.ref 0, .int n] (shMB re) σ (fun w sh' σ' => w = some (.int (aEnd n)) ∧ sh' = shMB re ∧ Up σ σ') := by
  refine fwC_of (ls := [some (.ref 0), some (.int n)]) (by decide +kernel) rfl (by rw [fw_sl1]; exact Nat.le_refl 2) ?_
  refine fwRun_ok k_end_0_ok rfl trivial ?_
  refine fwg_if 12 d_end_1 (by decide) (fun h => ?_) (fun h => ?_)
  · refine fwRun_ok k_end_12_ok rfl trivial ?_
    exact fwg_zret rfl rfl (Nat.le_refl _) (Nat.le_refl _) ⟨by rw [aEnd, if_pos (Or.inl (show n < 0 from h))], rfl, fwSame.rf⟩ d_end_13
  · refine fwRun_ok k_end_4_ok rfl trivial ?_
    refine fwg_cmp 14 d_end_9 (by decide) (fun h2 => ?_) (fun h2 => ?_)
    · have h3 : n ≤ σ.1 0 10 := h2
      rw [hF.1.1] at h3
      refine fwRun_ok k_end_14_ok rfl trivial ?_
      exact fwg_zret rfl rfl (Nat.le_refl _) (Nat.le_refl _) ⟨by rw [aEnd, if_neg (fun q => q.elim h (fun q => q h3))], rfl, fwSame_I (by decide)⟩ d_end_20
    · have h3 : ¬ n ≤ σ.1 0 10 := h2
      rw [hF.1.1] at h3
      refine fwRun_ok k_end_12_ok rfl trivial ?_
      exact fwg_zret rfl rfl (Nat.le_refl _) (Nat.le_refl _) ⟨by rw [aEnd, if_pos (Or.inr h3)], rfl, fwSame.rf⟩ d_end_13
theorem fn_step {x s : Int32} {t : Nat} {Post : fwPost} (h : σ.1 0 10 = nI t) (ht : t < 4000) (hs : ¬ s < 0) (k : ∀ σ', fwSame [0, 1] σ σ' → σ'.1 0 10 = nI (t + 1) → fwG l Z m_feedNumber 1 0 0 Post 0 0 3 [some (.ref 0), some (.int x), some (.int (s + (-8)))] [] (shMB re) σ') : fwG l Z m_feedNumber 1 0 0 Post 0 0 3 [some (.ref 0), some (.int x), some (.int s)] [] (shMB re) σ := by
  refine fwRun_ok k_feedNumber_3_ok rfl trivial ?_
  refine fwg_if 36 d_feedNumber_4 (by decide) (fun q => absurd q hs) (fun _ => ?_)
  refine fwRun_ok k_feedNumber_7_ok rfl (by show vp_in (σ.1 0 10) 4000; rw [h]; exact vp_in_nI ht (by decide)) ?_
  refine fwg_goto 3 d_feedNumber_33 (by decide) ?_
  refine k _ ((fwSame_I (by decide)).tr (fwSame_I (by decide))) ?_
  rw [fwI_eq, fwI_ne (by decide), h]
  exact nI_1 t
theorem ct_feedNumber {x : Int32} {t : Nat} (h : σ.1 0 10 = nI t) (ht : t + 4 ≤ 4000) : fwC l Z m_feedNumber 1 0 0 [.ref 0, .int x] (shMB re) σ (fun w sh' σ' => w = none ∧ sh' = shMB re ∧ fwSame [0, 1] σ σ' ∧ σ'.1 0 10 = nI (t + 4)) := by
  refine fwC_of (ls := [some (.ref 0), some (.int x), none]) (by decide +kernel) rfl (by rw [fw_sl1]; exact Nat.le_of_ble_eq_true rfl) ?_
  refine fwRun_ok k_feedNumber_0_ok rfl trivial ?_
  refine fn_step h (by omega) (by decide) (fun σ1 s1 h1 => ?_)
  refine fn_step h1 (by omega) (by decide) (fun σ2 s2 h2 => ?_)
  refine fn_step h2 (by omega) (by decide) (fun σ3 s3 h3 => ?_)
  refine fn_step h3 (by omega) (by decide) (fun σ4 s4 h4 => ?_)
  refine fwRun_ok k_feedNumber_3_ok rfl trivial ?_
  refine fwg_if 36 d_feedNumber_4 (by decide) (fun q => ?_) (fun q => absurd (show (24 : Int32) + -8 + -8 + -8 + -8 < 0 by decide) q)
  exact fwg_vret rfl (Nat.le_refl _) (Nat.le_refl _) ⟨rfl, rfl, ((s1.tr s2).tr s3).tr s4, h4⟩ d_feedNumber_36
theorem ct_feed {a b c e f : Int32} (hF : Fre σ) : fwC l Z m_feed 2 0 0 [.ref 0, .int a, .int b, .int c, .int e, .int f] (shMB re) σ (fun w sh' σ' => w = some (.int 1) ∧ sh' = shMB re ∧ Up σ σ') := by
  refine fwC_of (ls := [some (.ref 0), some (.int a), some (.int b), some (.int c), some (.int e), some (.int f)]) (by decide +kernel) rfl (by rw [fw_sl1]; exact Nat.le_refl 6) ?_
  refine fwRun_ok k_feed_0_ok rfl trivial ?_
  refine fwg_cmp 15 d_feed_10 (by decide) (fun _ => ?_) (fun q => absurd (show σ.1 0 10 + 20 ≤ 4000 by rw [hF.1.1]; decide) q)
  have h0 : σ.1 0 10 = nI 0 := hF.1.1
  refine fwRun_ok k_feed_15_ok rfl trivial ?_
  refine fwg_callV (n := 1) (i := 0) (as := [.int a]) (r := []) (ct_feedNumber h0 (by decide)) ⟨by decide, by decide, by decide +kernel⟩ m_feedNumber_in c_feed_17 rfl rfl rfl rfl (Nat.le_of_ble_eq_true rfl) d_feed_17 ⟨Nat.le_refl _, Nat.le_of_ble_eq_true rfl⟩ ⟨Nat.le_refl _, Nat.le_refl _⟩ (fun v sh' σ1 hq => ?_)
  obtain ⟨rfl, rfl, s1, h1⟩ := hq
  refine fwRun_ok k_feed_20_ok rfl trivial ?_
  refine fwg_callV (n := 1) (i := 0) (as := [.int b]) (r := []) (ct_feedNumber h1 (by decide)) ⟨by decide, by decide, by decide +kernel⟩ m_feedNumber_in c_feed_22 rfl rfl rfl rfl (Nat.le_of_ble_eq_true rfl) d_feed_22 ⟨Nat.le_refl _, Nat.le_of_ble_eq_true rfl⟩ ⟨Nat.le_refl _, Nat.le_refl _⟩ (fun v sh' σ2 hq => ?_)
  obtain ⟨rfl, rfl, s2, h2⟩ := hq
  refine fwRun_ok k_feed_25_ok rfl trivial ?_
  refine fwg_callV (n := 1) (i := 0) (as := [.int c]) (r := []) (ct_feedNumber h2 (by decide)) ⟨by decide, by decide, by decide +kernel⟩ m_feedNumber_in c_feed_27 rfl rfl rfl rfl (Nat.le_of_ble_eq_true rfl) d_feed_27 ⟨Nat.le_refl _, Nat.le_of_ble_eq_true rfl⟩ ⟨Nat.le_refl _, Nat.le_refl _⟩ (fun v sh' σ3 hq => ?_)
  obtain ⟨rfl, rfl, s3, h3⟩ := hq
  refine fwRun_ok k_feed_30_ok rfl trivial ?_
  refine fwg_callV (n := 1) (i := 0) (as := [.int e]) (r := []) (ct_feedNumber h3 (by decide)) ⟨by decide, by decide, by decide +kernel⟩ m_feedNumber_in c_feed_33 rfl rfl rfl rfl (Nat.le_of_ble_eq_true rfl) d_feed_33 ⟨Nat.le_refl _, Nat.le_of_ble_eq_true rfl⟩ ⟨Nat.le_refl _, Nat.le_refl _⟩ (fun v sh' σ4 hq => ?_)
  obtain ⟨rfl, rfl, s4, h4⟩ := hq
  refine fwRun_ok k_feed_36_ok rfl trivial ?_
  refine fwg_callV (n := 1) (i := 0) (as := [.int f]) (r := []) (ct_feedNumber h4 (by decide)) ⟨by decide, by decide, by decide +kernel⟩ m_feedNumber_in c_feed_39 rfl rfl rfl rfl (Nat.le_of_ble_eq_true rfl) d_feed_39 ⟨Nat.le_refl _, Nat.le_of_ble_eq_true rfl⟩ ⟨Nat.le_refl _, Nat.le_refl _⟩ (fun v sh' σ5 hq => ?_)
  obtain ⟨rfl, rfl, s5, h5⟩ := hq
  refine fwRun_ok k_feed_42_ok rfl trivial ?_
  exact fwg_zret rfl rfl (Nat.le_refl _) (Nat.le_refl _) ⟨rfl, rfl, ((((s1.tr s2).tr s3).tr s4).tr s5).up (by decide)⟩ d_feed_43
theorem ct_addKeys0 : fwC l Z m_addKeys 1 0 0 [.ref 4, .ref 1, .int 0] (shCon e0 e1 e2 e3 re) σ (fun w sh' σ' => w = none ∧ sh' = shCon e0 e1 e2 e3 re ∧ σ' = σ) := by
  refine fwC_of (ls := [some (.ref 4), some (.ref 1), some (.int 0), none]) (by decide +kernel) rfl (by rw [fw_sl1]; exact Nat.le_of_ble_eq_true rfl) ?_
  refine fwRun_ok k_addKeys_0_ok rfl trivial ?_
  refine fwRun_ok k_addKeys_2_ok rfl trivial ?_
  refine fwg_cmp 60 d_addKeys_4 (by decide) (fun _ => ?_) (fun q => absurd (show (0 : Int32) ≤ 0 by decide) q)
  exact fwg_vret rfl (Nat.le_refl _) (Nat.le_refl _) ⟨rfl, rfl, rfl⟩ d_addKeys_60
theorem ct_keys (hF : Fre σ) : fwC l Z m_keys 2 0 0 [.ref 0] (shMB re) σ (fun w sh' σ' => w = some (.int 0) ∧ sh' = shMB re ∧ Up σ σ') := by
  refine fwC_of (ls := [some (.ref 0)]) (by decide +kernel) rfl (by rw [fw_sl1]; exact Nat.le_refl 1) ?_
  refine fwRun_ok k_keys_0_ok rfl trivial ?_
  refine fwg_cmp 20 d_keys_15 (by decide) (fun _ => ?_) (fun q => absurd (show σ.1 4 6 + σ.1 0 10 ≤ 2000 by rw [hF.1.1, hF.2.1.2.2.2.1]; decide) q)
  refine fwRun_ok k_keys_20_ok rfl trivial ?_
  have h0 : σ.1 0 10 = 0 := hF.1.1
  show fwG l Z m_keys _ _ _ _ _ _ 32 _ [.int (σ.1 0 10), .ref 1, .ref 4] _ _
  rw [h0]
  refine fwg_callV (n := 2) (i := 4) (as := [.ref 1, .int 0]) (r := []) ct_addKeys0 ⟨by decide, by decide, by decide +kernel⟩ m_addKeys_in c_keys_32 rfl rfl rfl rfl (Nat.le_of_ble_eq_true rfl) d_keys_32 ⟨Nat.le_refl _, Nat.le_of_ble_eq_true rfl⟩ ⟨Nat.le_refl _, Nat.le_refl _⟩ (fun v sh' σ1 hq => ?_)
  obtain ⟨rfl, rfl, rfl⟩ := hq
  refine fwRun_ok k_keys_35_ok rfl trivial ?_
  refine fwg_iret rfl (Nat.le_refl _) (Nat.le_refl _) ⟨?_, rfl, fwSame_I (by decide)⟩ d_keys_47
  show some (Value.int ((fwI σ1 0 10 0).1 4 6)) = _
  rw [fwI_ne (by decide), hF.2.1.2.2.2.1]
theorem ct_boot (hF : Fre σ) : fwC l Z m_boot 9 0 0 [.ref 0] (shMB re) σ (fun w sh' σ' => w = none ∧ sh' = shMB re ∧ Up σ σ') := by
  refine fwC_of (ls := [some (.ref 0)]) (by decide +kernel) rfl (by rw [fw_sl1]; exact Nat.le_refl 1) ?_
  refine fwRun_ok k_boot_0_ok rfl trivial ?_
  refine fwg_callV (n := 0) (i := 17) (as := []) (r := []) (ct_cold (t := 9) hF.2.1.1 hF.2.1.2.1 (by decide) hF.2.2.2.2.2.2.2) ⟨by decide, by decide, by decide +kernel⟩ m_cold_in c_boot_4 rfl rfl rfl rfl (Nat.le_of_ble_eq_true rfl) d_boot_4 ⟨Nat.le_refl _, Nat.le_of_ble_eq_true rfl⟩ ⟨Nat.le_refl _, Nat.le_refl _⟩ (fun v sh' σ1 hq => ?_)
  obtain ⟨rfl, rfl, hC⟩ := hq
  exact fwg_vret rfl (Nat.le_refl _) (Nat.le_refl _) ⟨rfl, rfl, hC.1.up (by decide)⟩ d_boot_7
theorem ct_jump {x : Int32} : fwC l Z m_jump 1 0 0 [.ref 0, .int x] (shMB re) σ (fun w sh' σ' => w = none ∧ sh' = shMB re ∧ Up σ σ') := by
  refine fwC_of (ls := [some (.ref 0), some (.int x)]) (by decide +kernel) rfl (by rw [fw_sl1]; exact Nat.le_refl 2) ?_
  refine fwRun_ok k_jump_0_ok rfl ⟨Or.inl rfl, Or.inl rfl, Or.inl rfl⟩ ?_
  exact fwg_vret rfl (Nat.le_refl _) (Nat.le_refl _) ⟨rfl, rfl, (((fwSame_I (by decide)).tr (fwSame_I (by decide))).tr (fwSame_I (by decide))).tr (fwSame_I (by decide))⟩ d_jump_35
theorem ct_load {x : Int32} (hF : Fre σ) : fwC l Z m_load 2 0 0 [.ref 0, .int x] (shMB re) σ (fun w sh' σ' => w = none ∧ sh' = shMB re ∧ Up σ σ') := by
  refine fwC_of (ls := [some (.ref 0), some (.int x), none]) (by decide +kernel) rfl (by rw [fw_sl1]; exact Nat.le_of_ble_eq_true rfl) ?_
  refine fwRun_ok k_load_0_ok rfl trivial ?_
  refine fwRun_ok k_load_2_ok rfl trivial ?_
  refine fwg_cmp 32 d_load_7 (by decide) (fun _ => ?_) (fun q => absurd (show σ.1 0 10 ≤ 0 by rw [hF.1.1]; decide) q)
  refine fwRun_ok k_load_32_ok rfl trivial ?_
  exact fwg_vret rfl (Nat.le_refl _) (Nat.le_refl _) ⟨rfl, rfl, fwSame_I (by decide)⟩ d_load_37
theorem ct_out {i : Int32} (hF : Fre σ) : fwC l Z m_out 1 0 0 [.ref 0, .int i] (shMB re) σ (fun w sh' σ' => w = some (.int (-1)) ∧ sh' = shMB re ∧ Up σ σ') := by
  refine fwC_of (ls := [some (.ref 0), some (.int i)]) (by decide +kernel) rfl (by rw [fw_sl1]; exact Nat.le_refl 2) ?_
  refine fwRun_ok k_out_0_ok rfl trivial ?_
  have k12 : fwG l Z m_out 1 0 0 (fun w sh' σ' => w = some (.int (-1)) ∧ sh' = shMB re ∧ Up σ σ') 0 0 12 [some (.ref 0), some (.int i)] [] (shMB re) σ := by
    refine fwRun_ok k_out_12_ok rfl trivial ?_
    exact fwg_iret rfl (Nat.le_refl _) (Nat.le_refl _) ⟨rfl, rfl, fwSame.rf⟩ d_out_13
  refine fwg_if 12 d_out_1 (by decide) (fun h => k12) (fun h => ?_)
  refine fwRun_ok k_out_4_ok rfl trivial ?_
  refine fwg_cmp 14 d_out_9 (by decide) (fun h2 => ?_) (fun h2 => k12)
  have h3 : i < σ.1 0 11 := h2
  rw [hF.1.2] at h3
  exact absurd h3 h
theorem ct_peek {a : Int32} : fwC l Z m_peek 1 0 0 [.ref 8, .int a] (shMon e0 e1 e2 e3 re) σ (fwPure (.int (σ.1 9 (a &&& 65535).toNatClampNeg &&& 255)) (shMon e0 e1 e2 e3 re) σ) := by
  refine fwC_of (ls := [some (.ref 8), some (.int a)]) (by decide +kernel) rfl (by rw [fw_sl1]; exact Nat.le_refl 2) ?_
  refine fwRun_ok k_peek_0_ok rfl (pk_andIn a 16 (by decide) (by decide)) ?_
  exact fwg_iret rfl (Nat.le_refl _) (Nat.le_refl _) ⟨rfl, rfl, rfl⟩ d_peek_13
theorem ct_memory {a : Int32} (hF : Fre σ) : fwC l Z m_memory 2 0 0 [.ref 0, .int a] (shMB re) σ (fun w sh' σ' => w = some (.int (aMem a)) ∧ sh' = shMB re ∧ Up σ σ') := by
  refine fwC_of (ls := [some (.ref 0), some (.int a)]) (by decide +kernel) rfl (by rw [fw_sl1]; exact Nat.le_refl 2) ?_
  refine fwRun_ok k_memory_0_ok rfl trivial ?_
  have k10 : (a < 0 ∨ ¬ a < 65536) → fwG l Z m_memory 2 0 0 (fun w sh' σ' => w = some (.int (aMem a)) ∧ sh' = shMB re ∧ Up σ σ') 0 0 10 [some (.ref 0), some (.int a)] [] (shMB re) σ := by
    intro h
    refine fwRun_ok k_memory_10_ok rfl trivial ?_
    exact fwg_iret rfl (Nat.le_refl _) (Nat.le_refl _) ⟨by rw [aMem, if_pos h], rfl, fwSame.rf⟩ d_memory_11
  refine fwg_if 10 d_memory_1 (by decide) (fun h => k10 (Or.inl h)) (fun h => ?_)
  refine fwRun_ok k_memory_4_ok rfl trivial ?_
  refine fwg_cmp 12 d_memory_7 (by decide) (fun h2 => ?_) (fun h2 => k10 (Or.inr h2))
  refine fwRun_ok k_memory_12_ok rfl trivial ?_
  refine fwg_callV (n := 1) (i := 8) (as := [.int a]) (r := []) ct_peek ⟨by decide, by decide, by decide +kernel⟩ m_peek_in c_memory_17 rfl rfl rfl rfl (Nat.le_of_ble_eq_true rfl) d_memory_17 ⟨Nat.le_refl _, Nat.le_of_ble_eq_true rfl⟩ ⟨Nat.le_refl _, Nat.le_refl _⟩ (fun v sh' σ1 hq => ?_)
  obtain ⟨rfl, rfl, rfl⟩ := hq
  refine fwg_iret rfl (Nat.le_refl _) (Nat.le_refl _) ⟨?_, rfl, fwSame.rf⟩ d_memory_20
  rw [aMem, if_neg (fun q => q.elim h (fun q => q h2)), hF.2.2.2.1 _ (vp_in_lt (pk_andIn a 16 (m := 65535) (by decide) (by decide)))]
theorem ct_register {i : Int32} (hF : Fre σ) : fwC l Z m_register 1 0 0 [.ref 0, .int i] (shMB re) σ (fun w sh' σ' => w = some (.int (aReg i)) ∧ sh' = shMB re ∧ Up σ σ') := by
  refine fwC_of (ls := [some (.ref 0), some (.int i)]) (by decide +kernel) rfl (by rw [fw_sl1]; exact Nat.le_refl 2) ?_
  refine fwRun_ok k_register_0_ok rfl trivial ?_
  have k10 : (i < 0 ∨ ¬ i ≤ 12) → fwG l Z m_register 1 0 0 (fun w sh' σ' => w = some (.int (aReg i)) ∧ sh' = shMB re ∧ Up σ σ') 0 0 10 [some (.ref 0), some (.int i)] [] (shMB re) σ := by
    intro h
    refine fwRun_ok k_register_10_ok rfl trivial ?_
    refine fwg_iret rfl (Nat.le_refl _) (Nat.le_refl _) ⟨?_, rfl, fwSame.rf⟩ d_register_11
    have n6 : ¬ i = 6 := fun q => by subst q; revert h; decide
    have n9 : ¬ i = 9 := fun q => by subst q; revert h; decide
    have n12 : ¬ i = 12 := fun q => by subst q; revert h; decide
    rw [aReg, if_neg n6, if_neg n9, if_neg n12, if_pos h]
  refine fwg_if 10 d_register_1 (by decide) (fun h => k10 (Or.inl h)) (fun h => ?_)
  refine fwRun_ok k_register_4_ok rfl trivial ?_
  refine fwg_cmp 12 d_register_7 (by decide) (fun h2 => ?_) (fun h2 => k10 (Or.inr h2))
  clear k10
  obtain ⟨j, hj, rfl⟩ := nI_of2 (n := 12) (M := 12) (by decide) h h2
  obtain ⟨_, _, ⟨f3, f4, f5, _⟩, _, hr, ⟨g1, g2⟩, ⟨_, m4⟩, _⟩ := hF
  refine fwRun_ok k_register_12_ok rfl trivial ?_
  have k104 : j < 8 → aReg (nI j) = 0 → fwG l Z m_register 1 0 0 (fun w sh' σ' => w = some (.int (aReg (nI j))) ∧ sh' = shMB re ∧ Up σ σ') 0 0 104 [some (.ref 0), some (.int (nI j))] [] (shMB re) σ := by
    intro h8 ha
    refine fwRun_ok k_register_104_ok rfl (vp_in_nI h8 (by decide)) ?_
    refine fwg_iret rfl (Nat.le_refl _) (Nat.le_refl _) ⟨?_, rfl, fwSame.rf⟩ d_register_113
    rw [ha]
    show some (Value.int (σ.1 10 (nI j).toNatClampNeg)) = _
    rw [nI_clamp (by omega), hr j h8]
  have hc : j = 0 ∨ j = 1 ∨ j = 2 ∨ j = 3 ∨ j = 4 ∨ j = 5 ∨ j = 6 ∨ j = 7 ∨ j = 8 ∨ j = 9 ∨ j = 10 ∨ j = 11 ∨ j = 12 := by omega
  rcases hc with rfl | rfl | rfl | rfl | rfl | rfl | rfl | rfl | rfl | rfl | rfl | rfl | rfl
  · exact fwg_tabOut 104 d_register_13 (by decide) (by decide) (k104 (by decide) (by decide))
  · exact fwg_tabOut 104 d_register_13 (by decide) (by decide) (k104 (by decide) (by decide))
  · exact fwg_tabOut 104 d_register_13 (by decide) (by decide) (k104 (by decide) (by decide))
  · exact fwg_tabOut 104 d_register_13 (by decide) (by decide) (k104 (by decide) (by decide))
  · exact fwg_tabOut 104 d_register_13 (by decide) (by decide) (k104 (by decide) (by decide))
  · exact fwg_tabOut 104 d_register_13 (by decide) (by decide) (k104 (by decide) (by decide))
  · refine fwg_tabIn 56 d_register_13 (by decide) (by decide) rfl (by decide) ?_
    refine fwRun_ok k_register_56_ok rfl trivial ?_
    exact fwg_iret rfl (Nat.le_refl _) (Nat.le_refl _) ⟨by show some (Value.int (σ.1 8 3)) = _; rw [f3]; rfl, rfl, fwSame.rf⟩ d_register_63
  · exact fwg_tabIn 104 d_register_13 (by decide) (by decide) rfl (by decide) (k104 (by decide) (by decide))
  · refine fwg_tabIn 64 d_register_13 (by decide) (by decide) rfl (by decide) ?_
    refine fwRun_ok k_register_64_ok rfl trivial ?_
    exact fwg_iret rfl (Nat.le_refl _) (Nat.le_refl _) ⟨by show some (Value.int (σ.1 8 4)) = _; rw [f4]; rfl, rfl, fwSame.rf⟩ d_register_71
  · refine fwg_tabIn 72 d_register_13 (by decide) (by decide) rfl (by decide) ?_
    refine fwRun_ok k_register_72_ok rfl trivial ?_
    exact fwg_iret rfl (Nat.le_refl _) (Nat.le_refl _) ⟨by show some (Value.int (σ.1 8 5)) = _; rw [f5]; rfl, rfl, fwSame.rf⟩ d_register_79
  · refine fwg_tabIn 80 d_register_13 (by decide) (by decide) rfl (by decide) ?_
    refine fwRun_ok k_register_80_ok rfl trivial ?_
    exact fwg_iret rfl (Nat.le_refl _) (Nat.le_refl _) ⟨by show some (Value.int (σ.1 11 10)) = _; rw [g1]; rfl, rfl, fwSame.rf⟩ d_register_87
  · refine fwg_tabIn 88 d_register_13 (by decide) (by decide) rfl (by decide) ?_
    refine fwRun_ok k_register_88_ok rfl trivial ?_
    exact fwg_iret rfl (Nat.le_refl _) (Nat.le_refl _) ⟨by show some (Value.int (σ.1 11 11)) = _; rw [g2]; rfl, rfl, fwSame.rf⟩ d_register_95
  · refine fwg_tabIn 96 d_register_13 (by decide) (by decide) rfl (by decide) ?_
    refine fwRun_ok k_register_96_ok rfl trivial ?_
    exact fwg_iret rfl (Nat.le_refl _) (Nat.le_refl _) ⟨by show some (Value.int (σ.1 17 3)) = _; rw [m4]; rfl, rfl, fwSame.rf⟩ d_register_103
end FST
