/-! the reference's list on a new object, its end (laid by wip/whole/t22.py) -/
section RLT
variable {l : Launch} {Z : fwZ} {re : List fwE} {σ : fwS}
theorem ops_n {c a : Int32} : fwC l Z m_rOps 6 0 0 [.ref 37, .int c, .int (nI 110), .int a] (shMd re) σ (fun w sh' σ' => w = none ∧ sh' = shMd re ∧ σ' = σ) := by
  refine fwC_of (ls := [some (.ref 37), some (.int c), some (.int (nI 110)), some (.int a), none]) (by decide +kernel) rfl (by rw [fw_sl1]; exact Nat.le_of_ble_eq_true rfl) ?_
  refine fwRun_ok k_rOps_0_ok rfl trivial ?_
  refine fwg_cmp 12 d_rOps_3 (by decide) (fun _ => ?_) (fun q => absurd (show (nI 110 : Int32) = 110 by decide) q)
  refine fwRun_ok k_rOps_12_ok rfl trivial ?_
  refine fwg_tabIn (off := 298) 319 d_rOps_21 (by decide) (by decide) (by decide) (by decide) ?_
  exact fwg_vret rfl (Nat.le_refl _) (Nat.le_refl _) ⟨rfl, rfl, rfl⟩ d_rOps_319
theorem ops_0 {t : Nat} (h : σ.1 37 11 = nI t) (ht : t + 100 ≤ 70000) (m1 : σ.1 38 1 &&& 255 = 3) (m2 : σ.1 38 2 &&& 255 = 236) : fwC l Z m_rOps 6 0 0 [.ref 37, .int 195, .int (nI 119), .int (nI 0)] (shMd re) σ (fun w sh' σ' => w = none ∧ sh' = shMd re ∧ σ'.1 37 11 = nI (t + 7) ∧ fwSame [37, 43] σ σ') := by
  refine fwC_of (ls := [some (.ref 37), some (.int 195), some (.int (nI 119)), some (.int (nI 0)), none]) (by decide +kernel) rfl (by rw [fw_sl1]; exact Nat.le_of_ble_eq_true rfl) ?_
  refine fwRun_ok k_rOps_0_ok rfl trivial ?_
  refine fwg_cmp 12 d_rOps_3 (by decide) (fun q => absurd (show (nI 119 : Int32) = 110 from q) (by decide)) (fun _ => ?_)
  refine fwRun_ok k_rOps_6_ok rfl trivial ?_
  refine fwg_callV (n := 1) (i := 37) (as := [.int 32]) (r := []) (ct_rAdd2 h (by omega)) ⟨by decide, by decide, by decide +kernel⟩ m_rAdd_in c_rOps_9 rfl rfl rfl rfl (Nat.le_of_ble_eq_true rfl) d_rOps_9 ⟨Nat.le_of_ble_eq_true rfl, Nat.le_of_ble_eq_true rfl⟩ ⟨Nat.le_refl _, Nat.le_refl _⟩ (fun v sh' σ1 hq => ?_)
  obtain ⟨rfl, rfl, h1, s1⟩ := hq
  refine fwRun_ok k_rOps_12_ok rfl trivial ?_
  refine fwg_tabIn (off := 107) 128 d_rOps_21 (by decide) (by decide) (by decide) (by decide) ?_
  refine fwRun_ok k_rOps_128_ok rfl trivial ?_
  refine fwg_callV (n := 1) (i := 37) (as := [.int (nI 0 + 1)]) (r := [.ref 37]) (ct_rGet (by decide)) ⟨by decide, by decide, by decide +kernel⟩ m_rGet_in c_rOps_133 rfl rfl rfl rfl (Nat.le_of_ble_eq_true rfl) d_rOps_133 ⟨Nat.le_of_ble_eq_true rfl, Nat.le_of_ble_eq_true rfl⟩ ⟨Nat.le_refl _, Nat.le_refl _⟩ (fun v sh' σ2 hq => ?_)
  obtain ⟨rfl, rfl, rfl⟩ := hq
  have e2 : σ2.1 38 ((nI 0 + 1) &&& 65535).toNatClampNeg &&& 255 = 3 := by rw [s1.c (by decide), show ((nI 0 + 1) &&& 65535).toNatClampNeg = 1 from by decide]; exact m1
  rw [e2]
  refine fwRun_ok k_rOps_136_ok rfl trivial ?_
  refine fwg_callV (n := 1) (i := 37) (as := [.int (nI 0 + 2)]) (r := [.int 3, .ref 37]) (ct_rGet (by decide)) ⟨by decide, by decide, by decide +kernel⟩ m_rGet_in c_rOps_140 rfl rfl rfl rfl (Nat.le_of_ble_eq_true rfl) d_rOps_140 ⟨Nat.le_of_ble_eq_true rfl, Nat.le_of_ble_eq_true rfl⟩ ⟨Nat.le_refl _, Nat.le_refl _⟩ (fun v sh' σ3 hq => ?_)
  obtain ⟨rfl, rfl, rfl⟩ := hq
  have e3 : σ3.1 38 ((nI 0 + 2) &&& 65535).toNatClampNeg &&& 255 = 236 := by rw [s1.c (by decide), show ((nI 0 + 2) &&& 65535).toNatClampNeg = 2 from by decide]; exact m2
  rw [e3]
  refine fwRun_ok k_rOps_143_ok rfl trivial ?_
  refine fwg_callV (n := 2) (i := 37) (as := [.int ((3 : Int32) ||| (236 : Int32) <<< ((8 : Int32) &&& 31)), .int (nI 4)]) (r := []) (ct_rAddHex (n := 4) (by decide) h1 (by omega)) ⟨by decide, by decide, by decide +kernel⟩ m_rAddHex_in c_rOps_148 rfl rfl rfl rfl (Nat.le_of_ble_eq_true rfl) d_rOps_148 ⟨Nat.le_of_ble_eq_true rfl, Nat.le_of_ble_eq_true rfl⟩ ⟨Nat.le_refl _, Nat.le_refl _⟩ (fun v sh' σ4 hq => ?_)
  obtain ⟨rfl, rfl, h4, s4⟩ := hq
  refine fwg_goto 319 d_rOps_151 (by decide) ?_
  exact fwg_vret rfl (Nat.le_refl _) (Nat.le_refl _) ⟨rfl, rfl, h4, s1.tr s4⟩ d_rOps_319
theorem ops_5 {t : Nat} (h : σ.1 37 11 = nI t) (ht : t + 100 ≤ 70000) (m6 : σ.1 38 6 &&& 255 = 6) (m7 : σ.1 38 7 &&& 255 = 238) : fwC l Z m_rOps 6 0 0 [.ref 37, .int 195, .int (nI 119), .int (nI 5)] (shMd re) σ (fun w sh' σ' => w = none ∧ sh' = shMd re ∧ σ'.1 37 11 = nI (t + 7) ∧ fwSame [37, 43] σ σ') := by
  refine fwC_of (ls := [some (.ref 37), some (.int 195), some (.int (nI 119)), some (.int (nI 5)), none]) (by decide +kernel) rfl (by rw [fw_sl1]; exact Nat.le_of_ble_eq_true rfl) ?_
  refine fwRun_ok k_rOps_0_ok rfl trivial ?_
  refine fwg_cmp 12 d_rOps_3 (by decide) (fun q => absurd (show (nI 119 : Int32) = 110 from q) (by decide)) (fun _ => ?_)
  refine fwRun_ok k_rOps_6_ok rfl trivial ?_
  refine fwg_callV (n := 1) (i := 37) (as := [.int 32]) (r := []) (ct_rAdd2 h (by omega)) ⟨by decide, by decide, by decide +kernel⟩ m_rAdd_in c_rOps_9 rfl rfl rfl rfl (Nat.le_of_ble_eq_true rfl) d_rOps_9 ⟨Nat.le_of_ble_eq_true rfl, Nat.le_of_ble_eq_true rfl⟩ ⟨Nat.le_refl _, Nat.le_refl _⟩ (fun v sh' σ1 hq => ?_)
  obtain ⟨rfl, rfl, h1, s1⟩ := hq
  refine fwRun_ok k_rOps_12_ok rfl trivial ?_
  refine fwg_tabIn (off := 107) 128 d_rOps_21 (by decide) (by decide) (by decide) (by decide) ?_
  refine fwRun_ok k_rOps_128_ok rfl trivial ?_
  refine fwg_callV (n := 1) (i := 37) (as := [.int (nI 5 + 1)]) (r := [.ref 37]) (ct_rGet (by decide)) ⟨by decide, by decide, by decide +kernel⟩ m_rGet_in c_rOps_133 rfl rfl rfl rfl (Nat.le_of_ble_eq_true rfl) d_rOps_133 ⟨Nat.le_of_ble_eq_true rfl, Nat.le_of_ble_eq_true rfl⟩ ⟨Nat.le_refl _, Nat.le_refl _⟩ (fun v sh' σ2 hq => ?_)
  obtain ⟨rfl, rfl, rfl⟩ := hq
  have e2 : σ2.1 38 ((nI 5 + 1) &&& 65535).toNatClampNeg &&& 255 = 6 := by rw [s1.c (by decide), show ((nI 5 + 1) &&& 65535).toNatClampNeg = 6 from by decide]; exact m6
  rw [e2]
  refine fwRun_ok k_rOps_136_ok rfl trivial ?_
  refine fwg_callV (n := 1) (i := 37) (as := [.int (nI 5 + 2)]) (r := [.int 6, .ref 37]) (ct_rGet (by decide)) ⟨by decide, by decide, by decide +kernel⟩ m_rGet_in c_rOps_140 rfl rfl rfl rfl (Nat.le_of_ble_eq_true rfl) d_rOps_140 ⟨Nat.le_of_ble_eq_true rfl, Nat.le_of_ble_eq_true rfl⟩ ⟨Nat.le_refl _, Nat.le_refl _⟩ (fun v sh' σ3 hq => ?_)
  obtain ⟨rfl, rfl, rfl⟩ := hq
  have e3 : σ3.1 38 ((nI 5 + 2) &&& 65535).toNatClampNeg &&& 255 = 238 := by rw [s1.c (by decide), show ((nI 5 + 2) &&& 65535).toNatClampNeg = 7 from by decide]; exact m7
  rw [e3]
  refine fwRun_ok k_rOps_143_ok rfl trivial ?_
  refine fwg_callV (n := 2) (i := 37) (as := [.int ((6 : Int32) ||| (238 : Int32) <<< ((8 : Int32) &&& 31)), .int (nI 4)]) (r := []) (ct_rAddHex (n := 4) (by decide) h1 (by omega)) ⟨by decide, by decide, by decide +kernel⟩ m_rAddHex_in c_rOps_148 rfl rfl rfl rfl (Nat.le_of_ble_eq_true rfl) d_rOps_148 ⟨Nat.le_of_ble_eq_true rfl, Nat.le_of_ble_eq_true rfl⟩ ⟨Nat.le_refl _, Nat.le_refl _⟩ (fun v sh' σ4 hq => ?_)
  obtain ⟨rfl, rfl, h4, s4⟩ := hq
  refine fwg_goto 319 d_rOps_151 (by decide) ?_
  exact fwg_vret rfl (Nat.le_refl _) (Nat.le_refl _) ⟨rfl, rfl, h4, s1.tr s4⟩ d_rOps_319
theorem ops_2 {t : Nat} (h : σ.1 37 11 = nI t) (ht : t + 100 ≤ 70000) (m3 : σ.1 38 3 &&& 255 = 0) (m4 : σ.1 38 4 &&& 255 = 0) : fwC l Z m_rOps 6 0 0 [.ref 37, .int 236, .int (nI 119), .int (nI 2)] (shMd re) σ (fun w sh' σ' => w = none ∧ sh' = shMd re ∧ σ'.1 37 11 = nI (t + 6) ∧ fwSame [37, 43] σ σ') := by
  refine fwC_of (ls := [some (.ref 37), some (.int 236), some (.int (nI 119)), some (.int (nI 2)), none]) (by decide +kernel) rfl (by rw [fw_sl1]; exact Nat.le_of_ble_eq_true rfl) ?_
  refine fwRun_ok k_rOps_0_ok rfl trivial ?_
  refine fwg_cmp 12 d_rOps_3 (by decide) (fun q => absurd (show (nI 119 : Int32) = 110 from q) (by decide)) (fun _ => ?_)
  refine fwRun_ok k_rOps_6_ok rfl trivial ?_
  refine fwg_callV (n := 1) (i := 37) (as := [.int 32]) (r := []) (ct_rAdd2 h (by omega)) ⟨by decide, by decide, by decide +kernel⟩ m_rAdd_in c_rOps_9 rfl rfl rfl rfl (Nat.le_of_ble_eq_true rfl) d_rOps_9 ⟨Nat.le_of_ble_eq_true rfl, Nat.le_of_ble_eq_true rfl⟩ ⟨Nat.le_refl _, Nat.le_refl _⟩ (fun v sh' σ1 hq => ?_)
  obtain ⟨rfl, rfl, h1, s1⟩ := hq
  refine fwRun_ok k_rOps_12_ok rfl trivial ?_
  refine fwg_tabIn (off := 107) 128 d_rOps_21 (by decide) (by decide) (by decide) (by decide) ?_
  refine fwRun_ok k_rOps_128_ok rfl trivial ?_
  refine fwg_callV (n := 1) (i := 37) (as := [.int (nI 2 + 1)]) (r := [.ref 37]) (ct_rGet (by decide)) ⟨by decide, by decide, by decide +kernel⟩ m_rGet_in c_rOps_133 rfl rfl rfl rfl (Nat.le_of_ble_eq_true rfl) d_rOps_133 ⟨Nat.le_of_ble_eq_true rfl, Nat.le_of_ble_eq_true rfl⟩ ⟨Nat.le_refl _, Nat.le_refl _⟩ (fun v sh' σ2 hq => ?_)
  obtain ⟨rfl, rfl, rfl⟩ := hq
  have e2 : σ2.1 38 ((nI 2 + 1) &&& 65535).toNatClampNeg &&& 255 = 0 := by rw [s1.c (by decide), show ((nI 2 + 1) &&& 65535).toNatClampNeg = 3 from by decide]; exact m3
  rw [e2]
  refine fwRun_ok k_rOps_136_ok rfl trivial ?_
  refine fwg_callV (n := 1) (i := 37) (as := [.int (nI 2 + 2)]) (r := [.int 0, .ref 37]) (ct_rGet (by decide)) ⟨by decide, by decide, by decide +kernel⟩ m_rGet_in c_rOps_140 rfl rfl rfl rfl (Nat.le_of_ble_eq_true rfl) d_rOps_140 ⟨Nat.le_of_ble_eq_true rfl, Nat.le_of_ble_eq_true rfl⟩ ⟨Nat.le_refl _, Nat.le_refl _⟩ (fun v sh' σ3 hq => ?_)
  obtain ⟨rfl, rfl, rfl⟩ := hq
  have e3 : σ3.1 38 ((nI 2 + 2) &&& 65535).toNatClampNeg &&& 255 = 0 := by rw [s1.c (by decide), show ((nI 2 + 2) &&& 65535).toNatClampNeg = 4 from by decide]; exact m4
  rw [e3]
  refine fwRun_ok k_rOps_143_ok rfl trivial ?_
  refine fwg_callV (n := 2) (i := 37) (as := [.int ((0 : Int32) ||| (0 : Int32) <<< ((8 : Int32) &&& 31)), .int (nI 4)]) (r := []) (ct_rAddHex (n := 4) (by decide) h1 (by omega)) ⟨by decide, by decide, by decide +kernel⟩ m_rAddHex_in c_rOps_148 rfl rfl rfl rfl (Nat.le_of_ble_eq_true rfl) d_rOps_148 ⟨Nat.le_of_ble_eq_true rfl, Nat.le_of_ble_eq_true rfl⟩ ⟨Nat.le_refl _, Nat.le_refl _⟩ (fun v sh' σ4 hq => ?_)
  obtain ⟨rfl, rfl, h4, s4⟩ := hq
  refine fwg_goto 319 d_rOps_151 (by decide) ?_
  exact fwg_vret rfl (Nat.le_refl _) (Nat.le_refl _) ⟨rfl, rfl, h4, s1.tr s4⟩ d_rOps_319
theorem ops_1 {t : Nat} (h : σ.1 37 11 = nI t) (ht : t + 100 ≤ 70000)  : fwC l Z m_rOps 6 0 0 [.ref 37, .int 3, .int (nI 112), .int (nI 1)] (shMd re) σ (fun w sh' σ' => w = none ∧ sh' = shMd re ∧ σ'.1 37 11 = nI (t + 2) ∧ fwSame [37, 43] σ σ') := by
  refine fwC_of (ls := [some (.ref 37), some (.int 3), some (.int (nI 112)), some (.int (nI 1)), none]) (by decide +kernel) rfl (by rw [fw_sl1]; exact Nat.le_of_ble_eq_true rfl) ?_
  refine fwRun_ok k_rOps_0_ok rfl trivial ?_
  refine fwg_cmp 12 d_rOps_3 (by decide) (fun q => absurd (show (nI 112 : Int32) = 110 from q) (by decide)) (fun _ => ?_)
  refine fwRun_ok k_rOps_6_ok rfl trivial ?_
  refine fwg_callV (n := 1) (i := 37) (as := [.int 32]) (r := []) (ct_rAdd2 h (by omega)) ⟨by decide, by decide, by decide +kernel⟩ m_rAdd_in c_rOps_9 rfl rfl rfl rfl (Nat.le_of_ble_eq_true rfl) d_rOps_9 ⟨Nat.le_of_ble_eq_true rfl, Nat.le_of_ble_eq_true rfl⟩ ⟨Nat.le_refl _, Nat.le_refl _⟩ (fun v sh' σ1 hq => ?_)
  obtain ⟨rfl, rfl, h1, s1⟩ := hq
  refine fwRun_ok k_rOps_12_ok rfl trivial ?_
  refine fwg_tabIn (off := 168) 189 d_rOps_21 (by decide) (by decide) (by decide) (by decide) ?_
  refine fwRun_ok k_rOps_189_ok rfl trivial ?_
  refine fwg_callV (n := 2) (i := 37) (as := [.int (nI 0), .int 0]) (r := []) (ct_rAddPair (j := 0) (by decide) h1 (by omega)) ⟨by decide, by decide, by decide +kernel⟩ m_rAddPair_in c_rOps_196 rfl rfl rfl rfl (Nat.le_of_ble_eq_true rfl) d_rOps_196 ⟨Nat.le_of_ble_eq_true rfl, Nat.le_of_ble_eq_true rfl⟩ ⟨Nat.le_refl _, Nat.le_refl _⟩ (fun v sh' σ2 hq => ?_)
  obtain ⟨rfl, rfl, h2, s2⟩ := hq
  refine fwg_goto 319 d_rOps_199 (by decide) ?_
  exact fwg_vret rfl (Nat.le_refl _) (Nat.le_refl _) ⟨rfl, rfl, h2, s1.tr s2⟩ d_rOps_319
theorem ops_6 {t : Nat} (h : σ.1 37 11 = nI t) (ht : t + 100 ≤ 70000) (m7 : σ.1 38 7 &&& 255 = 238) : fwC l Z m_rOps 6 0 0 [.ref 37, .int 6, .int (nI 105), .int (nI 6)] (shMd re) σ (fun w sh' σ' => w = none ∧ sh' = shMd re ∧ σ'.1 37 11 = nI (t + 7) ∧ fwSame [37, 43] σ σ') := by
  refine fwC_of (ls := [some (.ref 37), some (.int 6), some (.int (nI 105)), some (.int (nI 6)), none]) (by decide +kernel) rfl (by rw [fw_sl1]; exact Nat.le_of_ble_eq_true rfl) ?_
  refine fwRun_ok k_rOps_0_ok rfl trivial ?_
  refine fwg_cmp 12 d_rOps_3 (by decide) (fun q => absurd (show (nI 105 : Int32) = 110 from q) (by decide)) (fun _ => ?_)
  refine fwRun_ok k_rOps_6_ok rfl trivial ?_
  refine fwg_callV (n := 1) (i := 37) (as := [.int 32]) (r := []) (ct_rAdd2 h (by omega)) ⟨by decide, by decide, by decide +kernel⟩ m_rAdd_in c_rOps_9 rfl rfl rfl rfl (Nat.le_of_ble_eq_true rfl) d_rOps_9 ⟨Nat.le_of_ble_eq_true rfl, Nat.le_of_ble_eq_true rfl⟩ ⟨Nat.le_refl _, Nat.le_refl _⟩ (fun v sh' σ1 hq => ?_)
  obtain ⟨rfl, rfl, h1, s1⟩ := hq
  refine fwRun_ok k_rOps_12_ok rfl trivial ?_
  refine fwg_tabIn (off := 217) 238 d_rOps_21 (by decide) (by decide) (by decide) (by decide) ?_
  refine fwRun_ok k_rOps_238_ok rfl trivial ?_
  refine fwg_callV (n := 1) (i := 37) (as := [.int (nI 0)]) (r := []) (ct_rAddReg (j := 0) (by decide) h1 (by omega)) ⟨by decide, by decide, by decide +kernel⟩ m_rAddReg_in c_rOps_241 rfl rfl rfl rfl (Nat.le_of_ble_eq_true rfl) d_rOps_241 ⟨Nat.le_of_ble_eq_true rfl, Nat.le_of_ble_eq_true rfl⟩ ⟨Nat.le_refl _, Nat.le_refl _⟩ (fun v sh' σ2 hq => ?_)
  obtain ⟨rfl, rfl, h2, s2⟩ := hq
  refine fwRun_ok k_rOps_244_ok rfl trivial ?_
  refine fwg_callV (n := 1) (i := 37) (as := [.int 44]) (r := []) (ct_rAdd2 h2 (by omega)) ⟨by decide, by decide, by decide +kernel⟩ m_rAdd_in c_rOps_247 rfl rfl rfl rfl (Nat.le_of_ble_eq_true rfl) d_rOps_247 ⟨Nat.le_of_ble_eq_true rfl, Nat.le_of_ble_eq_true rfl⟩ ⟨Nat.le_refl _, Nat.le_refl _⟩ (fun v sh' σ3 hq => ?_)
  obtain ⟨rfl, rfl, h3, s3⟩ := hq
  refine fwRun_ok k_rOps_250_ok rfl trivial ?_
  refine fwg_callV (n := 1) (i := 37) (as := [.int (nI 6 + 1)]) (r := [.ref 37]) (ct_rGet (by decide)) ⟨by decide, by decide, by decide +kernel⟩ m_rGet_in c_rOps_255 rfl rfl rfl rfl (Nat.le_of_ble_eq_true rfl) d_rOps_255 ⟨Nat.le_of_ble_eq_true rfl, Nat.le_of_ble_eq_true rfl⟩ ⟨Nat.le_refl _, Nat.le_refl _⟩ (fun v sh' σ4 hq => ?_)
  obtain ⟨rfl, rfl, rfl⟩ := hq
  have e4 : σ4.1 38 ((nI 6 + 1) &&& 65535).toNatClampNeg &&& 255 = 238 := by rw [s3.c (by decide), s2.c (by decide), s1.c (by decide), show ((nI 6 + 1) &&& 65535).toNatClampNeg = 7 from by decide]; exact m7
  rw [e4]
  refine fwRun_ok k_rOps_258_ok rfl trivial ?_
  refine fwg_callV (n := 2) (i := 37) (as := [.int 238, .int (nI 2)]) (r := []) (ct_rAddHex (n := 2) (by decide) h3 (by omega)) ⟨by decide, by decide, by decide +kernel⟩ m_rAddHex_in c_rOps_259 rfl rfl rfl rfl (Nat.le_of_ble_eq_true rfl) d_rOps_259 ⟨Nat.le_of_ble_eq_true rfl, Nat.le_of_ble_eq_true rfl⟩ ⟨Nat.le_refl _, Nat.le_refl _⟩ (fun v sh' σ5 hq => ?_)
  obtain ⟨rfl, rfl, h5, s5⟩ := hq
  refine fwg_goto 319 d_rOps_262 (by decide) ?_
  exact fwg_vret rfl (Nat.le_refl _) (Nat.le_refl _) ⟨rfl, rfl, h5, ((s1.tr s2).tr s3).tr s5⟩ d_rOps_319
theorem ops_7 {t : Nat} (h : σ.1 37 11 = nI t) (ht : t + 100 ≤ 70000) (m8 : σ.1 38 8 &&& 255 = 0) : fwC l Z m_rOps 6 0 0 [.ref 37, .int 238, .int (nI 98), .int (nI 7)] (shMd re) σ (fun w sh' σ' => w = none ∧ sh' = shMd re ∧ σ'.1 37 11 = nI (t + 4) ∧ fwSame [37, 43] σ σ') := by
  refine fwC_of (ls := [some (.ref 37), some (.int 238), some (.int (nI 98)), some (.int (nI 7)), none]) (by decide +kernel) rfl (by rw [fw_sl1]; exact Nat.le_of_ble_eq_true rfl) ?_
  refine fwRun_ok k_rOps_0_ok rfl trivial ?_
  refine fwg_cmp 12 d_rOps_3 (by decide) (fun q => absurd (show (nI 98 : Int32) = 110 from q) (by decide)) (fun _ => ?_)
  refine fwRun_ok k_rOps_6_ok rfl trivial ?_
  refine fwg_callV (n := 1) (i := 37) (as := [.int 32]) (r := []) (ct_rAdd2 h (by omega)) ⟨by decide, by decide, by decide +kernel⟩ m_rAdd_in c_rOps_9 rfl rfl rfl rfl (Nat.le_of_ble_eq_true rfl) d_rOps_9 ⟨Nat.le_of_ble_eq_true rfl, Nat.le_of_ble_eq_true rfl⟩ ⟨Nat.le_refl _, Nat.le_refl _⟩ (fun v sh' σ1 hq => ?_)
  obtain ⟨rfl, rfl, h1, s1⟩ := hq
  refine fwRun_ok k_rOps_12_ok rfl trivial ?_
  refine fwg_tabIn (off := 133) 154 d_rOps_21 (by decide) (by decide) (by decide) (by decide) ?_
  refine fwRun_ok k_rOps_154_ok rfl trivial ?_
  refine fwg_callV (n := 1) (i := 37) (as := [.int (nI 7 + 1)]) (r := [.ref 37]) (ct_rGet (by decide)) ⟨by decide, by decide, by decide +kernel⟩ m_rGet_in c_rOps_159 rfl rfl rfl rfl (Nat.le_of_ble_eq_true rfl) d_rOps_159 ⟨Nat.le_of_ble_eq_true rfl, Nat.le_of_ble_eq_true rfl⟩ ⟨Nat.le_refl _, Nat.le_refl _⟩ (fun v sh' σ4 hq => ?_)
  obtain ⟨rfl, rfl, rfl⟩ := hq
  have e4 : σ4.1 38 ((nI 7 + 1) &&& 65535).toNatClampNeg &&& 255 = 0 := by rw [s1.c (by decide), show ((nI 7 + 1) &&& 65535).toNatClampNeg = 8 from by decide]; exact m8
  rw [e4]
  refine fwRun_ok k_rOps_162_ok rfl trivial ?_
  refine fwg_callV (n := 2) (i := 37) (as := [.int 0, .int (nI 2)]) (r := []) (ct_rAddHex (n := 2) (by decide) h1 (by omega)) ⟨by decide, by decide, by decide +kernel⟩ m_rAddHex_in c_rOps_163 rfl rfl rfl rfl (Nat.le_of_ble_eq_true rfl) d_rOps_163 ⟨Nat.le_of_ble_eq_true rfl, Nat.le_of_ble_eq_true rfl⟩ ⟨Nat.le_refl _, Nat.le_refl _⟩ (fun v sh' σ5 hq => ?_)
  obtain ⟨rfl, rfl, h5, s5⟩ := hq
  refine fwg_goto 319 d_rOps_166 (by decide) ?_
  exact fwg_vret rfl (Nat.le_refl _) (Nat.le_refl _) ⟨rfl, rfl, h5, s1.tr s5⟩ d_rOps_319
theorem rli_loop {k n kd : Nat} {a0 a c : Int32} {l6 l7 : Option Value} {Post : fwPost} (hk : k + n + 4 ≤ 541) (hN : ∀ j, j < n → ¬ rlC (k + j) < 65 ∧ ¬ 90 < rlC (k + j)) (hE : 90 < rlC (k + n)) (g : fwG l Z m_rList 7 0 0 Post 0 0 71 [some (.ref 37), some (.int a0), some (.int a), some (.int c), some (.int (nI k)), some (.int (nI n)), l6, l7] [] (shMd re) σ) : ∀ (q j : Nat), j + q = n → fwG l Z m_rList 7 0 0 Post 0 0 33 [some (.ref 37), some (.int a0), some (.int a), some (.int c), some (.int (nI k)), some (.int (nI j)), l6, l7] [] (shMd re) σ := by
  intro q
  induction q with
  | zero =>
    intro j hj
    obtain rfl : j = n := by omega
    refine fwg_ldcwS (q := rlQ) rfl rlQ_in d_rList_33 ?_
    refine fwRun_ok k_rList_36_ok rfl trivial ?_
    show fwG l Z m_rList _ _ _ _ _ _ 41 _ [.int (nI k + nI j), .retAddr 40] _ _
    rw [nI_add]
    refine fwg_callK (n := 1) (as := [.int (nI (k + j))]) (r := []) (ct_schar (c := 40) (j := k + j) (by decide) (show k + j < 541 by omega)) ⟨by decide, by decide, by decide +kernel⟩ rfl m_schar_in c_rList_41 (by decide) rfl rfl (Nat.le_of_ble_eq_true rfl) d_rList_41 ⟨Nat.le_of_ble_eq_true rfl, Nat.le_of_ble_eq_true rfl⟩ ⟨Nat.le_refl _, Nat.le_refl _⟩ (fun v sh' σ1 hq => ?_)
    obtain ⟨rfl, rfl, rfl⟩ := hq
    refine fwRun_ok k_rList_44_ok rfl trivial ?_
    refine fwg_cmp 71 d_rList_46 (by decide) (fun _ => g) (fun _ => ?_)
    refine fwg_ldcwS (q := rlQ) rfl rlQ_in d_rList_49 ?_
    refine fwRun_ok k_rList_52_ok rfl trivial ?_
    show fwG l Z m_rList _ _ _ _ _ _ 57 _ [.int (nI k + nI j), .retAddr 40] _ _
    rw [nI_add]
    refine fwg_callK (n := 1) (as := [.int (nI (k + j))]) (r := []) (ct_schar (c := 40) (j := k + j) (by decide) (show k + j < 541 by omega)) ⟨by decide, by decide, by decide +kernel⟩ rfl m_schar_in c_rList_57 (by decide) rfl rfl (Nat.le_of_ble_eq_true rfl) d_rList_57 ⟨Nat.le_of_ble_eq_true rfl, Nat.le_of_ble_eq_true rfl⟩ ⟨Nat.le_refl _, Nat.le_refl _⟩ (fun v sh' σ2 hq => ?_)
    obtain ⟨rfl, rfl, rfl⟩ := hq
    refine fwRun_ok k_rList_60_ok rfl trivial ?_
    exact fwg_cmp 71 d_rList_62 (by decide) (fun _ => g) (fun q => absurd hE q)
  | succ q ih =>
    intro j hj
    obtain ⟨f1, f2⟩ := hN j (by omega)
    refine fwg_ldcwS (q := rlQ) rfl rlQ_in d_rList_33 ?_
    refine fwRun_ok k_rList_36_ok rfl trivial ?_
    show fwG l Z m_rList _ _ _ _ _ _ 41 _ [.int (nI k + nI j), .retAddr 40] _ _
    rw [nI_add]
    refine fwg_callK (n := 1) (as := [.int (nI (k + j))]) (r := []) (ct_schar (c := 40) (j := k + j) (by decide) (show k + j < 541 by omega)) ⟨by decide, by decide, by decide +kernel⟩ rfl m_schar_in c_rList_41 (by decide) rfl rfl (Nat.le_of_ble_eq_true rfl) d_rList_41 ⟨Nat.le_of_ble_eq_true rfl, Nat.le_of_ble_eq_true rfl⟩ ⟨Nat.le_refl _, Nat.le_refl _⟩ (fun v sh' σ1 hq => ?_)
    obtain ⟨rfl, rfl, rfl⟩ := hq
    refine fwRun_ok k_rList_44_ok rfl trivial ?_
    refine fwg_cmp 71 d_rList_46 (by decide) (fun q => absurd q f1) (fun _ => ?_)
    refine fwg_ldcwS (q := rlQ) rfl rlQ_in d_rList_49 ?_
    refine fwRun_ok k_rList_52_ok rfl trivial ?_
    show fwG l Z m_rList _ _ _ _ _ _ 57 _ [.int (nI k + nI j), .retAddr 40] _ _
    rw [nI_add]
    refine fwg_callK (n := 1) (as := [.int (nI (k + j))]) (r := []) (ct_schar (c := 40) (j := k + j) (by decide) (show k + j < 541 by omega)) ⟨by decide, by decide, by decide +kernel⟩ rfl m_schar_in c_rList_57 (by decide) rfl rfl (Nat.le_of_ble_eq_true rfl) d_rList_57 ⟨Nat.le_of_ble_eq_true rfl, Nat.le_of_ble_eq_true rfl⟩ ⟨Nat.le_refl _, Nat.le_refl _⟩ (fun v sh' σ2 hq => ?_)
    obtain ⟨rfl, rfl, rfl⟩ := hq
    refine fwRun_ok k_rList_60_ok rfl trivial ?_
    refine fwg_cmp 71 d_rList_62 (by decide) (fun q => absurd q f2) (fun _ => ?_)
    refine fwRun_ok k_rList_65_ok rfl trivial ?_
    refine fwg_goto 33 d_rList_68 (by decide) ?_
    have := ih (j + 1) (by omega)
    rw [← nI_1] at this
    exact this
theorem rls_step {i : Nat} (hi : i < 78) {a0 a c : Int32} {l5 l6 l7 : Option Value} {Post : fwPost} (gT : rIs c (rlA i).2.2.1 (rlA i).2.2.2 = 1 → fwG l Z m_rList 7 0 0 Post 0 0 133 [some (.ref 37), some (.int a0), some (.int a), some (.int c), some (.int (nI (rlA i).1)), some (.int (nI (rlA i).2.1)), some (.int (nI (rlA i).2.2.1)), some (.int (rlA i).2.2.2)] [] (shMd re) σ) (gF : rIs c (rlA i).2.2.1 (rlA i).2.2.2 = 0 → fwG l Z m_rList 7 0 0 Post 0 0 19 [some (.ref 37), some (.int a0), some (.int a), some (.int c), some (.int (nI ((rlA i).1 + (rlA i).2.1 + 4))), some (.int (nI (rlA i).2.1)), some (.int (nI (rlA i).2.2.1)), some (.int (rlA i).2.2.2)] [] (shMd re) σ) : fwG l Z m_rList 7 0 0 Post 0 0 19 [some (.ref 37), some (.int a0), some (.int a), some (.int c), some (.int (nI (rlA i).1)), l5, l6, l7] [] (shMd re) σ := by
  obtain ⟨e1, e2, e3, e4, e5, e6, -⟩ := rl_ok i hi
  generalize (rlA i).1 = k at *
  generalize (rlA i).2.1 = n at *
  generalize (rlA i).2.2.1 = kd at *
  generalize (rlA i).2.2.2 = b at *
  refine fwRun_ok k_rList_19_ok rfl trivial ?_
  refine fwg_ldcwS (q := rlQ) rfl rlQ_in d_rList_21 ?_
  refine fwg_callK (n := 0) (as := []) (r := [.int (nI k)]) (ct_slen (c := 40) (by decide)) ⟨by decide, by decide, by decide +kernel⟩ rfl m_slen_in c_rList_24 (by decide) rfl rfl (Nat.le_of_ble_eq_true rfl) d_rList_24 ⟨Nat.le_of_ble_eq_true rfl, Nat.le_of_ble_eq_true rfl⟩ ⟨Nat.le_refl _, Nat.le_refl _⟩ (fun v sh' σ1 hq => ?_)
  obtain ⟨rfl, rfl, rfl⟩ := hq
  refine fwg_cmp 172 d_rList_27 (by decide) (fun q => absurd (show nI 541 ≤ nI k from q) (nI_ge (by omega) (by decide))) (fun _ => ?_)
  refine fwRun_ok k_rList_30_ok rfl trivial ?_
  refine rli_loop (kd := kd) e6 e1 e2 ?_ n 0 (by omega)
  refine fwg_ldcwS (q := rlQ) rfl rlQ_in d_rList_71 ?_
  refine fwRun_ok k_rList_74_ok rfl trivial ?_
  show fwG l Z m_rList _ _ _ _ _ _ 79 _ [.int (nI k + nI n), .retAddr 40] _ _
  rw [nI_add]
  refine fwg_callK (n := 1) (as := [.int (nI (k + n))]) (r := []) (ct_schar (c := 40) (j := k + n) (by decide) (show k + n < 541 by omega)) ⟨by decide, by decide, by decide +kernel⟩ rfl m_schar_in c_rList_79 (by decide) rfl rfl (Nat.le_of_ble_eq_true rfl) d_rList_79 ⟨Nat.le_of_ble_eq_true rfl, Nat.le_of_ble_eq_true rfl⟩ ⟨Nat.le_refl _, Nat.le_refl _⟩ (fun v sh' σ2 hq => ?_)
  obtain ⟨rfl, rfl, rfl⟩ := hq
  show fwG l Z m_rList _ _ _ _ _ _ 82 _ [.int (rlC (k + n))] _ _
  rw [e3]
  refine fwRun_ok k_rList_82_ok rfl trivial ?_
  refine fwg_ldcwS (q := rlQ) rfl rlQ_in d_rList_86 ?_
  refine fwRun_ok k_rList_89_ok rfl trivial ?_
  show fwG l Z m_rList _ _ _ _ _ _ 96 _ [.int (nI k + nI n + 1), .retAddr 40, .int 16] _ _
  rw [nI_add, nI_1]
  refine fwg_callK (n := 1) (as := [.int (nI (k + n + 1))]) (r := [.int 16]) (ct_schar (c := 40) (j := k + n + 1) (by decide) (show k + n + 1 < 541 by omega)) ⟨by decide, by decide, by decide +kernel⟩ rfl m_schar_in c_rList_96 (by decide) rfl rfl (Nat.le_of_ble_eq_true rfl) d_rList_96 ⟨Nat.le_of_ble_eq_true rfl, Nat.le_of_ble_eq_true rfl⟩ ⟨Nat.le_refl _, Nat.le_refl _⟩ (fun v sh' σ3 hq => ?_)
  obtain ⟨rfl, rfl, rfl⟩ := hq
  refine fwg_callS (n := 1) (as := [.int (rlC (k + n + 1))]) (r := [.int 16]) (ct_rHexa) ⟨by decide, by decide, by decide +kernel⟩ m_rHexa_in c_rList_99 rfl rfl (Nat.le_of_ble_eq_true rfl) d_rList_99 ⟨Nat.le_of_ble_eq_true rfl, Nat.le_of_ble_eq_true rfl⟩ ⟨Nat.le_refl _, Nat.le_refl _⟩ (fun v sh' σ4 hq => ?_)
  obtain ⟨rfl, rfl, rfl⟩ := hq
  refine fwRun_ok k_rList_102_ok rfl trivial ?_
  refine fwg_ldcwS (q := rlQ) rfl rlQ_in d_rList_103 ?_
  refine fwRun_ok k_rList_106_ok rfl trivial ?_
  show fwG l Z m_rList _ _ _ _ _ _ 113 _ [.int (nI k + nI n + nI 2), .retAddr 40, .int (16 * hxa (rlC (k + n + 1)))] _ _
  rw [nI_add, nI_add]
  refine fwg_callK (n := 1) (as := [.int (nI (k + n + 2))]) (r := [.int (16 * hxa (rlC (k + n + 1)))]) (ct_schar (c := 40) (j := k + n + 2) (by decide) (show k + n + 2 < 541 by omega)) ⟨by decide, by decide, by decide +kernel⟩ rfl m_schar_in c_rList_113 (by decide) rfl rfl (Nat.le_of_ble_eq_true rfl) d_rList_113 ⟨Nat.le_of_ble_eq_true rfl, Nat.le_of_ble_eq_true rfl⟩ ⟨Nat.le_refl _, Nat.le_refl _⟩ (fun v sh' σ5 hq => ?_)
  obtain ⟨rfl, rfl, rfl⟩ := hq
  refine fwg_callS (n := 1) (as := [.int (rlC (k + n + 2))]) (r := [.int (16 * hxa (rlC (k + n + 1)))]) (ct_rHexa) ⟨by decide, by decide, by decide +kernel⟩ m_rHexa_in c_rList_116 rfl rfl (Nat.le_of_ble_eq_true rfl) d_rList_116 ⟨Nat.le_of_ble_eq_true rfl, Nat.le_of_ble_eq_true rfl⟩ ⟨Nat.le_refl _, Nat.le_refl _⟩ (fun v sh' σ6 hq => ?_)
  obtain ⟨rfl, rfl, rfl⟩ := hq
  refine fwRun_ok k_rList_119_ok rfl trivial ?_
  show fwG l Z m_rList _ _ _ _ _ _ 127 [some (.ref 37), some (.int a0), some (.int a), some (.int c), some (.int (nI k)), some (.int (nI n)), some (.int (nI kd)), some (.int (16 * hxa (rlC (k + n + 1)) + hxa (rlC (k + n + 2))))] [.int (16 * hxa (rlC (k + n + 1)) + hxa (rlC (k + n + 2))), .int (nI kd), .int c] _ _
  rw [e5]
  refine fwg_callS (n := 3) (as := [.int c, .int (nI kd), .int b]) (r := []) (ct_isCode e4) ⟨by decide, by decide, by decide +kernel⟩ m_isCode_in c_rList_127 rfl rfl (Nat.le_of_ble_eq_true rfl) d_rList_127 ⟨Nat.le_of_ble_eq_true rfl, Nat.le_of_ble_eq_true rfl⟩ ⟨Nat.le_refl _, Nat.le_refl _⟩ (fun v sh' σ7 hq => ?_)
  obtain ⟨rfl, rfl, rfl⟩ := hq
  refine fwg_if 160 d_rList_130 (by decide) (fun q => ?_) (fun q => ?_)
  · refine fwRun_ok k_rList_160_ok rfl trivial ?_
    refine fwg_goto 19 d_rList_169 (by decide) ?_
    have := gF q
    rw [show k + n + 4 = k + (n + 4) by omega, ← nI_add, ← nI_add] at this
    exact this
  · refine gT ?_
    have q' : ¬ rIs c kd b = 0 := q
    unfold rIs at q' ⊢
    revert q'
    repeat' split
    all_goals simp
theorem rln_0 : ∀ i, i < 0 → rIs 0 (rlA i).2.2.1 (rlA i).2.2.2 = 0 := by decide +kernel
theorem rly_0 : rIs 0 (rlA 0).2.2.1 (rlA 0).2.2.2 = 1 ∧ rlA 0 = (0, 3, 110, 0) := by decide +kernel
theorem rln_195 : ∀ i, i < 25 → rIs 195 (rlA i).2.2.1 (rlA i).2.2.2 = 0 := by decide +kernel
theorem rly_195 : rIs 195 (rlA 25).2.2.1 (rlA 25).2.2.2 = 1 ∧ rlA 25 = (173, 3, 119, 195) := by decide +kernel
theorem rln_3 : ∀ i, i < 67 → rIs 3 (rlA i).2.2.1 (rlA i).2.2.2 = 0 := by decide +kernel
theorem rly_3 : rIs 3 (rlA 67).2.2.1 (rlA 67).2.2.2 = 1 ∧ rlA 67 = (461, 3, 112, 3) := by decide +kernel
theorem rln_236 : ∀ i, i < 44 → rIs 236 (rlA i).2.2.1 (rlA i).2.2.2 = 0 := by decide +kernel
theorem rly_236 : rIs 236 (rlA 44).2.2.1 (rlA 44).2.2.2 = 1 ∧ rlA 44 = (303, 3, 119, 236) := by decide +kernel
theorem rln_6 : ∀ i, i < 75 → rIs 6 (rlA i).2.2.1 (rlA i).2.2.2 = 0 := by decide +kernel
theorem rly_6 : rIs 6 (rlA 75).2.2.1 (rlA 75).2.2.2 = 1 ∧ rlA 75 = (520, 3, 105, 6) := by decide +kernel
theorem rln_238 : ∀ i, i < 52 → rIs 238 (rlA i).2.2.1 (rlA i).2.2.2 = 0 := by decide +kernel
theorem rly_238 : rIs 238 (rlA 52).2.2.1 (rlA 52).2.2.2 = 1 ∧ rlA 52 = (357, 3, 98, 238) := by decide +kernel
theorem rls_loop {i0 : Nat} (hi : i0 < 78) {a0 a c : Int32} {Post : fwPost} (hn : ∀ i, i < i0 → rIs c (rlA i).2.2.1 (rlA i).2.2.2 = 0) (hy : rIs c (rlA i0).2.2.1 (rlA i0).2.2.2 = 1) (g : fwG l Z m_rList 7 0 0 Post 0 0 133 [some (.ref 37), some (.int a0), some (.int a), some (.int c), some (.int (nI (rlA i0).1)), some (.int (nI (rlA i0).2.1)), some (.int (nI (rlA i0).2.2.1)), some (.int (rlA i0).2.2.2)] [] (shMd re) σ) : ∀ (q i : Nat) (l5 l6 l7 : Option Value), i + q = i0 → fwG l Z m_rList 7 0 0 Post 0 0 19 [some (.ref 37), some (.int a0), some (.int a), some (.int c), some (.int (nI (rlA i).1)), l5, l6, l7] [] (shMd re) σ := by
  intro q
  induction q with
  | zero =>
    intro i l5 l6 l7 h
    obtain rfl : i = i0 := by omega
    exact rls_step hi (fun _ => g) (fun z => absurd (hy.symm.trans z) (by decide))
  | succ q ih =>
    intro i l5 l6 l7 h
    refine rls_step (i := i) (by omega) (fun z => absurd ((hn i (by omega)).symm.trans z) (by decide)) (fun _ => ?_)
    have e := (rl_ok i (by omega)).2.2.2.2.2.2
    rw [if_pos (by omega)] at e
    rw [← e]
    exact ih (i + 1) _ _ _ (by omega)
theorem rls_head {a0 c : Int32} {q i0 : Nat} (hq : q < 65536) (ha : a0 &&& 65535 = nI q) (hc : σ.1 38 q &&& 255 = c) (hi : i0 < 78) {Post : fwPost} (hn : ∀ i, i < i0 → rIs c (rlA i).2.2.1 (rlA i).2.2.2 = 0) (hy : rIs c (rlA i0).2.2.1 (rlA i0).2.2.2 = 1) (g : ∀ σ' : fwS, σ'.1 37 11 = nI 0 → fwSame [37, 43] σ σ' → fwG l Z m_rList 7 0 0 Post 0 0 133 [some (.ref 37), some (.int a0), some (.int (nI q)), some (.int c), some (.int (nI (rlA i0).1)), some (.int (nI (rlA i0).2.1)), some (.int (nI (rlA i0).2.2.1)), some (.int (rlA i0).2.2.2)] [] (shMd re) σ') : fwG l Z m_rList 7 0 0 Post 0 0 0 [some (.ref 37), some (.int a0), none, none, none, none, none, none] [] (shMd re) σ := by
  refine fwRun_ok k_rList_0_ok rfl trivial ?_
  show fwG l Z m_rList _ _ _ _ _ _ 7 [some (.ref 37), some (.int a0), some (.int (a0 &&& 65535)), none, none, none, none, none] [.int (a0 &&& 65535), .ref 37] _ _
  rw [ha]
  refine fwg_callV (n := 1) (i := 37) (as := [.int (nI q)]) (r := []) (ct_rGet (by show nI q < nI 1048576; exact nI_lt (by omega) (by decide))) ⟨by decide, by decide, by decide +kernel⟩ m_rGet_in c_rList_7 rfl rfl rfl rfl (Nat.le_of_ble_eq_true rfl) d_rList_7 ⟨Nat.le_of_ble_eq_true rfl, Nat.le_of_ble_eq_true rfl⟩ ⟨Nat.le_refl _, Nat.le_refl _⟩ (fun v sh' σ1 hq => ?_)
  obtain ⟨rfl, rfl, rfl⟩ := hq
  have e : σ1.1 38 (nI q &&& 65535).toNatClampNeg &&& 255 = c := by
    rw [show nI q &&& 65535 = nI (q % 2 ^ 16) from pk_andN (by omega) 16 (by decide), nI_clamp (by omega), Nat.mod_eq_of_lt hq]
    exact hc
  rw [e]
  refine fwRun_ok k_rList_10_ok rfl trivial ?_
  exact rls_loop hi hn hy (g _ fwI_eq (fwSame_I (by decide))) i0 0 none none none (by omega)
theorem rls_tail {a0 c : Int32} {q k n kd t : Nat} {b : Int32} {Post : fwPost} (hk : k + n ≤ 541) (h0 : σ.1 37 11 = nI 0) {P : fwS → fwPost} (hO : ∀ {τ : fwS}, τ.1 37 11 = nI (0 + (k + n - k)) → fwSame [37, 43] σ τ → fwC l Z m_rOps 6 0 0 [.ref 37, .int c, .int (nI kd), .int (nI q)] (shMd re) τ (P τ)) (hP : ∀ (τ : fwS) v sh' σ', τ.1 37 11 = nI (0 + (k + n - k)) → P τ v sh' σ' → v = none ∧ sh' = shMd re ∧ σ'.1 37 11 = nI t) (hp : ∀ σ' : fwS, Post (some (.int (nI t))) (shMd re) σ') : fwG l Z m_rList 7 0 0 Post 0 0 133 [some (.ref 37), some (.int a0), some (.int (nI q)), some (.int c), some (.int (nI k)), some (.int (nI n)), some (.int (nI kd)), some (.int b)] [] (shMd re) σ := by
  refine fwRun_ok k_rList_133_ok rfl trivial ?_
  refine fwg_ldcwS (q := rlQ) rfl rlQ_in d_rList_134 ?_
  refine fwRun_ok k_rList_137_ok rfl trivial ?_
  show fwG l Z m_rList _ _ _ _ _ _ 144 _ [.int (nI k + nI n), .int (nI k), .retAddr 40, .ref 37] _ _
  rw [nI_add]
  refine fwg_callV (n := 3) (i := 37) (as := [.retAddr 40, .int (nI k), .int (nI (k + n))]) (r := []) (ct_rAddText2 (c := 40) (s := k) (n := k + n) (t := 0) (by decide) (by omega) (show k + n ≤ 541 from hk) h0 (by omega)) ⟨by decide, by decide, by decide +kernel⟩ m_rAddText_in c_rList_144 rfl rfl rfl rfl (Nat.le_of_ble_eq_true rfl) d_rList_144 ⟨Nat.le_of_ble_eq_true rfl, Nat.le_of_ble_eq_true rfl⟩ ⟨Nat.le_refl _, Nat.le_refl _⟩ (fun v sh' σ1 hq => ?_)
  obtain ⟨rfl, rfl, h1, s1⟩ := hq
  refine fwRun_ok k_rList_147_ok rfl trivial ?_
  refine fwg_callV (n := 3) (i := 37) (as := [.int c, .int (nI kd), .int (nI q)]) (r := []) (hO h1 s1) ⟨by decide, by decide, by decide +kernel⟩ m_rOps_in c_rList_152 rfl rfl rfl rfl (Nat.le_of_ble_eq_true rfl) d_rList_152 ⟨Nat.le_of_ble_eq_true rfl, Nat.le_of_ble_eq_true rfl⟩ ⟨Nat.le_refl _, Nat.le_refl _⟩ (fun v sh' σ2 hq => ?_)
  obtain ⟨rfl, rfl, h2⟩ := hP _ _ _ _ h1 hq
  refine fwRun_ok k_rList_155_ok rfl trivial ?_
  refine fwg_iret rfl (Nat.le_refl _) (Nat.le_refl _) ?_ d_rList_159
  show Post (some (.int (σ2.1 37 11))) _ _
  rw [h2]
  exact hp σ2
theorem rl_n {a0 : Int32} {q : Nat} (hF : FreM σ) (ha : a0 &&& 65535 = nI q) (hq : q < 65536) (hq0 : ¬ q = 0) (hq1 : ¬ q = 1) (hq2 : ¬ q = 2) (hq5 : ¬ q = 5) (hq6 : ¬ q = 6) (hq7 : ¬ q = 7) : fwG l Z m_rList 7 0 0 (fun w sh' _ => w = some (.int (aLst a0)) ∧ sh' = shMd re) 0 0 0 [some (.ref 37), some (.int a0), none, none, none, none, none, none] [] (shMd re) σ := by
  have m9 := hF.2.1
  have ne : ∀ k : Nat, k < 65536 → ¬ q = k → ¬ nI q = nI k := fun k hk hn z => hn ((nI_eq (by omega) (by omega)).mp z)
  refine rls_head (q := q) hq ha (c := 0) (by rw [m9 _ hq]; unfold memW; rw [if_neg hq7, if_neg hq6, if_neg hq5, if_neg hq2, if_neg hq1, if_neg hq0]; show (0 : Int32) &&& 255 = 0; decide) (i0 := 0) (by decide) rln_0 rly_0.1 (fun σ1 h1 s1 => ?_)
  rw [rly_0.2]
  refine rls_tail (t := 3) (by decide) h1 (fun {τ} h2 s2 => ops_n) (fun τ v sh' σ' h2 z => ⟨z.1, z.2.1, by rw [z.2.2]; exact h2⟩) (fun σ' => ⟨by show some (Value.int (nI 3)) = some (Value.int (aLst a0)); congr 2; unfold aLst; rw [ha, if_neg (fun z => z.elim (ne 0 (by omega) hq0) (fun z => z.elim (ne 5 (by omega) hq5) (ne 6 (by omega) hq6))), if_neg (show ¬ nI q = 1 from ne 1 (by omega) hq1), if_neg (show ¬ nI q = 2 from ne 2 (by omega) hq2), if_neg (show ¬ nI q = 7 from ne 7 (by omega) hq7)]; rfl, rfl⟩)
theorem rl_0 {a0 : Int32} (hF : FreM σ) (ha : a0 &&& 65535 = nI 0) : fwG l Z m_rList 7 0 0 (fun w sh' _ => w = some (.int (aLst a0)) ∧ sh' = shMd re) 0 0 0 [some (.ref 37), some (.int a0), none, none, none, none, none, none] [] (shMd re) σ := by
  have m9 := hF.2.1
  refine rls_head (q := 0) (by decide) ha (c := 195) (by rw [m9 _ (by decide)]; decide) (i0 := 25) (by decide) rln_195 rly_195.1 (fun σ1 h1 s1 => ?_)
  rw [rly_195.2]
  refine rls_tail (t := 10) (by decide) h1 (fun {τ} h2 s2 => ops_0 h2 (by decide) (by rw [s2.c (by decide), s1.c (by decide), m9 _ (by decide)]; decide) (by rw [s2.c (by decide), s1.c (by decide), m9 _ (by decide)]; decide)) (fun τ v sh' σ' _ z => ⟨z.1, z.2.1, z.2.2.1⟩) (fun σ' => ⟨by show some (Value.int (nI 10)) = some (Value.int (aLst a0)); congr 2; unfold aLst; rw [ha]; decide, rfl⟩)
theorem rl_1 {a0 : Int32} (hF : FreM σ) (ha : a0 &&& 65535 = nI 1) : fwG l Z m_rList 7 0 0 (fun w sh' _ => w = some (.int (aLst a0)) ∧ sh' = shMd re) 0 0 0 [some (.ref 37), some (.int a0), none, none, none, none, none, none] [] (shMd re) σ := by
  have m9 := hF.2.1
  refine rls_head (q := 1) (by decide) ha (c := 3) (by rw [m9 _ (by decide)]; decide) (i0 := 67) (by decide) rln_3 rly_3.1 (fun σ1 h1 s1 => ?_)
  rw [rly_3.2]
  refine rls_tail (t := 5) (by decide) h1 (fun {τ} h2 s2 => ops_1 h2 (by decide)) (fun τ v sh' σ' _ z => ⟨z.1, z.2.1, z.2.2.1⟩) (fun σ' => ⟨by show some (Value.int (nI 5)) = some (Value.int (aLst a0)); congr 2; unfold aLst; rw [ha]; decide, rfl⟩)
theorem rl_2 {a0 : Int32} (hF : FreM σ) (ha : a0 &&& 65535 = nI 2) : fwG l Z m_rList 7 0 0 (fun w sh' _ => w = some (.int (aLst a0)) ∧ sh' = shMd re) 0 0 0 [some (.ref 37), some (.int a0), none, none, none, none, none, none] [] (shMd re) σ := by
  have m9 := hF.2.1
  refine rls_head (q := 2) (by decide) ha (c := 236) (by rw [m9 _ (by decide)]; decide) (i0 := 44) (by decide) rln_236 rly_236.1 (fun σ1 h1 s1 => ?_)
  rw [rly_236.2]
  refine rls_tail (t := 9) (by decide) h1 (fun {τ} h2 s2 => ops_2 h2 (by decide) (by rw [s2.c (by decide), s1.c (by decide), m9 _ (by decide)]; decide) (by rw [s2.c (by decide), s1.c (by decide), m9 _ (by decide)]; decide)) (fun τ v sh' σ' _ z => ⟨z.1, z.2.1, z.2.2.1⟩) (fun σ' => ⟨by show some (Value.int (nI 9)) = some (Value.int (aLst a0)); congr 2; unfold aLst; rw [ha]; decide, rfl⟩)
theorem rl_5 {a0 : Int32} (hF : FreM σ) (ha : a0 &&& 65535 = nI 5) : fwG l Z m_rList 7 0 0 (fun w sh' _ => w = some (.int (aLst a0)) ∧ sh' = shMd re) 0 0 0 [some (.ref 37), some (.int a0), none, none, none, none, none, none] [] (shMd re) σ := by
  have m9 := hF.2.1
  refine rls_head (q := 5) (by decide) ha (c := 195) (by rw [m9 _ (by decide)]; decide) (i0 := 25) (by decide) rln_195 rly_195.1 (fun σ1 h1 s1 => ?_)
  rw [rly_195.2]
  refine rls_tail (t := 10) (by decide) h1 (fun {τ} h2 s2 => ops_5 h2 (by decide) (by rw [s2.c (by decide), s1.c (by decide), m9 _ (by decide)]; decide) (by rw [s2.c (by decide), s1.c (by decide), m9 _ (by decide)]; decide)) (fun τ v sh' σ' _ z => ⟨z.1, z.2.1, z.2.2.1⟩) (fun σ' => ⟨by show some (Value.int (nI 10)) = some (Value.int (aLst a0)); congr 2; unfold aLst; rw [ha]; decide, rfl⟩)
theorem rl_6 {a0 : Int32} (hF : FreM σ) (ha : a0 &&& 65535 = nI 6) : fwG l Z m_rList 7 0 0 (fun w sh' _ => w = some (.int (aLst a0)) ∧ sh' = shMd re) 0 0 0 [some (.ref 37), some (.int a0), none, none, none, none, none, none] [] (shMd re) σ := by
  have m9 := hF.2.1
  refine rls_head (q := 6) (by decide) ha (c := 6) (by rw [m9 _ (by decide)]; decide) (i0 := 75) (by decide) rln_6 rly_6.1 (fun σ1 h1 s1 => ?_)
  rw [rly_6.2]
  refine rls_tail (t := 10) (by decide) h1 (fun {τ} h2 s2 => ops_6 h2 (by decide) (by rw [s2.c (by decide), s1.c (by decide), m9 _ (by decide)]; decide)) (fun τ v sh' σ' _ z => ⟨z.1, z.2.1, z.2.2.1⟩) (fun σ' => ⟨by show some (Value.int (nI 10)) = some (Value.int (aLst a0)); congr 2; unfold aLst; rw [ha]; decide, rfl⟩)
theorem rl_7 {a0 : Int32} (hF : FreM σ) (ha : a0 &&& 65535 = nI 7) : fwG l Z m_rList 7 0 0 (fun w sh' _ => w = some (.int (aLst a0)) ∧ sh' = shMd re) 0 0 0 [some (.ref 37), some (.int a0), none, none, none, none, none, none] [] (shMd re) σ := by
  have m9 := hF.2.1
  refine rls_head (q := 7) (by decide) ha (c := 238) (by rw [m9 _ (by decide)]; decide) (i0 := 52) (by decide) rln_238 rly_238.1 (fun σ1 h1 s1 => ?_)
  rw [rly_238.2]
  refine rls_tail (t := 7) (by decide) h1 (fun {τ} h2 s2 => ops_7 h2 (by decide) (by rw [s2.c (by decide), s1.c (by decide), m9 _ (by decide)]; decide)) (fun τ v sh' σ' _ z => ⟨z.1, z.2.1, z.2.2.1⟩) (fun σ' => ⟨by show some (Value.int (nI 7)) = some (Value.int (aLst a0)); congr 2; unfold aLst; rw [ha]; decide, rfl⟩)
theorem ct_rList {a : Int32} (hF : FreM σ) : fwC l Z m_rList 7 0 0 [.ref 37, .int a] (shMd re) σ (fun w sh' _ => w = some (.int (aLst a)) ∧ sh' = shMd re) := by
  refine fwC_of (ls := [some (.ref 37), some (.int a), none, none, none, none, none, none]) (by decide +kernel) rfl (by rw [fw_sl1]; exact Nat.le_of_ble_eq_true rfl) ?_
  obtain ⟨q, hq, ha⟩ := pk_andE a (m := 65535) 16 (by decide)
  by_cases h0 : q = 0
  · subst h0; exact rl_0 hF ha
  by_cases h1 : q = 1
  · subst h1; exact rl_1 hF ha
  by_cases h2 : q = 2
  · subst h2; exact rl_2 hF ha
  by_cases h5 : q = 5
  · subst h5; exact rl_5 hF ha
  by_cases h6 : q = 6
  · subst h6; exact rl_6 hF ha
  by_cases h7 : q = 7
  · subst h7; exact rl_7 hF ha
  exact rl_n hF ha hq h0 h1 h2 h5 h6 h7
end RLT
