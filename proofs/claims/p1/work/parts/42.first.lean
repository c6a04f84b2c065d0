/-! the class's calls on a new object: console, run, disk, assemble -/
abbrev aSec (t s : Int32) : Prop := ¬ (t < 0) ∧ ¬ (77 ≤ t) ∧ ¬ (s < 1) ∧ ¬ (26 < s)
abbrev aDiskOk (dr t s k : Int32) : Prop := ¬ (dr < 0) ∧ ¬ (1 < dr) ∧ ¬ (k < 0) ∧ ¬ (128 ≤ k) ∧ aSec t s
def aDisk (dr t s k m : Int32) : Int32 := if aDiskOk dr t s k then ((-27) ^^^ m).toInt8.toInt32 &&& 255 else -1
section FST
variable {l : Launch} {Z : fwZ} {e0 e1 e2 e3 : fwE} {re : List fwE} {σ : fwS}
theorem takeTold_loop {n N : Nat} {Post : fwPost} (hn : n ≤ 8000) (hN : n ≤ N) (hN2 : N < 2 ^ 31) {σ0 : fwS} (k : ∀ σ', fwSame [2] σ0 σ' → fwG l Z m_takeTold 2 0 0 Post 0 0 41 [some (.ref 4), some (.ref 2), some (.int (nI n)), some (.int (nI n))] [] (shCon e0 e1 (.inl (.byte, N)) e3 re) σ') : ∀ (q i : Nat) (σ : fwS), i + q = n → fwSame [2] σ0 σ → σ.1 4 3 = 0 → fwG l Z m_takeTold 2 0 0 Post 0 0 12 [some (.ref 4), some (.ref 2), some (.int (nI n)), some (.int (nI i))] [] (shCon e0 e1 (.inl (.byte, N)) e3 re) σ := by
  intro q
  induction q with
  | zero =>
    intro i σ hi hs h3
    obtain rfl : i = n := by omega
    refine fwRun_ok k_takeTold_12_ok rfl trivial ?_
    exact fwg_cmp 41 d_takeTold_14 (by decide) (fun _ => k σ hs) (fun h => absurd (nI_le (Nat.le_refl i) (by omega)) h)
  | succ q ih =>
    intro i σ hi hs h3
    refine fwRun_ok k_takeTold_12_ok rfl trivial ?_
    refine fwg_cmp 41 d_takeTold_14 (by decide) (fun h => absurd (show nI n ≤ nI i from h) (nI_ge (by omega) (by omega))) (fun h => ?_)
    have e : σ.1 4 3 + nI i - (σ.1 4 3 + nI i) / 8000 * 8000 = nI i := by
      rw [h3, ← nI_0, nI_add, Nat.zero_add]
      show nI i - nI i / nI 8000 * nI 8000 = nI i
      rw [pk_rem (by omega) (by decide) (by decide), Nat.mod_eq_of_lt (by omega)]
    refine fwRun_ok k_takeTold_17_ok rfl ⟨by decide, by show vp_in (σ.1 4 3 + nI i - (σ.1 4 3 + nI i) / 8000 * 8000) 8000; rw [e]; exact vp_in_nI (by omega) (by decide), vp_in_nI (by omega) hN2⟩ ?_
    refine fwg_goto 12 d_takeTold_38 (by decide) ?_
    have := ih (i + 1) (fwI σ 2 (nI i).toNatClampNeg (σ.1 5 (σ.1 4 3 + nI i - (σ.1 4 3 + nI i) / 8000 * 8000).toNatClampNeg).toInt8.toInt32) (by omega) (hs.tr (fwSame_I (by decide))) (by rw [fwI_ne (by decide)]; exact h3)
    rw [← nI_1] at this
    exact this
theorem ct_takeTold {n N : Nat} (hn : n ≤ 8000) (hN : n ≤ N) (hN2 : N < 2 ^ 31) (h3 : σ.1 4 3 = 0) (h4 : σ.1 4 4 = nI n) : fwC l Z m_takeTold 2 0 0 [.ref 4, .ref 2] (shCon e0 e1 (.inl (.byte, N)) e3 re) σ (fun w sh' σ' => w = some (.int (nI n)) ∧ sh' = shCon e0 e1 (.inl (.byte, N)) e3 re ∧ fwSame [2, 4] σ σ') := by
  refine fwC_of (ls := [some (.ref 4), some (.ref 2), none, none]) (by decide +kernel) rfl (by rw [fw_sl1]; exact Nat.le_of_ble_eq_true rfl) ?_
  refine fwRun_ok k_takeTold_0_ok rfl trivial ?_
  show fwG l Z m_takeTold _ _ _ _ _ _ 6 _ [.int (nI N), .int (σ.1 4 4)] _ _
  rw [h4]
  refine fwg_callS (n := 2) (as := [.int (nI n), .int (nI N)]) (r := []) (ct_mmin _ _) ⟨by decide, by decide, by decide +kernel⟩ m_mmin_in c_takeTold_6 rfl rfl (Nat.le_of_ble_eq_true rfl) d_takeTold_6 ⟨Nat.le_refl _, Nat.le_of_ble_eq_true rfl⟩ ⟨Nat.le_refl _, Nat.le_refl _⟩ (fun v sh' σ1 hq => ?_)
  obtain ⟨rfl, rfl, rfl⟩ := hq
  rw [if_neg (nI_nlt hN hN2)]
  refine fwRun_ok k_takeTold_9_ok rfl trivial ?_
  refine takeTold_loop (σ0 := σ1) hn hN hN2 (fun σ' hs => ?_) n 0 σ1 (by omega) fwSame.rf h3
  refine fwRun_ok k_takeTold_41_ok rfl trivial ?_
  exact fwg_iret rfl (Nat.le_refl _) (Nat.le_refl _) ⟨rfl, rfl, ((hs.up (by decide)).tr (fwSame_I (by decide))).tr (fwSame_I (by decide))⟩ d_takeTold_52
theorem ct_console (hF : Fre σ) : fwC l Z m_console 3 0 0 [.ref 0] (shMB re) σ (fun w sh' σ' => w = some (.int (nI 9)) ∧ sh' = shMB re ∧ Up σ σ') := by
  refine fwC_of (ls := [some (.ref 0)]) (by decide +kernel) rfl (by rw [fw_sl1]; exact Nat.le_refl 1) ?_
  refine fwRun_ok k_console_0_ok rfl trivial ?_
  refine fwg_callV (n := 1) (i := 4) (as := [.ref 2]) (r := [.ref 0]) (ct_takeTold (n := 9) (N := 58112) (by decide) (by decide) (by decide) hF.2.1.1 hF.2.1.2.1) ⟨by decide, by decide, by decide +kernel⟩ m_takeTold_in c_console_9 rfl rfl rfl rfl (Nat.le_of_ble_eq_true rfl) d_console_9 ⟨Nat.le_refl _, Nat.le_of_ble_eq_true rfl⟩ ⟨Nat.le_refl _, Nat.le_refl _⟩ (fun v sh' σ1 hq => ?_)
  obtain ⟨rfl, rfl, hs⟩ := hq
  refine fwRun_ok k_console_12_ok rfl trivial ?_
  refine fwg_iret rfl (Nat.le_refl _) (Nat.le_refl _) ⟨?_, rfl, (hs.up (by decide)).tr (fwSame_I (by decide))⟩ d_console_19
  show some (Value.int ((fwI σ1 0 11 (nI 9)).1 0 11)) = _
  rw [fwI_eq]
theorem ct_readLine0 (h6 : σ.1 4 6 = 0) : fwC l Z m_readLine 1 0 0 [.ref 4] (shCon e0 e1 e2 e3 re) σ (fwPure (.int 0) (shCon e0 e1 e2 e3 re) σ) := by
  refine fwC_of (ls := [some (.ref 4), none, none]) (by decide +kernel) rfl (by rw [fw_sl1]; exact Nat.le_of_ble_eq_true rfl) ?_
  refine fwRun_ok k_readLine_0_ok rfl trivial ?_
  refine fwRun_ok k_readLine_2_ok rfl trivial ?_
  refine fwg_cmp 106 d_readLine_6 (by decide) (fun q => absurd (show (2000 : Int32) ≤ 0 from q) (by decide)) (fun _ => ?_)
  refine fwRun_ok k_readLine_9_ok rfl trivial ?_
  refine fwg_if 106 d_readLine_13 (by decide) (fun q => ?_) (fun q => absurd (show σ.1 4 6 ≤ 0 by rw [h6]; decide) q)
  refine fwRun_ok k_readLine_106_ok rfl trivial ?_
  exact fwg_iret rfl (Nat.le_refl _) (Nat.le_refl _) ⟨rfl, rfl, rfl⟩ d_readLine_107
theorem ct_goOn0 (h6 : σ.1 4 6 = 0) : fwC l Z m_goOn 2 0 0 [.ref 18] (shMB re) σ (fwPure (.int 0) (shMB re) σ) := by
  refine fwC_of (ls := [some (.ref 18), none, none]) (by decide +kernel) rfl (by rw [fw_sl1]; exact Nat.le_of_ble_eq_true rfl) ?_
  refine fwRun_ok k_goOn_0_ok rfl trivial ?_
  refine fwg_callV (n := 0) (i := 4) (as := []) (r := []) (ct_readLine0 h6) ⟨by decide, by decide, by decide +kernel⟩ m_readLine_in c_goOn_4 rfl rfl rfl rfl (Nat.le_of_ble_eq_true rfl) d_goOn_4 ⟨Nat.le_refl _, Nat.le_of_ble_eq_true rfl⟩ ⟨Nat.le_refl _, Nat.le_refl _⟩ (fun v sh' σ1 hq => ?_)
  obtain ⟨rfl, rfl, rfl⟩ := hq
  refine fwRun_ok k_goOn_7_ok rfl trivial ?_
  refine fwg_if 14 d_goOn_9 (by decide) (fun q => absurd rfl q) (fun _ => ?_)
  refine fwRun_ok k_goOn_12_ok rfl trivial ?_
  exact fwg_zret rfl rfl (Nat.le_refl _) (Nat.le_refl _) ⟨rfl, rfl, rfl⟩ d_goOn_13
theorem ct_isSector {sh : List fwE} {t s : Int32} : fwC l Z m_isSector 1 0 0 [.int t, .int s] sh σ (fwPure (.int (if aSec t s then 1 else 0)) sh σ) := by
  refine fwC_of (ls := [some (.int t), some (.int s)]) (by decide +kernel) rfl (by rw [fw_sl1]; exact Nat.le_refl 2) ?_
  have k25 : ¬ aSec t s → fwG l Z m_isSector 1 0 0 (fwPure (.int (if aSec t s then 1 else 0)) sh σ) 0 0 25 [some (.int t), some (.int s)] [] sh σ := by
    intro h
    refine fwRun_ok k_isSector_25_ok rfl trivial ?_
    exact fwg_zret rfl rfl (Nat.le_refl _) (Nat.le_refl _) ⟨by rw [if_neg h], rfl, rfl⟩ d_isSector_26
  refine fwRun_ok k_isSector_0_ok rfl trivial ?_
  refine fwg_if 25 d_isSector_1 (by decide) (fun h => k25 (fun q => q.1 h)) (fun h1 => ?_)
  refine fwRun_ok k_isSector_4_ok rfl trivial ?_
  refine fwg_cmp 25 d_isSector_7 (by decide) (fun h => k25 (fun q => q.2.1 h)) (fun h2 => ?_)
  refine fwRun_ok k_isSector_10_ok rfl trivial ?_
  refine fwg_cmp 25 d_isSector_12 (by decide) (fun h => k25 (fun q => q.2.2.1 h)) (fun h3 => ?_)
  refine fwRun_ok k_isSector_15_ok rfl trivial ?_
  refine fwg_cmp 25 d_isSector_18 (by decide) (fun h => k25 (fun q => q.2.2.2 h)) (fun h4 => ?_)
  refine fwRun_ok k_isSector_21_ok rfl trivial ?_
  refine fwg_goto 26 d_isSector_22 (by decide) ?_
  exact fwg_zret rfl rfl (Nat.le_refl _) (Nat.le_refl _) ⟨by rw [if_pos (show aSec t s from ⟨h1, h2, h3, h4⟩)], rfl, rfl⟩ d_isSector_26
theorem ct_place {sh : List fwE} {dr t s : Nat} (hd : dr < 2) (ht : t < 77) (hs : 1 ≤ s ∧ s ≤ 26) : fwC l Z m_sectorPlace 1 0 0 [.int (nI dr), .int (nI t), .int (nI s)] sh σ (fwPure (.int (nI (dr * 256256 + (t * 26 + s - 1) * 128))) sh σ) := by
  refine fwC_of (ls := [some (.int (nI dr)), some (.int (nI t)), some (.int (nI s))]) (by decide +kernel) rfl (by rw [fw_sl1]; exact Nat.le_refl 3) ?_
  refine fwRun_ok k_sectorPlace_0_ok rfl trivial ?_
  refine fwg_iret rfl (Nat.le_refl _) (Nat.le_refl _) ⟨?_, rfl, rfl⟩ d_sectorPlace_17
  show some (Value.int (nI dr * nI 256256 + (nI t * nI 26 + nI s - nI 1) * nI 128)) = _
  rw [pk_mul, pk_mul, nI_add, pk_sub (by omega), pk_mul, nI_add]
end FST
