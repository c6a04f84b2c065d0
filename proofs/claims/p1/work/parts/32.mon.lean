/-! the class's processor, files and monitor, as far as a boot goes -/
def sPro : fwE := .inr (8, [.ref 9, .ref 10, .ref 4, .int 0, .int 0, .int 0, .long 0, .int 0])
def sFil : fwE := .inr (4, [.ref 12, .ref 13, .ref 14, .ref 15, .ref 16, .int 0, .int 0, .int 0, .int 0, .int 0, .int 0, .int 0, .int 0, .int 0])
def sMon : fwE := .inr (7, [.ref 8, .ref 4, .ref 11, .int 0, .int 0, .int 0, .int 0, .int 0])
abbrev shMon (e0 e1 e2 e3 : fwE) (re : List fwE) : List fwE := shCon e0 e1 e2 e3 (sPro :: .inl (.byte, 65536) :: .inl (.int, 8) :: sFil :: .inl (.byte, 512512) :: .inl (.int, 1944) :: .inl (.boolean, 486) :: .inl (.int, 36) :: .inl (.int, 36) :: sMon :: re)
theorem fw_b2 (v : Int32) : v.toInt8.toInt32.toInt8.toInt32 = v.toInt8.toInt32 := (vp_nar_byte _).symm.trans (pk_vb v)
section MON
variable {l : Launch} {Z : fwZ} {e0 e1 e2 e3 : fwE} {re : List fwE} {σ : fwS}
/-- a call's last words: names are plain, parameters counted -/
theorem ct_poke {a v : Int32} : fwC l Z m_poke 1 0 0 [.ref 8, .int a, .int v] (shMon e0 e1 e2 e3 re) σ (fun w sh' σ' => w = none ∧ sh' = shMon e0 e1 e2 e3 re ∧ σ' = fwI σ 9 (a &&& 65535).toNatClampNeg v.toInt8.toInt32) := by
  refine fwC_of (ls := [some (.ref 8), some (.int a), some (.int v)]) (by decide +kernel) rfl (by rw [fw_sl1]; exact Nat.le_refl 3) ?_
  refine fwRun_ok k_poke_0_ok rfl (pk_andIn a 16 (by decide) (by decide)) ?_
  refine fwg_vret rfl (Nat.le_refl _) (Nat.le_refl _) ⟨rfl, rfl, ?_⟩ d_poke_11
  show fwI σ 9 _ v.toInt8.toInt32.toInt8.toInt32 = _
  congr 1
  exact fw_b2 v
theorem ct_pokeWord {a v : Int32} : fwC l Z m_pokeWord 1 0 0 [.ref 8, .int a, .int v] (shMon e0 e1 e2 e3 re) σ (fun w sh' σ' => w = none ∧ sh' = shMon e0 e1 e2 e3 re ∧ σ' = fwI (fwI σ 9 (a &&& 65535).toNatClampNeg v.toInt8.toInt32.toInt8.toInt32) 9 ((a + 1) &&& 65535).toNatClampNeg (v >>> (8 &&& 31)).toInt8.toInt32.toInt8.toInt32) := by
  refine fwC_of (ls := [some (.ref 8), some (.int a), some (.int v)]) (by decide +kernel) rfl (by rw [fw_sl1]; exact Nat.le_refl 3) ?_
  refine fwRun_ok k_pokeWord_0_ok rfl ⟨pk_andIn a 16 (by decide) (by decide), pk_andIn (a + 1) 16 (by decide) (by decide)⟩ ?_
  exact fwg_vret rfl (Nat.le_refl _) (Nat.le_refl _) ⟨rfl, rfl, rfl⟩ d_pokeWord_27
theorem ct_clearRegs : fwC l Z m_clearRegs 2 0 0 [.ref 8] (shMon e0 e1 e2 e3 re) σ (fun w sh' σ' => w = none ∧ sh' = shMon e0 e1 e2 e3 re ∧ σ' = fwI (fwI (fwA σ 10 (fwFill (σ.1 10) 8 0)) 8 3 2) 8 4 0) := by
  refine fwC_of (ls := [some (.ref 8)]) (by decide +kernel) rfl (by rw [fw_sl1]; exact Nat.le_refl 1) ?_
  refine fwRun_ok k_clearRegs_0_ok rfl trivial ?_
  refine fwg_callS (n := 2) (as := [.ref 10, .int 0]) (r := []) (ct_fillI (n := 8) rfl (by decide)) ⟨by decide, by decide, by decide +kernel⟩ m_fillI_in c_clearRegs_5 rfl rfl (Nat.le_of_ble_eq_true rfl) d_clearRegs_5 ⟨Nat.le_refl _, Nat.le_of_ble_eq_true rfl⟩ ⟨Nat.le_refl _, Nat.le_refl _⟩ (fun v sh' σ1 hq => ?_)
  obtain ⟨rfl, rfl, rfl⟩ := hq
  refine fwRun_ok k_clearRegs_8_ok rfl trivial ?_
  exact fwg_vret rfl (Nat.le_refl _) (Nat.le_refl _) ⟨rfl, rfl, rfl⟩ d_clearRegs_18
theorem ct_forget : fwC l Z m_forget 1 0 0 [.ref 11] (shMon e0 e1 e2 e3 re) σ (fun w sh' σ' => w = none ∧ sh' = shMon e0 e1 e2 e3 re ∧ σ' = fwI (fwI σ 11 8 0) 11 7 0) := by
  refine fwC_of (ls := [some (.ref 11)]) (by decide +kernel) rfl (by rw [fw_sl1]; exact Nat.le_refl 1) ?_
  refine fwRun_ok k_forget_0_ok rfl (Or.inl rfl) ?_
  exact fwg_vret rfl (Nat.le_refl _) (Nat.le_refl _) ⟨rfl, rfl, rfl⟩ d_forget_10
theorem ct_openLine {x : Int32} : fwC l Z m_openLine 2 0 0 [.ref 4, .int x] (shCon e0 e1 e2 e3 re) σ (fun w sh' σ' => w = none ∧ sh' = shCon e0 e1 e2 e3 re ∧ σ' = fwI (fwI (fwI σ 4 8 (if (256 : Int32) < x then 256 else x)) 4 7 0) 4 9 1) := by
  refine fwC_of (ls := [some (.ref 4), some (.int x)]) (by decide +kernel) rfl (by rw [fw_sl1]; exact Nat.le_refl 2) ?_
  refine fwRun_ok k_openLine_0_ok rfl trivial ?_
  refine fwg_callS (n := 2) (as := [.int x, .int (Int32.ofNat 256)]) (r := [.ref 4]) (ct_mmin x _) ⟨by decide, by decide, by decide +kernel⟩ m_mmin_in c_openLine_7 rfl rfl (Nat.le_of_ble_eq_true rfl) d_openLine_7 ⟨Nat.le_refl _, Nat.le_of_ble_eq_true rfl⟩ ⟨Nat.le_refl _, Nat.le_refl _⟩ (fun v sh' σ1 hq => ?_)
  obtain ⟨rfl, rfl, rfl⟩ := hq
  refine fwRun_ok k_openLine_10_ok rfl (Or.inr rfl) ?_
  exact fwg_vret rfl (Nat.le_refl _) (Nat.le_refl _) ⟨rfl, rfl, rfl⟩ d_openLine_23
/-- what a boot needs of the files: nothing stands on the disks, the records' places are on a drive -/
def FilOk (σ : fwS) : Prop := (∀ j, j < 512512 → σ.1 12 j = -27) ∧ ∀ k, k < 1944 → ∃ q, σ.1 13 k = nI q ∧ q + 128 ≤ 256256
theorem ct_entryPlace {e : Nat} (hF : FilOk σ) (he : e < 64) : fwC l Z m_entryPlace 1 0 0 [.ref 11, .int 0, .int (nI e)] (shMon e0 e1 e2 e3 re) σ (fun w sh' σ' => (∃ q, w = some (.int (nI q)) ∧ q + 32 ≤ 256256) ∧ sh' = shMon e0 e1 e2 e3 re ∧ σ' = σ) := by
  refine fwC_of (ls := [some (.ref 11), some (.int 0), some (.int (nI e))]) (by decide +kernel) rfl (by rw [fw_sl1]; exact Nat.le_refl 3) ?_
  have h1 : nI e >>> ((2 : Int32) &&& 31) = nI (e / 4) := pk_shrN (by omega) _ 2 (by decide)
  have h2 : nI e &&& 3 = nI (e % 4) := pk_andN (by omega) 2 (by decide)
  refine fwRun_ok k_entryPlace_0_ok rfl ?_ ?_
  · show vp_in (nI e >>> ((2 : Int32) &&& 31)) 1944
    rw [h1]
    exact vp_in_nI (by omega) (by decide)
  · obtain ⟨q, hq, hq2⟩ := hF.2 (e / 4) (by omega)
    refine fwg_iret rfl (Nat.le_refl _) (Nat.le_refl _) ⟨⟨q + e % 4 * 32, ?_, by omega⟩, rfl, rfl⟩ d_entryPlace_20
    show some (Value.int ((0 : Int32) * 256256 + σ.1 13 (nI e >>> ((2 : Int32) &&& 31)).toNatClampNeg + (nI e &&& 3) * 32)) = _
    rw [h1, h2, nI_clamp (by omega), hq]
    congr 2
    rw [show (0 : Int32) * 256256 = nI 0 from by decide, show (32 : Int32) = nI 32 from rfl, pk_mul, nI_add, nI_add]
    congr 1
    omega
theorem login_2 {Post : fwPost} (hF : FilOk σ) (hp : Post none (shMon e0 e1 e2 e3 re) σ) : ∀ (q e : Nat) (ls3 : Option Value), e + q = 64 → fwG l Z m_login 2 0 0 Post 0 0 63 [some (.ref 11), some (.int 0), some (.int (nI e)), ls3] [] (shMon e0 e1 e2 e3 re) σ := by
  intro q
  induction q with
  | zero =>
    intro e ls3 he
    refine fwRun_ok k_login_63_ok rfl trivial ?_
    refine fwg_cmp 105 d_login_66 (by decide) (fun h => ?_) (fun h => absurd (nI_le (a := 64) (by omega) (by omega)) h)
    exact fwg_vret rfl (Nat.le_refl _) (Nat.le_refl _) hp d_login_105
  | succ q ih =>
    intro e ls3 he
    refine fwRun_ok k_login_63_ok rfl trivial ?_
    refine fwg_cmp 105 d_login_66 (by decide) (fun h => absurd (show (64 : Int32) ≤ nI e from h) (nI_ge (b := 64) (by omega) (by decide))) (fun h => ?_)
    refine fwRun_ok k_login_69_ok rfl trivial ?_
    refine fwg_callV (n := 2) (i := 11) (as := [.int 0, .int (nI e)]) (r := []) (ct_entryPlace hF (by omega)) ⟨by decide, by decide, by decide +kernel⟩ m_entryPlace_in c_login_72 rfl rfl rfl rfl (Nat.le_of_ble_eq_true rfl) d_login_72 ⟨Nat.le_of_ble_eq_true rfl, Nat.le_of_ble_eq_true rfl⟩ ⟨Nat.le_refl _, Nat.le_refl _⟩ (fun v sh' σ' hq => ?_)
    obtain ⟨⟨z, rfl, hz⟩, rfl, rfl⟩ := hq
    refine fwRun_ok k_login_75_ok rfl (vp_in_nI (by omega) (by decide)) ?_
    refine fwg_cmp 99 d_login_89 (by decide) (fun h => ?_) (fun h => ?_)
    · refine fwRun_ok k_login_99_ok rfl trivial ?_
      refine fwg_goto 63 d_login_102 (by decide) ?_
      have := ih (e + 1) (some (.int (nI z))) (by omega)
      rw [← nI_1] at this
      exact this
    · refine absurd ?_ h
      show σ'.1 12 (nI z).toNatClampNeg &&& 255 = 229
      rw [nI_clamp (by omega), hF.1 z (by omega)]
      decide
theorem login_1 {Post : fwPost} {σ0 : fwS} (hF : FilOk σ0) (hp : ∀ σ', fwSame [14] σ0 σ' → Post none (shMon e0 e1 e2 e3 re) σ') : ∀ (q b : Nat) (σ : fwS), b + q = 243 → fwSame [14] σ0 σ → fwG l Z m_login 2 0 0 Post 0 0 26 [some (.ref 11), some (.int 0), some (.int (nI b)), none] [] (shMon e0 e1 e2 e3 re) σ := by
  intro q
  induction q with
  | zero =>
    intro b σ hb hs
    refine fwRun_ok k_login_26_ok rfl trivial ?_
    refine fwg_cmp 61 d_login_30 (by decide) (fun h => ?_) (fun h => absurd (nI_le (a := 243) (by omega) (by omega)) h)
    refine fwRun_ok k_login_61_ok rfl trivial ?_
    refine login_2 ⟨fun j hj => ?_, fun k hk => ?_⟩ (hp σ hs) 64 0 none rfl
    · rw [(hs 12 (by decide)).1]; exact hF.1 j hj
    · rw [(hs 13 (by decide)).1]; exact hF.2 k hk
  | succ q ih =>
    intro b σ hb hs
    refine fwRun_ok k_login_26_ok rfl trivial ?_
    refine fwg_cmp 61 d_login_30 (by decide) (fun h => absurd (show (243 : Int32) ≤ nI b from h) (nI_ge (b := 243) (by omega) (by decide))) (fun h => ?_)
    refine fwRun_ok k_login_33_ok rfl trivial ?_
    have key : ∀ x : Int32, fwG l Z m_login 2 0 0 Post 0 0 54 [some (.ref 11), some (.int 0), some (.int (nI b)), none] [.int x, .int ((0 : Int32) * 243 + nI b), .ref 14] (shMon e0 e1 e2 e3 re) σ := by
      intro x
      have hx : (0 : Int32) * 243 + nI b = nI b := by rw [show (0 : Int32) * 243 = nI 0 from by decide, nI_add, Nat.zero_add]
      rw [hx]
      refine fwRun_ok k_login_54_ok rfl (vp_in_nI (by omega) (by decide)) ?_
      refine fwg_goto 26 d_login_58 (by decide) ?_
      have := ih (b + 1) (fwI σ 14 (nI b).toNatClampNeg (x &&& 1)) (by omega) (hs.tr (fwSame_I (by decide)))
      rw [← nI_1] at this
      exact this
    refine fwg_cmp 53 d_login_46 (by decide) (fun h => ?_) (fun h => ?_)
    · refine fwRun_ok k_login_53_ok rfl trivial ?_
      exact key 0
    · refine fwRun_ok k_login_49_ok rfl trivial ?_
      refine fwg_goto 54 d_login_50 (by decide) ?_
      exact key 1
theorem ct_login (hF : FilOk σ) (h0 : σ.1 11 8 = 0) : fwC l Z m_login 2 0 0 [.ref 11, .int 0] (shMon e0 e1 e2 e3 re) σ (fun w sh' σ' => w = none ∧ sh' = shMon e0 e1 e2 e3 re ∧ fwSame [14] (fwI σ 11 8 1) σ') := by
  refine fwC_of (ls := [some (.ref 11), some (.int 0), none, none]) (by decide +kernel) rfl (by rw [fw_sl1]; exact Nat.le_of_ble_eq_true rfl) ?_
  refine fwRun_ok k_login_0_ok rfl trivial ?_
  refine fwg_if 12 d_login_8 (by decide) (fun h => ?_) (fun h => ?_)
  · refine fwRun_ok k_login_12_ok rfl trivial ?_
    show fwG l Z m_login 2 0 0 _ 0 0 26 _ _ _ (fwI σ 11 8 (σ.1 11 8 ||| (1 : Int32) <<< ((0 : Int32) &&& 31)))
    rw [h0, show ((0 : Int32) ||| (1 : Int32) <<< ((0 : Int32) &&& 31)) = 1 from by decide]
    refine login_1 (σ0 := fwI σ 11 8 1) ⟨fun j hj => ?_, fun k hk => ?_⟩ (fun σ' h => ⟨rfl, rfl, h⟩) 243 0 _ rfl fwSame.rf
    · rw [fwI_ne (by decide)]; exact hF.1 j hj
    · rw [fwI_ne (by decide)]; exact hF.2 k hk
  · refine absurd ?_ h
    show (σ.1 11 8 >>> ((0 : Int32) &&& 31)) &&& 1 = 0
    rw [h0]
    decide
end MON
