/-! the constructors of console, processor, files, monitor (laid by wip/whole/t5.py) -/
theorem fwAc_byte : Cond.arrayClass (newarray.typeOf .byte) ∈ fwT := fwT_mem (List.mem_of_getElem? (i := 357) (by decide +kernel)) rfl
theorem fwAc_int : Cond.arrayClass (newarray.typeOf .int) ∈ fwT := fwT_mem (List.mem_of_getElem? (i := 358) (by decide +kernel)) rfl
theorem fwAc_boolean : Cond.arrayClass (newarray.typeOf .boolean) ∈ fwT := fwT_mem (List.mem_of_getElem? (i := 485) (by decide +kernel)) rfl
theorem fwAc_long : Cond.arrayClass (newarray.typeOf .long) ∈ fwT := fwT_mem (List.mem_of_getElem? (i := 654) (by decide +kernel)) rfl
section INI
variable {l : Launch} {Z : fwZ} {e0 e1 e2 e3 : fwE} {σ : fwS}
theorem ct_iCon : fwC l Z m_iCon 1 3 10256 [.ref 4] [e0, e1, e2, e3, .inr (3, fwTmpl 3)] σ (fun w sh' σ' => w = none ∧ sh' = shCon e0 e1 e2 e3 [] ∧ fwSame [5, 6, 7] σ σ') := by
  refine fwC_of (ls := [some (.ref 4)]) (by decide +kernel) rfl (by rw [fw_sl1]; exact Nat.le_refl 1) ?_
  refine fwRun_ok k_iCon_0_ok rfl trivial ?_
  refine fwg_objInit c_iCon_1 (by decide) (Nat.le_of_ble_eq_true rfl) d_iCon_1 ?_
  refine fwRun_ok k_iCon_4_ok rfl trivial ?_
  refine fwg_newa' 8000 5 (e0 :: e1 :: e2 :: e3 :: .inr (3, fwTmpl 3) :: .inl (.byte, 8000) :: []) (by decide) fwAc_byte d_iCon_8 (by decide) (by decide) (by decide) (Nat.le_of_ble_eq_true rfl) (Nat.le_of_ble_eq_true rfl) rfl rfl ?_
  refine fwg_putR' (ci := 3) (kk := 0) (e0 :: e1 :: e2 :: e3 :: .inr (3, [.ref 5, .null, .null, .int 0, .int 0, .int 0, .int 0, .int 0, .int 0, .int 0]) :: .inl (.byte, 8000) :: []) rfl (by decide) (Or.inl ⟨_, rfl⟩) (List.mem_of_getElem? (i := 0) rfl) rfl rfl (fun _ => ⟨rfl, rfl⟩) rfl d_iCon_10 rfl ?_
  refine fwRun_ok k_iCon_13_ok rfl trivial ?_
  refine fwg_newa' 2000 6 (e0 :: e1 :: e2 :: e3 :: .inr (3, [.ref 5, .null, .null, .int 0, .int 0, .int 0, .int 0, .int 0, .int 0, .int 0]) :: .inl (.byte, 8000) :: .inl (.byte, 2000) :: []) (by decide) fwAc_byte d_iCon_17 (by decide) (by decide) (by decide) (Nat.le_of_ble_eq_true rfl) (Nat.le_of_ble_eq_true rfl) rfl rfl ?_
  refine fwg_putR' (ci := 3) (kk := 1) (e0 :: e1 :: e2 :: e3 :: .inr (3, [.ref 5, .ref 6, .null, .int 0, .int 0, .int 0, .int 0, .int 0, .int 0, .int 0]) :: .inl (.byte, 8000) :: .inl (.byte, 2000) :: []) rfl (by decide) (Or.inl ⟨_, rfl⟩) (List.mem_of_getElem? (i := 1) rfl) rfl rfl (fun _ => ⟨rfl, rfl⟩) rfl d_iCon_19 rfl ?_
  refine fwRun_ok k_iCon_22_ok rfl trivial ?_
  refine fwg_newa' 256 7 (e0 :: e1 :: e2 :: e3 :: .inr (3, [.ref 5, .ref 6, .null, .int 0, .int 0, .int 0, .int 0, .int 0, .int 0, .int 0]) :: .inl (.byte, 8000) :: .inl (.byte, 2000) :: .inl (.int, 256) :: []) (by decide) fwAc_int d_iCon_26 (by decide) (by decide) (by decide) (Nat.le_of_ble_eq_true rfl) (Nat.le_of_ble_eq_true rfl) rfl rfl ?_
  refine fwg_putR' (ci := 3) (kk := 2) (e0 :: e1 :: e2 :: e3 :: sCon :: .inl (.byte, 8000) :: .inl (.byte, 2000) :: .inl (.int, 256) :: []) rfl (by decide) (Or.inl ⟨_, rfl⟩) (List.mem_of_getElem? (i := 2) rfl) rfl rfl (fun _ => ⟨rfl, rfl⟩) rfl d_iCon_28 rfl ?_
  refine fwg_vret rfl (Nat.le_of_ble_eq_true rfl) (Nat.le_of_ble_eq_true rfl) ⟨rfl, rfl, ?_⟩ d_iCon_31
  exact ((fwSame_0 (by decide)).tr (fwSame_0 (by decide))).tr (fwSame_0 (by decide))
theorem ct_iPro : fwC l Z m_iPro 1 2 65544 [.ref 8, .ref 4] (shCon e0 e1 e2 e3 [.inr (8, fwTmpl 8)]) σ (fun w sh' σ' => w = none ∧ sh' = shCon e0 e1 e2 e3 (sPro :: .inl (.byte, 65536) :: .inl (.int, 8) :: []) ∧ fwSame [8, 9, 10] σ σ' ∧ σ'.2 8 = σ.2 8) := by
  refine fwC_of (ls := [some (.ref 8), some (.ref 4)]) (by decide +kernel) rfl (by rw [fw_sl1]; exact Nat.le_refl 2) ?_
  refine fwRun_ok k_iPro_0_ok rfl trivial ?_
  refine fwg_objInit c_iPro_1 (by decide) (Nat.le_of_ble_eq_true rfl) d_iPro_1 ?_
  refine fwRun_ok k_iPro_4_ok rfl trivial ?_
  refine fwg_newa' 65536 9 (e0 :: e1 :: e2 :: e3 :: sCon :: .inl (.byte, 8000) :: .inl (.byte, 2000) :: .inl (.int, 256) :: .inr (8, fwTmpl 8) :: .inl (.byte, 65536) :: []) (by decide) fwAc_byte d_iPro_7 (by decide) (by decide) (by decide) (Nat.le_of_ble_eq_true rfl) (Nat.le_of_ble_eq_true rfl) rfl rfl ?_
  refine fwg_putR' (ci := 8) (kk := 0) (e0 :: e1 :: e2 :: e3 :: sCon :: .inl (.byte, 8000) :: .inl (.byte, 2000) :: .inl (.int, 256) :: .inr (8, [.ref 9, .null, .null, .int 0, .int 0, .int 0, .long 0, .int 0]) :: .inl (.byte, 65536) :: []) rfl (by decide) (Or.inl ⟨_, rfl⟩) (List.mem_of_getElem? (i := 18) rfl) rfl rfl (fun _ => ⟨rfl, rfl⟩) rfl d_iPro_9 rfl ?_
  refine fwRun_ok k_iPro_12_ok rfl trivial ?_
  refine fwg_newa' 8 10 (e0 :: e1 :: e2 :: e3 :: sCon :: .inl (.byte, 8000) :: .inl (.byte, 2000) :: .inl (.int, 256) :: .inr (8, [.ref 9, .null, .null, .int 0, .int 0, .int 0, .long 0, .int 0]) :: .inl (.byte, 65536) :: .inl (.int, 8) :: []) (by decide) fwAc_int d_iPro_15 (by decide) (by decide) (by decide) (Nat.le_of_ble_eq_true rfl) (Nat.le_of_ble_eq_true rfl) rfl rfl ?_
  refine fwg_putR' (ci := 8) (kk := 1) (e0 :: e1 :: e2 :: e3 :: sCon :: .inl (.byte, 8000) :: .inl (.byte, 2000) :: .inl (.int, 256) :: .inr (8, [.ref 9, .ref 10, .null, .int 0, .int 0, .int 0, .long 0, .int 0]) :: .inl (.byte, 65536) :: .inl (.int, 8) :: []) rfl (by decide) (Or.inl ⟨_, rfl⟩) (List.mem_of_getElem? (i := 22) rfl) rfl rfl (fun _ => ⟨rfl, rfl⟩) rfl d_iPro_17 rfl ?_
  refine fwRun_ok k_iPro_20_ok rfl trivial ?_
  refine fwg_putR' (ci := 8) (kk := 2) (e0 :: e1 :: e2 :: e3 :: sCon :: .inl (.byte, 8000) :: .inl (.byte, 2000) :: .inl (.int, 256) :: sPro :: .inl (.byte, 65536) :: .inl (.int, 8) :: []) rfl (by decide) (Or.inl ⟨_, rfl⟩) (List.mem_of_getElem? (i := 25) rfl) rfl rfl (fun _ => ⟨rfl, rfl⟩) rfl d_iPro_27 rfl ?_
  refine fwg_vret rfl (Nat.le_of_ble_eq_true rfl) (Nat.le_of_ble_eq_true rfl) ⟨rfl, rfl, ?_, rfl⟩ d_iPro_30
  exact ((fwSame_0 (by decide)).tr (fwSame_0 (by decide))).tr (fwSame_I (by decide))
theorem ct_iMon : fwC l Z m_iMon 1 0 0 [.ref 17, .ref 8, .ref 4, .ref 11] (shCon e0 e1 e2 e3 (sPro :: .inl (.byte, 65536) :: .inl (.int, 8) :: sFil :: .inl (.byte, 512512) :: .inl (.int, 1944) :: .inl (.boolean, 486) :: .inl (.int, 36) :: .inl (.int, 36) :: .inr (7, fwTmpl 7) :: [])) σ (fun w sh' σ' => w = none ∧ sh' = shMon e0 e1 e2 e3 [] ∧ fwSame [17] σ σ') := by
  refine fwC_of (ls := [some (.ref 17), some (.ref 8), some (.ref 4), some (.ref 11)]) (by decide +kernel) rfl (by rw [fw_sl1]; exact Nat.le_refl 4) ?_
  refine fwRun_ok k_iMon_0_ok rfl trivial ?_
  refine fwg_objInit c_iMon_1 (by decide) (Nat.le_of_ble_eq_true rfl) d_iMon_1 ?_
  refine fwRun_ok k_iMon_4_ok rfl trivial ?_
  refine fwg_putR' (ci := 7) (kk := 0) (e0 :: e1 :: e2 :: e3 :: sCon :: .inl (.byte, 8000) :: .inl (.byte, 2000) :: .inl (.int, 256) :: sPro :: .inl (.byte, 65536) :: .inl (.int, 8) :: sFil :: .inl (.byte, 512512) :: .inl (.int, 1944) :: .inl (.boolean, 486) :: .inl (.int, 36) :: .inl (.int, 36) :: .inr (7, [.ref 8, .null, .null, .int 0, .int 0, .int 0, .int 0, .int 0]) :: []) rfl (by decide) (Or.inl ⟨_, rfl⟩) (List.mem_of_getElem? (i := 74) rfl) rfl rfl (fun _ => ⟨rfl, rfl⟩) rfl d_iMon_6 rfl ?_
  refine fwRun_ok k_iMon_9_ok rfl trivial ?_
  refine fwg_putR' (ci := 7) (kk := 1) (e0 :: e1 :: e2 :: e3 :: sCon :: .inl (.byte, 8000) :: .inl (.byte, 2000) :: .inl (.int, 256) :: sPro :: .inl (.byte, 65536) :: .inl (.int, 8) :: sFil :: .inl (.byte, 512512) :: .inl (.int, 1944) :: .inl (.boolean, 486) :: .inl (.int, 36) :: .inl (.int, 36) :: .inr (7, [.ref 8, .ref 4, .null, .int 0, .int 0, .int 0, .int 0, .int 0]) :: []) rfl (by decide) (Or.inl ⟨_, rfl⟩) (List.mem_of_getElem? (i := 76) rfl) rfl rfl (fun _ => ⟨rfl, rfl⟩) rfl d_iMon_11 rfl ?_
  refine fwRun_ok k_iMon_14_ok rfl trivial ?_
  refine fwg_putR' (ci := 7) (kk := 2) (e0 :: e1 :: e2 :: e3 :: sCon :: .inl (.byte, 8000) :: .inl (.byte, 2000) :: .inl (.int, 256) :: sPro :: .inl (.byte, 65536) :: .inl (.int, 8) :: sFil :: .inl (.byte, 512512) :: .inl (.int, 1944) :: .inl (.boolean, 486) :: .inl (.int, 36) :: .inl (.int, 36) :: sMon :: []) rfl (by decide) (Or.inl ⟨_, rfl⟩) (List.mem_of_getElem? (i := 78) rfl) rfl rfl (fun _ => ⟨rfl, rfl⟩) rfl d_iMon_16 rfl ?_
  exact fwg_vret rfl (Nat.le_of_ble_eq_true rfl) (Nat.le_of_ble_eq_true rfl) ⟨rfl, rfl, fwSame.rf⟩ d_iMon_19
theorem ct_sectorOf {sh : List fwE} {i : Nat} (hi : i < 26) : fwC l Z m_sectorOf 1 0 0 [.int (nI i)] sh σ (fun w sh' σ' => (∃ q, w = some (.int (nI q)) ∧ 1 ≤ q ∧ q ≤ 26) ∧ sh' = sh ∧ σ' = σ) := by
  refine fwC_of (ls := [some (.int (nI i))]) (by decide +kernel) rfl (by rw [fw_sl1]; exact Nat.le_refl 1) ?_
  refine fwRun_ok k_sectorOf_0_ok rfl ⟨by decide, show ¬ (26 : Int32) = 0 by decide⟩ ?_
  refine fwg_iret rfl (Nat.le_refl _) (Nat.le_refl _) ⟨⟨1 + (6 * i + i / 13) % 26, ?_, by omega, by omega⟩, rfl, rfl⟩ d_sectorOf_14
  show some (Value.int (nI 1 + ((nI 6 * nI i + nI i / nI 13) - (nI 6 * nI i + nI i / nI 13) / nI 26 * nI 26))) = _
  rw [pk_mul, pk_div (by omega) (by decide) (by decide), nI_add, pk_rem (by omega) (by decide) (by decide), nI_add]
theorem ct_sectorPlace {sh : List fwE} {t s : Nat} (ht : t < 77) (hs : 1 ≤ s ∧ s ≤ 26) : fwC l Z m_sectorPlace 1 0 0 [.int 0, .int (nI t), .int (nI s)] sh σ (fun w sh' σ' => (∃ q, w = some (.int (nI q)) ∧ q + 128 ≤ 256256) ∧ sh' = sh ∧ σ' = σ) := by
  refine fwC_of (ls := [some (.int 0), some (.int (nI t)), some (.int (nI s))]) (by decide +kernel) rfl (by rw [fw_sl1]; exact Nat.le_refl 3) ?_
  refine fwRun_ok k_sectorPlace_0_ok rfl trivial ?_
  refine fwg_iret rfl (Nat.le_refl _) (Nat.le_refl _) ⟨⟨(t * 26 + s - 1) * 128, ?_, by omega⟩, rfl, rfl⟩ d_sectorPlace_17
  show some (Value.int ((0 : Int32) * 256256 + (nI t * nI 26 + nI s - nI 1) * nI 128)) = _
  rw [show (0 : Int32) * 256256 = nI 0 from by decide, pk_mul, nI_add, pk_sub (by omega), pk_mul, nI_add, Nat.zero_add]
abbrev shFil (e0 e1 e2 e3 : fwE) (re : List fwE) : List fwE := shCon e0 e1 e2 e3 (sPro :: .inl (.byte, 65536) :: .inl (.int, 8) :: sFil :: .inl (.byte, 512512) :: .inl (.int, 1944) :: .inl (.boolean, 486) :: .inl (.int, 36) :: .inl (.int, 36) :: re)
theorem iFil_loop {Post : fwPost} {σ0 : fwS} (hp : ∀ σ', fwSame [13] σ0 σ' → (∀ k, k < 1944 → ∃ q, σ'.1 13 k = nI q ∧ q + 128 ≤ 256256) → Post none (shFil e0 e1 e2 e3 []) σ') : ∀ (q i : Nat) (σ : fwS), i + q = 1944 → fwSame [13] σ0 σ → (∀ k, k < i → ∃ q, σ.1 13 k = nI q ∧ q + 128 ≤ 256256) → fwG l Z m_iFil 2 5 515014 Post 5 515014 57 [some (.ref 11), some (.int (nI i))] [] (shFil e0 e1 e2 e3 []) σ := by
  intro q
  induction q with
  | zero =>
    intro i σ hi hs hk
    refine fwRun_ok k_iFil_57_ok rfl trivial ?_
    refine fwg_cmp 95 d_iFil_63 (by decide) (fun h => ?_) (fun h => absurd (nI_le (a := 1944) (by omega) (by omega)) h)
    exact fwg_vret rfl (Nat.le_refl _) (Nat.le_refl _) (hp σ hs (fun k hk' => hk k (by omega))) d_iFil_95
  | succ q ih =>
    intro i σ hi hs hk
    refine fwRun_ok k_iFil_57_ok rfl trivial ?_
    refine fwg_cmp 95 d_iFil_63 (by decide) (fun h => absurd (show nI 1944 ≤ nI i from h) (nI_ge (b := 1944) (by omega) (by decide))) (fun h => ?_)
    refine fwRun_ok k_iFil_66_ok rfl ⟨by decide, show ¬ (26 : Int32) = 0 by decide⟩ ?_
    have d1 : nI i / 26 = nI (i / 26) := pk_div (by omega) (d := 26) (by decide) (by decide)
    have d2 : nI i - nI i / 26 * 26 = nI (i % 26) := pk_rem (by omega) (d := 26) (by decide) (by decide)
    show fwG l Z m_iFil 2 5 515014 Post 5 515014 82 _ [.int (nI i - nI i / 26 * 26), .int (2 + nI i / 26), .int 0, .int (nI i), .ref 13] _ σ
    rw [d2, d1, show (2 : Int32) + nI (i / 26) = nI (2 + i / 26) from nI_add 2 _]
    refine fwg_callS (n := 1) (as := [.int (nI (i % 26))]) (r := [.int (nI (2 + i / 26)), .int 0, .int (nI i), .ref 13]) (ct_sectorOf (by omega)) ⟨by decide, by decide, by decide +kernel⟩ m_sectorOf_in c_iFil_82 rfl rfl (Nat.le_of_ble_eq_true rfl) d_iFil_82 ⟨Nat.le_refl _, Nat.le_of_ble_eq_true rfl⟩ ⟨Nat.le_refl _, Nat.le_refl _⟩ (fun v sh' σ1 hq => ?_)
    obtain ⟨⟨s, rfl, hs1, hs2⟩, rfl, rfl⟩ := hq
    refine fwg_callS (n := 3) (as := [.int 0, .int (nI (2 + i / 26)), .int (nI s)]) (r := [.int (nI i), .ref 13]) (ct_sectorPlace (by omega) ⟨hs1, hs2⟩) ⟨by decide, by decide, by decide +kernel⟩ m_sectorPlace_in c_iFil_85 rfl rfl (Nat.le_of_ble_eq_true rfl) d_iFil_85 ⟨Nat.le_refl _, Nat.le_of_ble_eq_true rfl⟩ ⟨Nat.le_refl _, Nat.le_refl _⟩ (fun v sh' σ2 hq => ?_)
    obtain ⟨⟨z, rfl, hz⟩, rfl, rfl⟩ := hq
    refine fwRun_ok k_iFil_88_ok rfl (vp_in_nI (by omega) (by decide)) ?_
    refine fwg_goto 57 d_iFil_92 (by decide) ?_
    have := ih (i + 1) (fwI σ2 13 (nI i).toNatClampNeg (nI z)) (by omega) (hs.tr (fwSame_I (by decide))) (fun k hk' => ?_)
    · rw [← nI_1] at this
      exact this
    · rw [nI_clamp (by omega)]
      by_cases hki : k = i
      · subst hki
        exact ⟨z, fwI_eq, hz⟩
      · rw [fwI_ne2 hki]
        exact hk k (by omega)
theorem ct_iFil : fwC l Z m_iFil 2 5 515014 [.ref 11] (shCon e0 e1 e2 e3 (sPro :: .inl (.byte, 65536) :: .inl (.int, 8) :: .inr (4, fwTmpl 4) :: [])) σ (fun w sh' σ' => w = none ∧ sh' = shFil e0 e1 e2 e3 [] ∧ fwSame [12, 13, 14, 15, 16] σ σ' ∧ FilOk σ') := by
  refine fwC_of (ls := [some (.ref 11), none]) (by decide +kernel) rfl (by rw [fw_sl1]; exact Nat.le_of_ble_eq_true rfl) ?_
  refine fwRun_ok k_iFil_0_ok rfl trivial ?_
  refine fwg_objInit c_iFil_1 (by decide) (Nat.le_of_ble_eq_true rfl) d_iFil_1 ?_
  refine fwRun_ok k_iFil_4_ok rfl trivial ?_
  refine fwg_newa' 512512 12 (e0 :: e1 :: e2 :: e3 :: sCon :: .inl (.byte, 8000) :: .inl (.byte, 2000) :: .inl (.int, 256) :: sPro :: .inl (.byte, 65536) :: .inl (.int, 8) :: .inr (4, fwTmpl 4) :: .inl (.byte, 512512) :: []) (by decide) fwAc_byte d_iFil_7 (by decide) (by decide) (by decide) (Nat.le_of_ble_eq_true rfl) (Nat.le_of_ble_eq_true rfl) rfl rfl ?_
  refine fwg_putR' (ci := 4) (kk := 0) (e0 :: e1 :: e2 :: e3 :: sCon :: .inl (.byte, 8000) :: .inl (.byte, 2000) :: .inl (.int, 256) :: sPro :: .inl (.byte, 65536) :: .inl (.int, 8) :: .inr (4, [.ref 12, .null, .null, .null, .null, .int 0, .int 0, .int 0, .int 0, .int 0, .int 0, .int 0, .int 0, .int 0]) :: .inl (.byte, 512512) :: []) rfl (by decide) (Or.inl ⟨_, rfl⟩) (List.mem_of_getElem? (i := 42) rfl) rfl rfl (fun _ => ⟨rfl, rfl⟩) rfl d_iFil_9 rfl ?_
  refine fwRun_ok k_iFil_12_ok rfl trivial ?_
  refine fwg_newa' 1944 13 (e0 :: e1 :: e2 :: e3 :: sCon :: .inl (.byte, 8000) :: .inl (.byte, 2000) :: .inl (.int, 256) :: sPro :: .inl (.byte, 65536) :: .inl (.int, 8) :: .inr (4, [.ref 12, .null, .null, .null, .null, .int 0, .int 0, .int 0, .int 0, .int 0, .int 0, .int 0, .int 0, .int 0]) :: .inl (.byte, 512512) :: .inl (.int, 1944) :: []) (by decide) fwAc_int d_iFil_16 (by decide) (by decide) (by decide) (Nat.le_of_ble_eq_true rfl) (Nat.le_of_ble_eq_true rfl) rfl rfl ?_
  refine fwg_putR' (ci := 4) (kk := 1) (e0 :: e1 :: e2 :: e3 :: sCon :: .inl (.byte, 8000) :: .inl (.byte, 2000) :: .inl (.int, 256) :: sPro :: .inl (.byte, 65536) :: .inl (.int, 8) :: .inr (4, [.ref 12, .ref 13, .null, .null, .null, .int 0, .int 0, .int 0, .int 0, .int 0, .int 0, .int 0, .int 0, .int 0]) :: .inl (.byte, 512512) :: .inl (.int, 1944) :: []) rfl (by decide) (Or.inl ⟨_, rfl⟩) (List.mem_of_getElem? (i := 47) rfl) rfl rfl (fun _ => ⟨rfl, rfl⟩) rfl d_iFil_18 rfl ?_
  refine fwRun_ok k_iFil_21_ok rfl trivial ?_
  refine fwg_newa' 486 14 (e0 :: e1 :: e2 :: e3 :: sCon :: .inl (.byte, 8000) :: .inl (.byte, 2000) :: .inl (.int, 256) :: sPro :: .inl (.byte, 65536) :: .inl (.int, 8) :: .inr (4, [.ref 12, .ref 13, .null, .null, .null, .int 0, .int 0, .int 0, .int 0, .int 0, .int 0, .int 0, .int 0, .int 0]) :: .inl (.byte, 512512) :: .inl (.int, 1944) :: .inl (.boolean, 486) :: []) (by decide) fwAc_boolean d_iFil_25 (by decide) (by decide) (by decide) (Nat.le_of_ble_eq_true rfl) (Nat.le_of_ble_eq_true rfl) rfl rfl ?_
  refine fwg_putR' (ci := 4) (kk := 2) (e0 :: e1 :: e2 :: e3 :: sCon :: .inl (.byte, 8000) :: .inl (.byte, 2000) :: .inl (.int, 256) :: sPro :: .inl (.byte, 65536) :: .inl (.int, 8) :: .inr (4, [.ref 12, .ref 13, .ref 14, .null, .null, .int 0, .int 0, .int 0, .int 0, .int 0, .int 0, .int 0, .int 0, .int 0]) :: .inl (.byte, 512512) :: .inl (.int, 1944) :: .inl (.boolean, 486) :: []) rfl (by decide) (Or.inl ⟨_, rfl⟩) (List.mem_of_getElem? (i := 49) rfl) rfl rfl (fun _ => ⟨rfl, rfl⟩) rfl d_iFil_27 rfl ?_
  refine fwRun_ok k_iFil_30_ok rfl trivial ?_
  refine fwg_newa' 36 15 (e0 :: e1 :: e2 :: e3 :: sCon :: .inl (.byte, 8000) :: .inl (.byte, 2000) :: .inl (.int, 256) :: sPro :: .inl (.byte, 65536) :: .inl (.int, 8) :: .inr (4, [.ref 12, .ref 13, .ref 14, .null, .null, .int 0, .int 0, .int 0, .int 0, .int 0, .int 0, .int 0, .int 0, .int 0]) :: .inl (.byte, 512512) :: .inl (.int, 1944) :: .inl (.boolean, 486) :: .inl (.int, 36) :: []) (by decide) fwAc_int d_iFil_33 (by decide) (by decide) (by decide) (Nat.le_of_ble_eq_true rfl) (Nat.le_of_ble_eq_true rfl) rfl rfl ?_
  refine fwg_putR' (ci := 4) (kk := 3) (e0 :: e1 :: e2 :: e3 :: sCon :: .inl (.byte, 8000) :: .inl (.byte, 2000) :: .inl (.int, 256) :: sPro :: .inl (.byte, 65536) :: .inl (.int, 8) :: .inr (4, [.ref 12, .ref 13, .ref 14, .ref 15, .null, .int 0, .int 0, .int 0, .int 0, .int 0, .int 0, .int 0, .int 0, .int 0]) :: .inl (.byte, 512512) :: .inl (.int, 1944) :: .inl (.boolean, 486) :: .inl (.int, 36) :: []) rfl (by decide) (Or.inl ⟨_, rfl⟩) (List.mem_of_getElem? (i := 51) rfl) rfl rfl (fun _ => ⟨rfl, rfl⟩) rfl d_iFil_35 rfl ?_
  refine fwRun_ok k_iFil_38_ok rfl trivial ?_
  refine fwg_newa' 36 16 (e0 :: e1 :: e2 :: e3 :: sCon :: .inl (.byte, 8000) :: .inl (.byte, 2000) :: .inl (.int, 256) :: sPro :: .inl (.byte, 65536) :: .inl (.int, 8) :: .inr (4, [.ref 12, .ref 13, .ref 14, .ref 15, .null, .int 0, .int 0, .int 0, .int 0, .int 0, .int 0, .int 0, .int 0, .int 0]) :: .inl (.byte, 512512) :: .inl (.int, 1944) :: .inl (.boolean, 486) :: .inl (.int, 36) :: .inl (.int, 36) :: []) (by decide) fwAc_int d_iFil_41 (by decide) (by decide) (by decide) (Nat.le_of_ble_eq_true rfl) (Nat.le_of_ble_eq_true rfl) rfl rfl ?_
  refine fwg_putR' (ci := 4) (kk := 4) (e0 :: e1 :: e2 :: e3 :: sCon :: .inl (.byte, 8000) :: .inl (.byte, 2000) :: .inl (.int, 256) :: sPro :: .inl (.byte, 65536) :: .inl (.int, 8) :: sFil :: .inl (.byte, 512512) :: .inl (.int, 1944) :: .inl (.boolean, 486) :: .inl (.int, 36) :: .inl (.int, 36) :: []) rfl (by decide) (Or.inl ⟨_, rfl⟩) (List.mem_of_getElem? (i := 54) rfl) rfl rfl (fun _ => ⟨rfl, rfl⟩) rfl d_iFil_43 rfl ?_
  refine fwRun_ok k_iFil_46_ok rfl trivial ?_
  refine fwg_callS (n := 2) (as := [.ref 12, .int (-27)]) (r := []) (ct_fillB (n := 512512) rfl (by decide)) ⟨by decide, by decide, by decide +kernel⟩ m_fillB_in c_iFil_52 rfl rfl (Nat.le_of_ble_eq_true rfl) d_iFil_52 ⟨Nat.le_of_ble_eq_true rfl, Nat.le_of_ble_eq_true rfl⟩ ⟨Nat.le_refl _, Nat.le_refl _⟩ (fun v sh' σ1 hq => ?_)
  obtain ⟨rfl, rfl, hs1⟩ := hq
  have hS1 : fwSame [12, 13, 14, 15, 16] σ σ1 := by
    rw [hs1]
    exact (((((fwSame_0 (by decide)).tr (fwSame_0 (by decide))).tr (fwSame_0 (by decide))).tr (fwSame_0 (by decide))).tr (fwSame_0 (by decide))).tr (fwSame_A (by decide))
  have hf : ∀ j, j < 512512 → σ1.1 12 j = -27 := fun j hj => by
    rw [hs1, fwA_at]
    exact if_pos hj
  clear hs1
  refine fwRun_ok k_iFil_55_ok rfl trivial ?_
  exact iFil_loop (σ0 := σ1) (fun σ' h1 h2 => ⟨rfl, rfl, hS1.tr (h1.up (by decide)), fun j hj => by rw [h1.c (by decide)]; exact hf j hj, h2⟩) 1944 0 σ1 rfl fwSame.rf (fun k hk => absurd hk (Nat.not_lt_zero k))
end INI
