/-! the reference: telling, and what a boot needs (laid by wip/whole/t10.py) -/
def sMod : fwE := .inr (1, [.ref 38, .ref 39, .ref 40, .ref 41, .ref 42, .ref 43, .int 0, .int 0, .int 0, .int 0, .int 0, .int 0, .ref 44, .int 0, .int 0, .int 0, .long 0, .int 0, .int 0, .ref 45, .int 0, .int 0, .int 0, .int 0, .int 0, .int 0, .int 0, .int 0, .int 0, .ref 46, .ref 47, .int 0, .ref 48, .int 0, .int 0, .int 0, .ref 49, .int 0, .int 0, .int 0, .ref 50, .int 0, .int 0, .ref 51, .int 0, .int 0, .int 0, .int 0, .int 0, .int 0, .int 0, .int 0, .int 0, .int 0, .ref 52, .int 0, .int 0, .int 0, .int 0, .ref 53, .ref 54, .ref 55, .int 0, .int 0, .int 0, .int 0, .int 0, .int 0, .int 0, .int 0, .ref 56, .int 0, .int 0, .int 0, .int 0, .int 0, .int 0, .int 0, .int 0])
abbrev shMd (re : List fwE) : List fwE := shMB (sMod :: .inl (.byte, 65536) :: .inl (.byte, 512512) :: .inl (.byte, 4000) :: .inl (.byte, 2000) :: .inl (.byte, 8000) :: .inl (.byte, 70000) :: .inl (.int, 8) :: .inl (.byte, 220) :: .inl (.boolean, 486) :: .inl (.int, 15) :: .inl (.int, 13) :: .inl (.byte, 256) :: .inl (.boolean, 64) :: .inl (.int, 11) :: .inl (.byte, 58368) :: .inl (.byte, 800) :: .inl (.int, 100) :: .inl (.int, 100) :: .inl (.byte, 10) :: re)
/-- t signs have been told by the reference, none are gone -/
def MT (σ σ' : fwS) (t : Nat) : Prop := fwSame [37, 42] σ σ' ∧ σ'.1 37 9 = 0 ∧ σ'.1 37 10 = nI t ∧ (∀ b, b ≠ 9 → b ≠ 10 → σ'.1 37 b = σ.1 37 b) ∧ σ'.2 37 = σ.2 37
theorem MT.tr {σ σ1 σ2 : fwS} {t t2 : Nat} (h1 : MT σ σ1 t) (h2 : MT σ1 σ2 t2) : MT σ σ2 t2 :=
  ⟨h1.1.tr h2.1, h2.2.1, h2.2.2.1, fun b hb hc => (h2.2.2.2.1 b hb hc).trans (h1.2.2.2.1 b hb hc), h2.2.2.2.2.trans h1.2.2.2.2⟩
section REF
variable {l : Launch} {Z : fwZ} {re : List fwE} {σ : fwS}
theorem ct_rTell {x : Int32} {t : Nat} (h3 : σ.1 37 9 = 0) (h4 : σ.1 37 10 = nI t) (ht : t < 8000) : fwC l Z m_rTell 1 0 0 [.ref 37, .int x] (shMd re) σ (fun v sh' σ' => v = none ∧ sh' = shMd re ∧ MT σ σ' (t + 1)) := by
  refine fwC_of (ls := [some (.ref 37), some (.int x)]) (by decide +kernel) rfl (by rw [fw_sl1]; exact Nat.le_refl 2) ?_
  have e1 : σ.1 37 9 + σ.1 37 10 - (σ.1 37 9 + σ.1 37 10) / 8000 * 8000 = nI t := by
    rw [h3, h4]
    have : (0 : Int32) + nI t = nI t := by rw [← nI_0, nI_add, Nat.zero_add]
    rw [this]
    show nI t - nI t / nI 8000 * nI 8000 = nI t
    rw [pk_rem (by omega) (by decide) (by decide), Nat.mod_eq_of_lt ht]
  refine fwRun_ok k_rTell_0_ok rfl ⟨by decide, by show vp_in (σ.1 37 9 + σ.1 37 10 - (σ.1 37 9 + σ.1 37 10) / 8000 * 8000) 8000; rw [e1]; exact vp_in_nI ht (by decide)⟩ ?_
  refine fwg_cmp 47 d_rTell_27 (by decide) (fun h => ?_) (fun h => absurd (show ¬ σ.1 37 10 = 8000 from fun q => ?_) h)
  · refine fwRun_ok k_rTell_47_ok rfl trivial ?_
    refine fwg_vret rfl (Nat.le_refl _) (Nat.le_refl _) ⟨rfl, rfl, ?_⟩ d_rTell_57
    refine ⟨(fwSame_I (by decide)).tr (fwSame_I (by decide)), h3, ?_, fun b hb hc => ?_, rfl⟩
    · show (fwI _ 37 10 _).1 37 10 = _
      rw [fwI_eq]
      show σ.1 37 10 + 1 = _
      rw [h4, nI_1]
    · show (fwI _ 37 10 _).1 37 b = _
      rw [fwI_ne2 hc, fwI_ne (by decide)]
  · rw [h4] at q
    exact absurd (show nI 8000 ≤ nI t by rw [q]; decide) (nI_ge ht (by decide))
theorem ct_rNewLine {t : Nat} (h3 : σ.1 37 9 = 0) (h4 : σ.1 37 10 = nI t) (ht : t + 2 ≤ 8000) : fwC l Z m_rNewLine 2 0 0 [.ref 37] (shMd re) σ (fun v sh' σ' => v = none ∧ sh' = shMd re ∧ MT σ σ' (t + 2)) := by
  refine fwC_of (ls := [some (.ref 37)]) (by decide +kernel) rfl (by rw [fw_sl1]; exact Nat.le_refl 1) ?_
  refine fwRun_ok k_rNewLine_0_ok rfl trivial ?_
  refine fwg_callV (n := 1) (i := 37) (as := [.int 13]) (r := []) (ct_rTell h3 h4 (by omega)) ⟨by decide, by decide, by decide +kernel⟩ m_rTell_in c_rNewLine_3 rfl rfl rfl rfl (Nat.le_of_ble_eq_true rfl) d_rNewLine_3 ⟨Nat.le_of_ble_eq_true rfl, Nat.le_of_ble_eq_true rfl⟩ ⟨Nat.le_refl _, Nat.le_refl _⟩ (fun v sh' σ1 hq => ?_)
  obtain ⟨rfl, rfl, h1⟩ := hq
  refine fwRun_ok k_rNewLine_6_ok rfl trivial ?_
  refine fwg_callV (n := 1) (i := 37) (as := [.int 10]) (r := []) (ct_rTell h1.2.1 h1.2.2.1 (by omega)) ⟨by decide, by decide, by decide +kernel⟩ m_rTell_in c_rNewLine_9 rfl rfl rfl rfl (Nat.le_of_ble_eq_true rfl) d_rNewLine_9 ⟨Nat.le_of_ble_eq_true rfl, Nat.le_of_ble_eq_true rfl⟩ ⟨Nat.le_refl _, Nat.le_refl _⟩ (fun v sh' σ2 hq => ?_)
  obtain ⟨rfl, rfl, h2⟩ := hq
  exact fwg_vret rfl (Nat.le_refl _) (Nat.le_refl _) ⟨rfl, rfl, h1.tr h2⟩ d_rNewLine_12
theorem rTellText_loop {c : Nat} (hc : c < fwNs) (hL : fwSl.getD c 0 < 2 ^ 31) {Post : fwPost} : ∀ (q j : Nat) (t : Nat) (σ : fwS), j + q = fwSl.getD c 0 → σ.1 37 9 = 0 → σ.1 37 10 = nI t → t + q ≤ 8000 → (∀ σ', MT σ σ' (t + q) → Post none (shMd re) σ') → fwG l Z m_rTellText 5 0 0 Post 0 0 2 [some (.ref 37), some (.retAddr c), some (.int (nI j))] [] (shMd re) σ := by
  intro q
  induction q with
  | zero =>
    intro j t σ hj h3 h4 ht hp
    refine fwRun_ok k_rTellText_2_ok rfl trivial ?_
    refine fwg_callK (n := 0) (as := []) (r := [.int (nI j)]) (ct_slen hc) ⟨by decide, by decide, by decide +kernel⟩ rfl m_slen_in c_rTellText_4 hc rfl rfl (Nat.le_of_ble_eq_true rfl) d_rTellText_4 ⟨Nat.le_of_ble_eq_true rfl, Nat.le_of_ble_eq_true rfl⟩ ⟨Nat.le_refl _, Nat.le_refl _⟩ (fun v sh' σ' hq => ?_)
    obtain ⟨rfl, rfl, rfl⟩ := hq
    refine fwg_cmp 25 d_rTellText_7 (by decide) (fun h => ?_) (fun h => absurd (nI_le (by omega) (by omega)) h)
    exact fwg_vret rfl (Nat.le_refl _) (Nat.le_refl _) (hp σ' ⟨fwSame.rf, h3, h4, fun _ _ _ => rfl, rfl⟩) d_rTellText_25
  | succ q ih =>
    intro j t σ hj h3 h4 ht hp
    refine fwRun_ok k_rTellText_2_ok rfl trivial ?_
    refine fwg_callK (n := 0) (as := []) (r := [.int (nI j)]) (ct_slen hc) ⟨by decide, by decide, by decide +kernel⟩ rfl m_slen_in c_rTellText_4 hc rfl rfl (Nat.le_of_ble_eq_true rfl) d_rTellText_4 ⟨Nat.le_of_ble_eq_true rfl, Nat.le_of_ble_eq_true rfl⟩ ⟨Nat.le_refl _, Nat.le_refl _⟩ (fun v sh' σ' hq => ?_)
    obtain ⟨rfl, rfl, rfl⟩ := hq
    refine fwg_cmp 25 d_rTellText_7 (by decide) (fun h => absurd (show nI (fwSl.getD c 0) ≤ nI j from h) (nI_ge (by omega) hL)) (fun h => ?_)
    refine fwRun_ok k_rTellText_10_ok rfl trivial ?_
    refine fwg_callK (n := 1) (as := [.int (nI j)]) (r := [.ref 37]) (ct_schar (j := j) hc (by omega)) ⟨by decide, by decide, by decide +kernel⟩ rfl m_schar_in c_rTellText_13 hc rfl rfl (Nat.le_of_ble_eq_true rfl) d_rTellText_13 ⟨Nat.le_of_ble_eq_true rfl, Nat.le_of_ble_eq_true rfl⟩ ⟨Nat.le_refl _, Nat.le_refl _⟩ (fun v sh' σ'' hq => ?_)
    obtain ⟨rfl, rfl, rfl⟩ := hq
    refine fwg_callV (n := 1) (i := 37) (as := [.int (fwCh c j)]) (r := []) (ct_rTell h3 h4 (by omega)) ⟨by decide, by decide, by decide +kernel⟩ m_rTell_in c_rTellText_16 rfl rfl rfl rfl (Nat.le_of_ble_eq_true rfl) d_rTellText_16 ⟨Nat.le_of_ble_eq_true rfl, Nat.le_of_ble_eq_true rfl⟩ ⟨Nat.le_refl _, Nat.le_refl _⟩ (fun v sh' σ3 hq => ?_)
    obtain ⟨rfl, rfl, hT⟩ := hq
    refine fwRun_ok k_rTellText_19_ok rfl trivial ?_
    refine fwg_goto 2 d_rTellText_22 (by decide) ?_
    have := ih (j + 1) (t + 1) σ3 (by omega) hT.2.1 hT.2.2.1 (by omega) (fun σ4 h4' => hp σ4 (by have := hT.tr h4'; rwa [show t + 1 + q = t + (q + 1) by omega] at this))
    rw [← nI_1] at this
    exact this
theorem ct_rTellText {c t : Nat} (hc : c < fwNs) (h3 : σ.1 37 9 = 0) (h4 : σ.1 37 10 = nI t) (ht : t + fwSl.getD c 0 ≤ 8000) : fwC l Z m_rTellText 5 0 0 [.ref 37, .retAddr c] (shMd re) σ (fun v sh' σ' => v = none ∧ sh' = shMd re ∧ MT σ σ' (t + fwSl.getD c 0)) := by
  obtain ⟨-, hL, -⟩ := fw_sc c hc
  refine fwC_of (ls := [some (.ref 37), some (.retAddr c), none]) (by decide +kernel) rfl (by rw [fw_sl1]; exact Nat.le_of_ble_eq_true rfl) ?_
  refine fwRun_ok k_rTellText_0_ok rfl trivial ?_
  exact rTellText_loop hc hL (fwSl.getD c 0) 0 t σ (by omega) h3 h4 (by omega) (fun σ' h => ⟨rfl, rfl, h⟩)
theorem ct_rSet {a v : Int32} (ha : a < 1048576) : fwC l Z m_rSet 1 0 0 [.ref 37, .int a, .int v] (shMd re) σ (fun w sh' σ' => w = none ∧ sh' = shMd re ∧ σ' = fwI σ 38 (a &&& 65535).toNatClampNeg v.toInt8.toInt32) := by
  refine fwC_of (ls := [some (.ref 37), some (.int a), some (.int v)]) (by decide +kernel) rfl (by rw [fw_sl1]; exact Nat.le_refl 3) ?_
  refine fwRun_ok k_rSet_0_ok rfl trivial ?_
  refine fwg_cmp 20 d_rSet_3 (by decide) (fun _ => ?_) (fun q => absurd ha q)
  refine fwRun_ok k_rSet_20_ok rfl (pk_andIn a 16 (by decide) (by decide)) ?_
  refine fwg_vret rfl (Nat.le_refl _) (Nat.le_refl _) ⟨rfl, rfl, ?_⟩ d_rSet_31
  show fwI σ 38 _ v.toInt8.toInt32.toInt8.toInt32 = _
  congr 1
  exact fw_b2 v
theorem ct_rSetWord {a v : Int32} (ha : a < 1048576) (hb : a + 1 < 1048576) : fwC l Z m_rSetWord 2 0 0 [.ref 37, .int a, .int v] (shMd re) σ (fun w sh' σ' => w = none ∧ sh' = shMd re ∧ σ' = fwI (fwI σ 38 (a &&& 65535).toNatClampNeg v.toInt8.toInt32) 38 ((a + 1) &&& 65535).toNatClampNeg (v >>> (8 &&& 31)).toInt8.toInt32) := by
  refine fwC_of (ls := [some (.ref 37), some (.int a), some (.int v)]) (by decide +kernel) rfl (by rw [fw_sl1]; exact Nat.le_refl 3) ?_
  refine fwRun_ok k_rSetWord_0_ok rfl trivial ?_
  refine fwg_callV (n := 2) (i := 37) (as := [.int a, .int v]) (r := []) (ct_rSet ha) ⟨by decide, by decide, by decide +kernel⟩ m_rSet_in c_rSetWord_3 rfl rfl rfl rfl (Nat.le_of_ble_eq_true rfl) d_rSetWord_3 ⟨Nat.le_of_ble_eq_true rfl, Nat.le_of_ble_eq_true rfl⟩ ⟨Nat.le_refl _, Nat.le_refl _⟩ (fun v sh' σ1 hq => ?_)
  obtain ⟨rfl, rfl, rfl⟩ := hq
  refine fwRun_ok k_rSetWord_6_ok rfl trivial ?_
  refine fwg_callV (n := 2) (i := 37) (as := [.int (a + 1), .int (v >>> (8 &&& 31))]) (r := []) (ct_rSet hb) ⟨by decide, by decide, by decide +kernel⟩ m_rSet_in c_rSetWord_14 rfl rfl rfl rfl (Nat.le_of_ble_eq_true rfl) d_rSetWord_14 ⟨Nat.le_of_ble_eq_true rfl, Nat.le_of_ble_eq_true rfl⟩ ⟨Nat.le_refl _, Nat.le_refl _⟩ (fun v sh' σ2 hq => ?_)
  obtain ⟨rfl, rfl, rfl⟩ := hq
  exact fwg_vret rfl (Nat.le_refl _) (Nat.le_refl _) ⟨rfl, rfl, rfl⟩ d_rSetWord_17
theorem ct_rForget : fwC l Z m_rForget 1 0 0 [.ref 37] (shMd re) σ (fun w sh' σ' => w = none ∧ sh' = shMd re ∧ σ' = fwI σ 37 35 (-1)) := by
  refine fwC_of (ls := [some (.ref 37)]) (by decide +kernel) rfl (by rw [fw_sl1]; exact Nat.le_refl 1) ?_
  refine fwRun_ok k_rForget_0_ok rfl trivial ?_
  exact fwg_vret rfl (Nat.le_refl _) (Nat.le_refl _) ⟨rfl, rfl, rfl⟩ d_rForget_5
theorem ct_rPrompt {t : Nat} (h3 : σ.1 37 9 = 0) (h4 : σ.1 37 10 = nI t) (ht : t + 4 ≤ 8000) (hu : σ.1 37 22 = 0) : fwC l Z m_rPrompt 3 0 0 [.ref 37] (shMd re) σ (fun v sh' σ' => v = none ∧ sh' = shMd re ∧ MT σ σ' (t + 4)) := by
  refine fwC_of (ls := [some (.ref 37)]) (by decide +kernel) rfl (by rw [fw_sl1]; exact Nat.le_refl 1) ?_
  refine fwRun_ok k_rPrompt_0_ok rfl trivial ?_
  refine fwg_callV (n := 0) (i := 37) (as := []) (r := []) (ct_rNewLine h3 h4 (by omega)) ⟨by decide, by decide, by decide +kernel⟩ m_rNewLine_in c_rPrompt_1 rfl rfl rfl rfl (Nat.le_of_ble_eq_true rfl) d_rPrompt_1 ⟨Nat.le_of_ble_eq_true rfl, Nat.le_of_ble_eq_true rfl⟩ ⟨Nat.le_refl _, Nat.le_refl _⟩ (fun v sh' σ1 hq => ?_)
  obtain ⟨rfl, rfl, h1⟩ := hq
  refine fwRun_ok k_rPrompt_4_ok rfl trivial ?_
  refine fwg_callV (n := 1) (i := 37) (as := [.int (65 + σ1.1 37 21)]) (r := []) (ct_rTell h1.2.1 h1.2.2.1 (by omega)) ⟨by decide, by decide, by decide +kernel⟩ m_rTell_in c_rPrompt_12 rfl rfl rfl rfl (Nat.le_of_ble_eq_true rfl) d_rPrompt_12 ⟨Nat.le_of_ble_eq_true rfl, Nat.le_of_ble_eq_true rfl⟩ ⟨Nat.le_refl _, Nat.le_refl _⟩ (fun v sh' σ2 hq => ?_)
  obtain ⟨rfl, rfl, h2⟩ := hq
  refine fwRun_ok k_rPrompt_15_ok rfl trivial ?_
  refine fwg_if 30 d_rPrompt_19 (by decide) (fun _ => ?_) (fun q => absurd (show σ2.1 37 22 ≤ 0 by rw [(h1.tr h2).2.2.2.1 22 (by decide) (by decide), hu]; decide) q)
  refine fwRun_ok k_rPrompt_30_ok rfl trivial ?_
  refine fwg_callV (n := 1) (i := 37) (as := [.int 62]) (r := []) (ct_rTell h2.2.1 h2.2.2.1 (by omega)) ⟨by decide, by decide, by decide +kernel⟩ m_rTell_in c_rPrompt_33 rfl rfl rfl rfl (Nat.le_of_ble_eq_true rfl) d_rPrompt_33 ⟨Nat.le_of_ble_eq_true rfl, Nat.le_of_ble_eq_true rfl⟩ ⟨Nat.le_refl _, Nat.le_refl _⟩ (fun v sh' σ3 hq => ?_)
  obtain ⟨rfl, rfl, h5⟩ := hq
  exact fwg_vret rfl (Nat.le_refl _) (Nat.le_refl _) ⟨rfl, rfl, (h1.tr h2).tr h5⟩ d_rPrompt_36
end REF
