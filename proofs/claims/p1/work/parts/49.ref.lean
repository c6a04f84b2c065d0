/-! the reference's cold boot and its constructor (laid by wip/whole/t13.py) -/
theorem memW_c {f g : Nat → Int32} {j : Nat} (h : f j = g j) : memW f j = memW g j := by
  show (if j = 7 then _ else if j = 6 then _ else if j = 5 then _ else if j = 2 then _ else if j = 1 then _ else if j = 0 then _ else f j) = _
  rw [h]
  rfl
def MC (σ σ' : fwS) (t : Nat) : Prop := fwSame [37, 38, 42, 44, 46] σ σ' ∧ (σ'.1 37 8 = 0 ∧ σ'.1 37 9 = 0 ∧ σ'.1 37 10 = nI t ∧ σ'.1 37 13 = 0 ∧ σ'.1 37 14 = 0 ∧ σ'.1 37 15 = 60419 ∧ σ'.1 37 17 = 0 ∧ σ'.1 37 18 = 1 ∧ σ'.1 37 21 = 0 ∧ σ'.1 37 22 = 0 ∧ σ'.1 37 23 = 128 ∧ σ'.1 37 35 = -1) ∧ (∀ b, b ∉ ([8, 9, 10, 13, 14, 15, 17, 18, 20, 21, 22, 23, 24, 25, 26, 27, 28, 31, 35] : List Nat) → σ'.1 37 b = σ.1 37 b) ∧ (∀ j, j < 65536 → σ'.1 38 j = memW (fun _ => 0) j) ∧ (∀ j, j < 8 → σ'.1 44 j = 0) ∧ σ'.2 37 = σ.2 37
theorem fw_cut {l : Launch} {Z : fwZ} {M : fwM} {d mc ms : Nat} {Post : fwPost} {nc ns pc : Nat} {ls : List (Option Value)} {st : List Value} {sh : List fwE} {σ : fwS} (P : fwS → Prop) (h : P σ) (k : ∀ s, P s → fwG l Z M d mc ms Post nc ns pc ls st sh s) : fwG l Z M d mc ms Post nc ns pc ls st sh σ := k σ h
section REF
variable {l : Launch} {Z : fwZ} {re : List fwE} {σ : fwS}
theorem rCold_1 {Post : fwPost} {σ0 : fwS} (k : ∀ σ', fwSame [38] σ0 σ' → (∀ j, j < 65536 → σ'.1 38 j = 0) → fwG l Z m_rCold 7 0 0 Post 0 0 21 [some (.ref 37), some (.int (nI 65536))] [] (shMd re) σ') : ∀ (q i : Nat) (σ : fwS), i + q = 65536 → fwSame [38] σ0 σ → (∀ j, j < i → σ.1 38 j = 0) → fwG l Z m_rCold 7 0 0 Post 0 0 2 [some (.ref 37), some (.int (nI i))] [] (shMd re) σ := by
  intro q
  induction q with
  | zero =>
    intro i σ hi hs hk
    obtain rfl : i = 65536 := by omega
    refine fwRun_ok k_rCold_2_ok rfl trivial ?_
    exact fwg_cmp 21 d_rCold_5 (by decide) (fun _ => k σ hs hk) (fun h => absurd (show (65536 : Int32) ≤ nI 65536 by decide) h)
  | succ q ih =>
    intro i σ hi hs hk
    refine fwRun_ok k_rCold_2_ok rfl trivial ?_
    refine fwg_cmp 21 d_rCold_5 (by decide) (fun h => absurd (show nI 65536 ≤ nI i from h) (nI_ge (by omega) (by decide))) (fun h => ?_)
    refine fwRun_ok k_rCold_8_ok rfl (vp_in_nI (by omega) (by decide)) ?_
    refine fwg_goto 2 d_rCold_18 (by decide) ?_
    have := ih (i + 1) (fwI σ 38 (nI i).toNatClampNeg (0 : Int32).toInt8.toInt32) (by omega) (hs.tr (fwSame_I (by decide))) (fun j hj => ?_)
    · rw [← nI_1] at this
      exact this
    · rw [nI_clamp (by omega)]
      by_cases hji : j = i
      · subst hji
        rw [fwI_eq]
        rfl
      · rw [fwI_ne2 hji]
        exact hk j (by omega)
theorem rCold_2 {Post : fwPost} {σ0 : fwS} (k : ∀ σ', fwSame [44] σ0 σ' → (∀ j, j < 8 → σ'.1 44 j = 0) → fwG l Z m_rCold 7 0 0 Post 0 0 42 [some (.ref 37), some (.int (nI 8))] [] (shMd re) σ') : ∀ (q i : Nat) (σ : fwS), i + q = 8 → fwSame [44] σ0 σ → (∀ j, j < i → σ.1 44 j = 0) → fwG l Z m_rCold 7 0 0 Post 0 0 23 [some (.ref 37), some (.int (nI i))] [] (shMd re) σ := by
  intro q
  induction q with
  | zero =>
    intro i σ hi hs hk
    obtain rfl : i = 8 := by omega
    refine fwRun_ok k_rCold_23_ok rfl trivial ?_
    exact fwg_cmp 42 d_rCold_26 (by decide) (fun _ => k σ hs hk) (fun h => absurd (show (8 : Int32) ≤ nI 8 by decide) h)
  | succ q ih =>
    intro i σ hi hs hk
    refine fwRun_ok k_rCold_23_ok rfl trivial ?_
    refine fwg_cmp 42 d_rCold_26 (by decide) (fun h => absurd (show nI 8 ≤ nI i from h) (nI_ge (by omega) (by decide))) (fun h => ?_)
    refine fwRun_ok k_rCold_29_ok rfl (vp_in_nI (by omega) (by decide)) ?_
    refine fwg_goto 23 d_rCold_39 (by decide) ?_
    have := ih (i + 1) (fwI σ 44 (nI i).toNatClampNeg 0) (by omega) (hs.tr (fwSame_I (by decide))) (fun j hj => ?_)
    · rw [← nI_1] at this
      exact this
    · rw [nI_clamp (by omega)]
      by_cases hji : j = i
      · subst hji
        exact fwI_eq
      · rw [fwI_ne2 hji]
        exact hk j (by omega)
theorem ct_rCold {t : Nat} (h3 : σ.1 37 9 = 0) (h4 : σ.1 37 10 = nI t) (ht : t + 9 ≤ 8000) (hD : ∀ j, j < 512512 → σ.1 39 j = -27) : fwC l Z m_rCold 7 0 0 [.ref 37] (shMd re) σ (fun w sh' σ' => w = none ∧ sh' = shMd re ∧ MC σ σ' (t + 9)) := by
  refine fwC_of (ls := [some (.ref 37), none]) (by decide +kernel) rfl (by rw [fw_sl1]; exact Nat.le_of_ble_eq_true rfl) ?_
  refine fwRun_ok k_rCold_0_ok rfl trivial ?_
  refine rCold_1 (σ0 := σ) (fun σ1 s1 z1 => ?_) 65536 0 σ rfl fwSame.rf (fun j hj => absurd hj (Nat.not_lt_zero j))
  refine fwRun_ok k_rCold_21_ok rfl trivial ?_
  refine rCold_2 (σ0 := σ1) (fun σ2 s2 z2 => ?_) 8 0 σ1 rfl fwSame.rf (fun j hj => absurd hj (Nat.not_lt_zero j))
  refine fwRun_ok k_rCold_42_ok rfl (Or.inl rfl) ?_
  generalize hs : (fwI (fwI (fwI (fwI (fwI (fwI (fwI (fwI (fwI (fwI (fwI σ2 37 13 0) 37 14 0) 37 15 0) 37 17 0) 37 28 0) 37 22 0) 37 21 0) 37 8 0) 37 24 0) 37 25 0) 37 26 1) = σ3
  have S3 : fwSame [37] σ2 σ3 := by
    rw [← hs]
    exact ((((((((((fwSame_I (by decide)).tr (fwSame_I (by decide))).tr (fwSame_I (by decide))).tr (fwSame_I (by decide))).tr (fwSame_I (by decide))).tr (fwSame_I (by decide))).tr (fwSame_I (by decide))).tr (fwSame_I (by decide))).tr (fwSame_I (by decide))).tr (fwSame_I (by decide))).tr (fwSame_I (by decide))
  have e8 : σ3.1 37 8 = 0 := by rw [← hs, fwI_ne2 (by decide), fwI_ne2 (by decide), fwI_ne2 (by decide), fwI_eq]
  have e13 : σ3.1 37 13 = 0 := by rw [← hs, fwI_ne2 (by decide), fwI_ne2 (by decide), fwI_ne2 (by decide), fwI_ne2 (by decide), fwI_ne2 (by decide), fwI_ne2 (by decide), fwI_ne2 (by decide), fwI_ne2 (by decide), fwI_ne2 (by decide), fwI_ne2 (by decide), fwI_eq]
  have e14 : σ3.1 37 14 = 0 := by rw [← hs, fwI_ne2 (by decide), fwI_ne2 (by decide), fwI_ne2 (by decide), fwI_ne2 (by decide), fwI_ne2 (by decide), fwI_ne2 (by decide), fwI_ne2 (by decide), fwI_ne2 (by decide), fwI_ne2 (by decide), fwI_eq]
  have e21 : σ3.1 37 21 = 0 := by rw [← hs, fwI_ne2 (by decide), fwI_ne2 (by decide), fwI_ne2 (by decide), fwI_ne2 (by decide), fwI_eq]
  have e22 : σ3.1 37 22 = 0 := by rw [← hs, fwI_ne2 (by decide), fwI_ne2 (by decide), fwI_ne2 (by decide), fwI_ne2 (by decide), fwI_ne2 (by decide), fwI_eq]
  have E3 : ∀ b, b ∉ ([8, 13, 14, 15, 17, 21, 22, 24, 25, 26, 28] : List Nat) → σ3.1 37 b = σ.1 37 b := fun b hb => by
    rw [← hs, fwEx_I (by decide) b hb, fwEx_I (by decide) b hb, fwEx_I (by decide) b hb, fwEx_I (by decide) b hb, fwEx_I (by decide) b hb, fwEx_I (by decide) b hb, fwEx_I (by decide) b hb, fwEx_I (by decide) b hb, fwEx_I (by decide) b hb, fwEx_I (by decide) b hb, fwEx_I (by decide) b hb, s2.c (by decide), s1.c (by decide)]
  have l3 : σ3.2 37 = σ.2 37 := by rw [← hs]; exact ((s2 37 (by decide)).2).trans (s1 37 (by decide)).2
  clear hs
  refine fwg_callV (n := 0) (i := 37) (as := []) (r := []) (ct_rNewLine (t := t) (by rw [E3 9 (by decide)]; exact h3) (by rw [E3 10 (by decide)]; exact h4) (by omega)) ⟨by decide, by decide, by decide +kernel⟩ m_rNewLine_in c_rCold_98 rfl rfl rfl rfl (Nat.le_of_ble_eq_true rfl) d_rCold_98 ⟨Nat.le_of_ble_eq_true rfl, Nat.le_of_ble_eq_true rfl⟩ ⟨Nat.le_refl _, Nat.le_refl _⟩ (fun v sh' σ4 hq => ?_)
  obtain ⟨rfl, rfl, h4⟩ := hq
  refine fwRun_ok k_rCold_101_ok rfl trivial ?_
  refine fwg_ldcwS (q := ("MonitorBoardModel", 262, "62K", 2)) rfl (List.mem_of_getElem? (i := 34) rfl) d_rCold_102 ?_
  refine fwg_callV (n := 1) (i := 37) (as := [.retAddr 2]) (r := []) (ct_rTellText (c := 2) (t := t + 2) (by decide) h4.2.1 h4.2.2.1 (by show t + 2 + 3 ≤ 8000; omega)) ⟨by decide, by decide, by decide +kernel⟩ m_rTellText_in c_rCold_105 rfl rfl rfl rfl (Nat.le_of_ble_eq_true rfl) d_rCold_105 ⟨Nat.le_of_ble_eq_true rfl, Nat.le_of_ble_eq_true rfl⟩ ⟨Nat.le_refl _, Nat.le_refl _⟩ (fun v sh' σ5 hq => ?_)
  obtain ⟨rfl, rfl, h5⟩ := hq
  have h5 : MT σ4 σ5 (t + 5) := h5
  have hT := h4.tr h5
  refine fwRun_ok k_rCold_108_ok rfl trivial ?_
  have D5 : ∀ j, j < 512512 → σ5.1 39 j = -27 := fun j hj => by rw [hT.1.c (by decide), S3.c (by decide), s2.c (by decide), s1.c (by decide)]; exact hD j hj
  refine fwg_callV (n := 0) (i := 37) (as := []) (r := []) (ct_rWarm (t := t + 5) hT.2.1 hT.2.2.1 (by omega) (by rw [hT.2.2.2.1 21 (by decide) (by decide)]; exact e21) (by rw [hT.2.2.2.1 22 (by decide) (by decide)]; exact e22) D5) ⟨by decide, by decide, by decide +kernel⟩ m_rWarm_in c_rCold_109 rfl rfl rfl rfl (Nat.le_of_ble_eq_true rfl) d_rCold_109 ⟨Nat.le_of_ble_eq_true rfl, Nat.le_of_ble_eq_true rfl⟩ ⟨Nat.le_refl _, Nat.le_refl _⟩ (fun v sh' σ6 hq => ?_)
  obtain ⟨rfl, rfl, h6⟩ := hq
  obtain ⟨w1, ⟨w9, w10, w15, w17, w18, w23, w35⟩, wO, wm, wl⟩ := h6
  refine fwg_vret rfl (Nat.le_refl _) (Nat.le_refl _) ⟨rfl, rfl, ?_, ⟨?_, w9, w10, ?_, ?_, w15, w17, w18, ?_, ?_, w23, w35⟩, fun b hb => ?_, fun j hj => ?_, fun j hj => ?_, ?_⟩ d_rCold_112
  · exact ((((s1.up (by decide)).tr (s2.up (by decide))).tr (S3.up (by decide))).tr (hT.1.up (by decide))).tr (w1.up (by decide))
  · rw [wO 8 (by decide), hT.2.2.2.1 8 (by decide) (by decide)]; exact e8
  · rw [wO 13 (by decide), hT.2.2.2.1 13 (by decide) (by decide)]; exact e13
  · rw [wO 14 (by decide), hT.2.2.2.1 14 (by decide) (by decide)]; exact e14
  · rw [wO 21 (by decide), hT.2.2.2.1 21 (by decide) (by decide)]; exact e21
  · rw [wO 22 (by decide), hT.2.2.2.1 22 (by decide) (by decide)]; exact e22
  · have nb : ∀ L : List Nat, (∀ k ∈ L, k ∈ ([8, 9, 10, 13, 14, 15, 17, 18, 20, 21, 22, 23, 24, 25, 26, 27, 28, 31, 35] : List Nat)) → b ∉ L := fun L hL q => hb (hL b q)
    rw [wO b (nb _ (by decide)), hT.2.2.2.1 b (fun q => nb [9] (by decide) (by rw [q]; decide)) (fun q => nb [10] (by decide) (by rw [q]; decide)), E3 b (nb _ (by decide))]
  · rw [wm]
    refine memW_c ?_
    rw [hT.1.c (by decide), S3.c (by decide), s2.c (by decide)]
    exact z1 j hj
  · rw [w1.c (by decide), hT.1.c (by decide), S3.c (by decide)]
    exact z2 j hj
  · rw [wl, hT.2.2.2.2, l3]
end REF
