/-! the class's console -/
/-- cells other than those of S are as they were -/
def fwSame (S : List Nat) (σ σ' : fwS) : Prop := ∀ a, a ∉ S → (σ'.1 a = σ.1 a ∧ σ'.2 a = σ.2 a)
theorem fwSame.rf {S : List Nat} {σ : fwS} : fwSame S σ σ := fun _ _ => ⟨rfl, rfl⟩
theorem fwSame.tr {S : List Nat} {σ σ1 σ2 : fwS} (h1 : fwSame S σ σ1) (h2 : fwSame S σ1 σ2) : fwSame S σ σ2 := fun a ha => ⟨(h2 a ha).1.trans (h1 a ha).1, (h2 a ha).2.trans (h1 a ha).2⟩
theorem fwSame.up {S T : List Nat} {σ σ' : fwS} (h : fwSame S σ σ') (hs : ∀ a ∈ S, a ∈ T) : fwSame T σ σ' := fun a ha => h a (fun q => ha (hs a q))
theorem fwSame_I {S : List Nat} {σ : fwS} {i k : Nat} {v : Int32} (h : i ∈ S) : fwSame S σ (fwI σ i k v) := fun a ha => ⟨funext fun b => fwI_ne (fun q => ha (q ▸ h)), rfl⟩
theorem fwSame_L {S : List Nat} {σ : fwS} {i k : Nat} {v : Int64} (h : i ∈ S) : fwSame S σ (fwL σ i k v) := fun a ha => ⟨rfl, funext fun b => fwL_ne (fun q => ha (q ▸ h))⟩
theorem fwSame_A {S : List Nat} {σ : fwS} {i : Nat} {f : Nat → Int32} (h : i ∈ S) : fwSame S σ (fwA σ i f) := fun a ha => ⟨funext fun b => if_neg (fun q : a = i => ha (by rw [q]; exact h)), rfl⟩
def sCon : fwE := .inr (3, [.ref 5, .ref 6, .ref 7, .int 0, .int 0, .int 0, .int 0, .int 0, .int 0, .int 0])
abbrev shCon (e0 e1 e2 e3 : fwE) (re : List fwE) : List fwE := e0 :: e1 :: e2 :: e3 :: sCon :: .inl (.byte, 8000) :: .inl (.byte, 2000) :: .inl (.int, 256) :: re
/-- t signs have been told, none are gone; of the console nothing else is changed -/
def Tl (σ σ' : fwS) (t : Nat) : Prop := fwSame [4, 5] σ σ' ∧ σ'.1 4 3 = 0 ∧ σ'.1 4 4 = nI t ∧ (∀ b, b ≠ 3 → b ≠ 4 → σ'.1 4 b = σ.1 4 b) ∧ σ'.2 4 = σ.2 4 ∧ σ'.2 5 = σ.2 5
theorem Tl.tr {σ σ1 σ2 : fwS} {t t2 : Nat} (h1 : Tl σ σ1 t) (h2 : Tl σ1 σ2 t2) : Tl σ σ2 t2 :=
  ⟨h1.1.tr h2.1, h2.2.1, h2.2.2.1, fun b hb hc => (h2.2.2.2.1 b hb hc).trans (h1.2.2.2.1 b hb hc), h2.2.2.2.2.1.trans h1.2.2.2.2.1, h2.2.2.2.2.2.trans h1.2.2.2.2.2⟩
section CON
variable {l : Launch} {Z : fwZ} {e0 e1 e2 e3 : fwE} {re : List fwE} {σ : fwS}
theorem ct_tell {x : Int32} {t : Nat} (h3 : σ.1 4 3 = 0) (h4 : σ.1 4 4 = nI t) (ht : t < 8000) : fwC l Z m_tell 1 0 0 [.ref 4, .int x] (shCon e0 e1 e2 e3 re) σ (fun v sh' σ' => v = none ∧ sh' = shCon e0 e1 e2 e3 re ∧ Tl σ σ' (t + 1)) := by
  refine fwC_of (ls := [some (.ref 4), some (.int x)]) (by decide +kernel) rfl (by rw [fw_sl1]; exact Nat.le_refl 2) ?_
  have e1 : σ.1 4 3 + σ.1 4 4 - (σ.1 4 3 + σ.1 4 4) / 8000 * 8000 = nI t := by
    rw [h3, h4]
    have : (0 : Int32) + nI t = nI t := by rw [← nI_0, nI_add, Nat.zero_add]
    rw [this]
    show nI t - nI t / nI 8000 * nI 8000 = nI t
    rw [pk_rem (by omega) (by decide) (by decide), Nat.mod_eq_of_lt ht]
  refine fwRun_ok k_tell_0_ok rfl ⟨by decide, ?_⟩ ?_
  · show vp_in (σ.1 4 3 + σ.1 4 4 - (σ.1 4 3 + σ.1 4 4) / 8000 * 8000) 8000
    rw [e1]
    exact vp_in_nI ht (by decide)
  · refine fwg_cmp 43 d_tell_27 (by decide) (fun h => ?_) (fun h => ?_)
    · have h' : (8000 : Int32) ≤ σ.1 4 4 := h
      rw [h4] at h'
      exact absurd h' (nI_ge (a := t) (b := 8000) ht (by decide))
    · refine fwRun_ok k_tell_30_ok rfl trivial ?_
      refine fwg_goto 57 d_tell_40 (by decide) ?_
      refine fwg_vret rfl (Nat.le_refl _) (Nat.le_refl _) ⟨rfl, rfl, ?_⟩ d_tell_57
      refine ⟨(fwSame_I (by decide)).tr (fwSame_I (by decide)), h3, ?_, fun b hb hc => ?_, rfl, rfl⟩
      · show (fwI _ 4 4 _).1 4 4 = _
        rw [fwI_eq]
        show σ.1 4 4 + 1 = _
        rw [h4, nI_1]
      · show (fwI _ 4 4 _).1 4 b = _
        rw [fwI_ne2 hc, fwI_ne (by decide)]
/-- 'tell' of a text's signs from place j on -/
theorem tellLine_loop {c t : Nat} (hc : c < fwNs) (hL : fwSl.getD c 0 < 2 ^ 31) {Post : fwPost} : ∀ (q j : Nat) (t : Nat) (σ : fwS), j + q = fwSl.getD c 0 → σ.1 4 3 = 0 → σ.1 4 4 = nI t → t + q ≤ 8000 → (∀ σ', Tl σ σ' (t + q) → Post none (shCon e0 e1 e2 e3 re) σ') → fwG l Z m_tellLine 5 0 0 Post 0 0 14 [some (.ref 4), some (.retAddr c), some (.int (nI j))] [] (shCon e0 e1 e2 e3 re) σ := by
  intro q
  induction q with
  | zero =>
    intro j t σ hj h3 h4 ht hp
    refine fwRun_ok k_tellLine_14_ok rfl trivial ?_
    refine fwg_callK (n := 0) (as := []) (r := [.int (nI j)]) (ct_slen hc) ⟨by decide, by decide, by decide +kernel⟩ rfl m_slen_in c_tellLine_16 hc rfl rfl (Nat.le_of_ble_eq_true rfl) d_tellLine_16 ⟨Nat.le_of_ble_eq_true rfl, Nat.le_of_ble_eq_true rfl⟩ ⟨Nat.le_refl _, Nat.le_refl _⟩ (fun v sh' σ' hq => ?_)
    obtain ⟨rfl, rfl, rfl⟩ := hq
    refine fwg_cmp 37 d_tellLine_19 (by decide) (fun h => ?_) (fun h => absurd (nI_le (by omega) (by omega)) h)
    exact fwg_vret rfl (Nat.le_refl _) (Nat.le_refl _) (hp σ' ⟨fwSame.rf, h3, h4, fun _ _ _ => rfl, rfl, rfl⟩) d_tellLine_37
  | succ q ih =>
    intro j t σ hj h3 h4 ht hp
    refine fwRun_ok k_tellLine_14_ok rfl trivial ?_
    refine fwg_callK (n := 0) (as := []) (r := [.int (nI j)]) (ct_slen hc) ⟨by decide, by decide, by decide +kernel⟩ rfl m_slen_in c_tellLine_16 hc rfl rfl (Nat.le_of_ble_eq_true rfl) d_tellLine_16 ⟨Nat.le_of_ble_eq_true rfl, Nat.le_of_ble_eq_true rfl⟩ ⟨Nat.le_refl _, Nat.le_refl _⟩ (fun v sh' σ' hq => ?_)
    obtain ⟨rfl, rfl, rfl⟩ := hq
    refine fwg_cmp 37 d_tellLine_19 (by decide) (fun h => absurd (show nI (fwSl.getD c 0) ≤ nI j from h) (nI_ge (by omega) hL)) (fun h => ?_)
    refine fwRun_ok k_tellLine_22_ok rfl trivial ?_
    refine fwg_callK (n := 1) (as := [.int (nI j)]) (r := [.ref 4]) (ct_schar (j := j) hc (by omega)) ⟨by decide, by decide, by decide +kernel⟩ rfl m_schar_in c_tellLine_25 hc rfl rfl (Nat.le_of_ble_eq_true rfl) d_tellLine_25 ⟨Nat.le_of_ble_eq_true rfl, Nat.le_of_ble_eq_true rfl⟩ ⟨Nat.le_refl _, Nat.le_refl _⟩ (fun v sh' σ'' hq => ?_)
    obtain ⟨rfl, rfl, rfl⟩ := hq
    refine fwg_callV (n := 1) (i := 4) (as := [.int (fwCh c j)]) (r := []) (ct_tell h3 h4 (by omega)) ⟨by decide, by decide, by decide +kernel⟩ m_tell_in c_tellLine_28 rfl rfl rfl rfl (Nat.le_of_ble_eq_true rfl) d_tellLine_28 ⟨Nat.le_of_ble_eq_true rfl, Nat.le_of_ble_eq_true rfl⟩ ⟨Nat.le_refl _, Nat.le_refl _⟩ (fun v sh' σ3 hq => ?_)
    obtain ⟨rfl, rfl, hT⟩ := hq
    refine fwRun_ok k_tellLine_31_ok rfl trivial ?_
    refine fwg_goto 14 d_tellLine_34 (by decide) ?_
    have := ih (j + 1) (t + 1) σ3 (by omega) hT.2.1 hT.2.2.1 (by omega) (fun σ4 h4' => hp σ4 (by have := hT.tr h4'; rwa [show t + 1 + q = t + (q + 1) by omega] at this))
    rw [← nI_1] at this
    exact this
theorem ct_tellLine {c t : Nat} (hc : c < fwNs) (h3 : σ.1 4 3 = 0) (h4 : σ.1 4 4 = nI t) (ht : t + 2 + fwSl.getD c 0 ≤ 8000) : fwC l Z m_tellLine 5 0 0 [.ref 4, .retAddr c] (shCon e0 e1 e2 e3 re) σ (fun v sh' σ' => v = none ∧ sh' = shCon e0 e1 e2 e3 re ∧ Tl σ σ' (t + 2 + fwSl.getD c 0)) := by
  obtain ⟨-, hL, -⟩ := fw_sc c hc
  refine fwC_of (ls := [some (.ref 4), some (.retAddr c), none]) (by decide +kernel) rfl (by rw [fw_sl1]; exact Nat.le_of_ble_eq_true rfl) ?_
  refine fwRun_ok k_tellLine_0_ok rfl trivial ?_
  refine fwg_callV (n := 1) (i := 4) (as := [.int 13]) (r := []) (ct_tell h3 h4 (by omega)) ⟨by decide, by decide, by decide +kernel⟩ m_tell_in c_tellLine_3 rfl rfl rfl rfl (Nat.le_of_ble_eq_true rfl) d_tellLine_3 ⟨Nat.le_of_ble_eq_true rfl, Nat.le_of_ble_eq_true rfl⟩ ⟨Nat.le_refl _, Nat.le_refl _⟩ (fun v sh' σ1 hq => ?_)
  obtain ⟨rfl, rfl, hT1⟩ := hq
  refine fwRun_ok k_tellLine_6_ok rfl trivial ?_
  refine fwg_callV (n := 1) (i := 4) (as := [.int 10]) (r := []) (ct_tell hT1.2.1 hT1.2.2.1 (by omega)) ⟨by decide, by decide, by decide +kernel⟩ m_tell_in c_tellLine_9 rfl rfl rfl rfl (Nat.le_of_ble_eq_true rfl) d_tellLine_9 ⟨Nat.le_of_ble_eq_true rfl, Nat.le_of_ble_eq_true rfl⟩ ⟨Nat.le_refl _, Nat.le_refl _⟩ (fun v sh' σ2 hq => ?_)
  obtain ⟨rfl, rfl, hT2⟩ := hq
  refine fwRun_ok k_tellLine_12_ok rfl trivial ?_
  exact tellLine_loop (t := 0) hc hL (fwSl.getD c 0) 0 (t + 2) σ2 (by omega) hT2.2.1 hT2.2.2.1 (by omega) (fun σ' h => ⟨rfl, rfl, (hT1.tr hT2).tr h⟩)
end CON
