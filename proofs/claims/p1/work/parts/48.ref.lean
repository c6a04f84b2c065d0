/-! the reference boots (laid by wip/whole/t12.py) -/
theorem fwEx_I {S : List Nat} {σ : fwS} {i k : Nat} {v : Int32} (h : k ∈ S) : ∀ b, b ∉ S → (fwI σ i k v).1 i b = σ.1 i b := fun b hb => fwI_ne2 (fun q => hb (by rw [q]; exact h))
def MW (σ σ' : fwS) (t : Nat) : Prop := fwSame [37, 38, 42, 46] σ σ' ∧ (σ'.1 37 9 = 0 ∧ σ'.1 37 10 = nI t ∧ σ'.1 37 15 = 60419 ∧ σ'.1 37 17 = 0 ∧ σ'.1 37 18 = 1 ∧ σ'.1 37 23 = 128 ∧ σ'.1 37 35 = -1) ∧ (∀ b, b ∉ ([9, 10, 15, 17, 18, 20, 23, 27, 31, 35] : List Nat) → σ'.1 37 b = σ.1 37 b) ∧ σ'.1 38 = memW (σ.1 38) ∧ σ'.2 37 = σ.2 37
section REF
variable {l : Launch} {Z : fwZ} {re : List fwE} {σ : fwS}
theorem ct_rWarm {t : Nat} (h3 : σ.1 37 9 = 0) (h4 : σ.1 37 10 = nI t) (ht : t + 4 ≤ 8000) (hh : σ.1 37 21 = 0) (hu : σ.1 37 22 = 0) (hD : ∀ j, j < 512512 → σ.1 39 j = -27) : fwC l Z m_rWarm 6 0 0 [.ref 37] (shMd re) σ (fun w sh' σ' => w = none ∧ sh' = shMd re ∧ MW σ σ' (t + 4)) := by
  refine fwC_of (ls := [some (.ref 37)]) (by decide +kernel) rfl (by rw [fw_sl1]; exact Nat.le_refl 1) ?_
  refine fwRun_ok k_rWarm_0_ok rfl ⟨Or.inr rfl, Or.inl rfl⟩ ?_
  generalize ha : fwI (fwI σ 37 20 1) 37 17 0 = σa
  have Sa : fwSame [37] σ σa := by rw [← ha]; exact (fwSame_I (by decide)).tr (fwSame_I (by decide))
  have Ea : ∀ b, b ∉ ([9, 10, 15, 17, 18, 20, 23, 27, 31, 35] : List Nat) → σa.1 37 b = σ.1 37 b := fun b hb => by rw [← ha, fwEx_I (by decide) b hb, fwEx_I (by decide) b hb]
  have a17 : σa.1 37 17 = 0 := by rw [← ha, fwI_eq]
  have a9 : σa.1 37 9 = 0 := by rw [← ha, fwI_ne2 (by decide), fwI_ne2 (by decide)]; exact h3
  have a10 : σa.1 37 10 = nI t := by rw [← ha, fwI_ne2 (by decide), fwI_ne2 (by decide)]; exact h4
  have al : σa.2 37 = σ.2 37 := by rw [← ha]; rfl
  clear ha
  refine fwg_callV (n := 2) (i := 37) (as := [.int 0, .int 195]) (r := []) (ct_rSet (by decide)) ⟨by decide, by decide, by decide +kernel⟩ m_rSet_in c_rWarm_15 rfl rfl rfl rfl (Nat.le_of_ble_eq_true rfl) d_rWarm_15 ⟨Nat.le_of_ble_eq_true rfl, Nat.le_of_ble_eq_true rfl⟩ ⟨Nat.le_refl _, Nat.le_refl _⟩ (fun v sh' σ1 hq => ?_)
  obtain ⟨rfl, rfl, h1⟩ := hq
  refine fwRun_ok k_rWarm_18_ok rfl trivial ?_
  refine fwg_ldcw (v := 60419) (List.mem_of_getElem? (i := 39) rfl) d_rWarm_20 ?_
  refine fwg_callV (n := 2) (i := 37) (as := [.int 1, .int 60419]) (r := []) (ct_rSetWord (by decide) (by decide)) ⟨by decide, by decide, by decide +kernel⟩ m_rSetWord_in c_rWarm_23 rfl rfl rfl rfl (Nat.le_of_ble_eq_true rfl) d_rWarm_23 ⟨Nat.le_of_ble_eq_true rfl, Nat.le_of_ble_eq_true rfl⟩ ⟨Nat.le_refl _, Nat.le_refl _⟩ (fun v sh' σ2 hq => ?_)
  obtain ⟨rfl, rfl, h2⟩ := hq
  refine fwRun_ok k_rWarm_26_ok rfl trivial ?_
  refine fwg_callV (n := 2) (i := 37) (as := [.int 5, .int 195]) (r := []) (ct_rSet (by decide)) ⟨by decide, by decide, by decide +kernel⟩ m_rSet_in c_rWarm_31 rfl rfl rfl rfl (Nat.le_of_ble_eq_true rfl) d_rWarm_31 ⟨Nat.le_of_ble_eq_true rfl, Nat.le_of_ble_eq_true rfl⟩ ⟨Nat.le_refl _, Nat.le_refl _⟩ (fun v sh' σ3 hq => ?_)
  obtain ⟨rfl, rfl, h3⟩ := hq
  refine fwRun_ok k_rWarm_34_ok rfl trivial ?_
  refine fwg_callV (n := 2) (i := 37) (as := [.int 6, .int 60934]) (r := []) (ct_rSetWord (by decide) (by decide)) ⟨by decide, by decide, by decide +kernel⟩ m_rSetWord_in c_rWarm_39 rfl rfl rfl rfl (Nat.le_of_ble_eq_true rfl) d_rWarm_39 ⟨Nat.le_of_ble_eq_true rfl, Nat.le_of_ble_eq_true rfl⟩ ⟨Nat.le_refl _, Nat.le_refl _⟩ (fun v sh' σ4 hq => ?_)
  obtain ⟨rfl, rfl, h4⟩ := hq
  have hm : σ4.1 38 = memW (σ.1 38) := by
    rw [h4, fwI_row, fwI_row, h3, fwI_row, h2, fwI_row, fwI_row, h1, fwI_row, (Sa 38 (by decide)).1]
    rfl
  have S4 : fwSame [38] σa σ4 := by
    rw [h4, h3, h2, h1]
    exact (((((fwSame_I (by decide)).tr (fwSame_I (by decide))).tr (fwSame_I (by decide))).tr (fwSame_I (by decide))).tr (fwSame_I (by decide))).tr (fwSame_I (by decide))
  clear h1 h2 h3 h4
  refine fwRun_ok k_rWarm_42_ok rfl trivial ?_
  generalize hb : fwI (fwI σ4 37 23 128) 37 27 0 = σ5
  have S5 : fwSame [37] σ4 σ5 := by rw [← hb]; exact (fwSame_I (by decide)).tr (fwSame_I (by decide))
  have E5 : ∀ b, b ≠ 23 → b ≠ 27 → σ5.1 37 b = σa.1 37 b := fun b q1 q2 => by rw [← hb, fwI_ne2 q2, fwI_ne2 q1, S4.c (by decide)]
  have b23 : σ5.1 37 23 = 128 := by rw [← hb, fwI_ne2 (by decide), fwI_eq]
  have b27 : σ5.1 37 27 = 0 := by rw [← hb, fwI_eq]
  have bl : σ5.2 37 = σa.2 37 := by rw [← hb]; exact (S4 37 (by decide)).2
  clear hb
  show fwG l Z m_rWarm _ _ _ _ _ _ 59 _ [.int (σ5.1 37 21), .ref 37] _ σ5
  rw [E5 21 (by decide) (by decide), Ea 21 (by decide), hh]
  have D5 : ∀ j, j < 512512 → σ5.1 39 j = -27 := fun j hj => by rw [S5.c (by decide), S4.c (by decide), Sa.c (by decide)]; exact hD j hj
  refine fwg_callV (n := 1) (i := 37) (as := [.int 0]) (r := []) (ct_rLogin D5 b27) ⟨by decide, by decide, by decide +kernel⟩ m_rLogin_in c_rWarm_59 rfl rfl rfl rfl (Nat.le_of_ble_eq_true rfl) d_rWarm_59 ⟨Nat.le_of_ble_eq_true rfl, Nat.le_of_ble_eq_true rfl⟩ ⟨Nat.le_refl _, Nat.le_refl _⟩ (fun v sh' σ6 hq => ?_)
  obtain ⟨rfl, rfl, h6⟩ := hq
  refine fwRun_ok k_rWarm_62_ok rfl trivial ?_
  refine fwg_callV (n := 0) (i := 37) (as := []) (r := []) (ct_rForget) ⟨by decide, by decide, by decide +kernel⟩ m_rForget_in c_rWarm_63 rfl rfl rfl rfl (Nat.le_of_ble_eq_true rfl) d_rWarm_63 ⟨Nat.le_of_ble_eq_true rfl, Nat.le_of_ble_eq_true rfl⟩ ⟨Nat.le_refl _, Nat.le_refl _⟩ (fun v sh' σ7 hq => ?_)
  obtain ⟨rfl, rfl, h7⟩ := hq
  refine fwRun_ok k_rWarm_66_ok rfl ⟨Or.inl rfl, Or.inr rfl⟩ ?_
  refine fwg_ldcw (v := 60419) (List.mem_of_getElem? (i := 39) rfl) d_rWarm_77 ?_
  refine fwRun_ok k_rWarm_80_ok rfl trivial ?_
  generalize hc : fwI (fwI (fwI σ7 37 31 0) 37 18 1) 37 15 60419 = σ8
  have S8 : fwSame [37] σ6 σ8 := by rw [← hc, h7]; exact (((fwSame_I (by decide)).tr (fwSame_I (by decide))).tr (fwSame_I (by decide))).tr (fwSame_I (by decide))
  have E8 : ∀ b, b ≠ 35 → b ≠ 31 → b ≠ 18 → b ≠ 15 → b ≠ 27 → σ8.1 37 b = σ5.1 37 b := fun b q1 q2 q3 q4 q5 => by rw [← hc, fwI_ne2 q4, fwI_ne2 q3, fwI_ne2 q2, h7, fwI_ne2 q1, h6.c (by decide), fwI_ne2 q5]
  have c35 : σ8.1 37 35 = -1 := by rw [← hc, fwI_ne2 (by decide), fwI_ne2 (by decide), fwI_ne2 (by decide), h7, fwI_eq]
  have c18 : σ8.1 37 18 = 1 := by rw [← hc, fwI_ne2 (by decide), fwI_eq]
  have c15 : σ8.1 37 15 = 60419 := by rw [← hc, fwI_eq]
  have cl : σ8.2 37 = σ5.2 37 := by rw [← hc, h7]; exact (h6 37 (by decide)).2
  clear hc h7
  have e9 : σ8.1 37 9 = 0 := by rw [E8 9 (by decide) (by decide) (by decide) (by decide) (by decide), E5 9 (by decide) (by decide)]; exact a9
  have e10 : σ8.1 37 10 = nI t := by rw [E8 10 (by decide) (by decide) (by decide) (by decide) (by decide), E5 10 (by decide) (by decide)]; exact a10
  have e22 : σ8.1 37 22 = 0 := by rw [E8 22 (by decide) (by decide) (by decide) (by decide) (by decide), E5 22 (by decide) (by decide), Ea 22 (by decide)]; exact hu
  refine fwg_callV (n := 0) (i := 37) (as := []) (r := []) (ct_rPrompt e9 e10 ht e22) ⟨by decide, by decide, by decide +kernel⟩ m_rPrompt_in c_rWarm_84 rfl rfl rfl rfl (Nat.le_of_ble_eq_true rfl) d_rWarm_84 ⟨Nat.le_of_ble_eq_true rfl, Nat.le_of_ble_eq_true rfl⟩ ⟨Nat.le_refl _, Nat.le_refl _⟩ (fun v sh' σ9 hq => ?_)
  obtain ⟨rfl, rfl, h9⟩ := hq
  obtain ⟨p1, p9, p10, pO, pl⟩ := h9
  refine fwg_vret rfl (Nat.le_refl _) (Nat.le_refl _) ⟨rfl, rfl, ?_, ⟨p9, p10, ?_, ?_, ?_, ?_, ?_⟩, fun b hb => ?_, ?_, ?_⟩ d_rWarm_87
  · exact (((((Sa.up (by decide)).tr (S4.up (by decide))).tr (S5.up (by decide))).tr ((fwSame_I (i := 37) (by decide)).tr (h6.up (by decide)))).tr (S8.up (by decide))).tr (p1.up (by decide))
  · rw [pO 15 (by decide) (by decide)]; exact c15
  · rw [pO 17 (by decide) (by decide), E8 17 (by decide) (by decide) (by decide) (by decide) (by decide), E5 17 (by decide) (by decide)]; exact a17
  · rw [pO 18 (by decide) (by decide)]; exact c18
  · rw [pO 23 (by decide) (by decide), E8 23 (by decide) (by decide) (by decide) (by decide) (by decide)]; exact b23
  · rw [pO 35 (by decide) (by decide)]; exact c35
  · have nb : ∀ k, k ∈ ([9, 10, 15, 17, 18, 20, 23, 27, 31, 35] : List Nat) → b ≠ k := fun k hk q => hb (by rw [q]; exact hk)
    rw [pO b (nb 9 (by decide)) (nb 10 (by decide)), E8 b (nb 35 (by decide)) (nb 31 (by decide)) (nb 18 (by decide)) (nb 15 (by decide)) (nb 27 (by decide)), E5 b (nb 23 (by decide)) (nb 27 (by decide)), Ea b hb]
  · rw [(p1 38 (by decide)).1, (S8 38 (by decide)).1, (h6 38 (by decide)).1, ((fwSame_I (S := [37]) (by decide)) 38 (by decide)).1, (S5 38 (by decide)).1]; exact hm
  · rw [pl, cl, bl, al]
end REF
