/-! the boots -/
/-- a call of one of the class's own methods on cell i -/
theorem fwSame.c {S : List Nat} {σ σ' : fwS} (h : fwSame S σ σ') {a : Nat} (ha : a ∉ S) (b : Nat) : σ'.1 a b = σ.1 a b := by rw [(h a ha).1]
theorem fwSame.c2 {S : List Nat} {σ σ' : fwS} (h : fwSame S σ σ') {a : Nat} (ha : a ∉ S) (b : Nat) : σ'.2 a b = σ.2 a b := by rw [(h a ha).2]
theorem fwA_ne {σ : fwS} {i a b : Nat} {f : Nat → Int32} (h : a ≠ i) : (fwA σ i f).1 a b = σ.1 a b := if_neg h
section BOOT
variable {l : Launch} {Z : fwZ} {e0 e1 e2 e3 : fwE} {re : List fwE} {σ : fwS}
/-- at the command line -/
def Cmd (σ σ' : fwS) (t : Nat) : Prop := fwSame [4, 5, 8, 17] σ σ' ∧ (σ'.1 4 3 = 0 ∧ σ'.1 4 4 = nI t ∧ σ'.1 4 5 = σ.1 4 5 ∧ σ'.1 4 6 = σ.1 4 6 ∧ σ'.1 4 7 = 0 ∧ σ'.1 4 8 = 127 ∧ σ'.1 4 9 = 1) ∧ (σ'.1 8 5 = 60419 ∧ (∀ b, b ≠ 5 → σ'.1 8 b = σ.1 8 b) ∧ σ'.2 8 = σ.2 8) ∧ σ'.1 17 7 = 1 ∧ ∀ b, b ≠ 7 → σ'.1 17 b = σ.1 17 b
theorem ct_goCmd {t : Nat} (h3 : σ.1 4 3 = 0) (h4 : σ.1 4 4 = nI t) (ht : t + 4 ≤ 8000) (hh : σ.1 11 10 = 0) (hu : σ.1 11 11 = 0) : fwC l Z m_goCmd 6 0 0 [.ref 17] (shMon e0 e1 e2 e3 re) σ (fun w sh' σ' => w = none ∧ sh' = shMon e0 e1 e2 e3 re ∧ Cmd σ σ' (t + 4)) := by
  refine fwC_of (ls := [some (.ref 17)]) (by decide +kernel) rfl (by rw [fw_sl1]; exact Nat.le_refl 1) ?_
  refine fwRun_ok k_goCmd_0_ok rfl (Or.inr rfl) ?_
  refine fwg_callV (n := 1) (i := 4) (as := [.retAddr 3]) (r := []) (ct_tellLine (c := 3) (t := t) (by decide) h3 h4 (by show t + 2 + 0 ≤ 8000; omega)) ⟨by decide, by decide, by decide +kernel⟩ m_tellLine_in c_goCmd_20 rfl rfl rfl rfl (Nat.le_of_ble_eq_true rfl) d_goCmd_20 ⟨Nat.le_of_ble_eq_true rfl, Nat.le_of_ble_eq_true rfl⟩ ⟨Nat.le_refl _, Nat.le_refl _⟩ (fun v sh' σ1 hq => ?_)
  obtain ⟨rfl, rfl, hT1⟩ := hq
  refine fwRun_ok k_goCmd_23_ok rfl trivial ?_
  refine fwg_callV (n := 1) (i := 4) (as := [.int (65 + σ1.1 11 10)]) (r := []) (ct_tell hT1.2.1 hT1.2.2.1 (by show t + 2 + 0 < 8000; omega)) ⟨by decide, by decide, by decide +kernel⟩ m_tell_in c_goCmd_37 rfl rfl rfl rfl (Nat.le_of_ble_eq_true rfl) d_goCmd_37 ⟨Nat.le_of_ble_eq_true rfl, Nat.le_of_ble_eq_true rfl⟩ ⟨Nat.le_refl _, Nat.le_refl _⟩ (fun v sh' σ2 hq => ?_)
  obtain ⟨rfl, rfl, hT2⟩ := hq
  refine fwRun_ok k_goCmd_40_ok rfl trivial ?_
  have hT := hT1.tr hT2
  refine fwg_if 64 d_goCmd_47 (by decide) (fun h => ?_) (fun h => ?_)
  · refine fwRun_ok k_goCmd_64_ok rfl trivial ?_
    refine fwg_callV (n := 1) (i := 4) (as := [.int 62]) (r := []) (ct_tell hT2.2.1 hT2.2.2.1 (by show t + 2 + 0 + 1 < 8000; omega)) ⟨by decide, by decide, by decide +kernel⟩ m_tell_in c_goCmd_70 rfl rfl rfl rfl (Nat.le_of_ble_eq_true rfl) d_goCmd_70 ⟨Nat.le_of_ble_eq_true rfl, Nat.le_of_ble_eq_true rfl⟩ ⟨Nat.le_refl _, Nat.le_refl _⟩ (fun v sh' σ3 hq => ?_)
    obtain ⟨rfl, rfl, hT3⟩ := hq
    refine fwRun_ok k_goCmd_73_ok rfl trivial ?_
    refine fwg_callV (n := 1) (i := 4) (as := [.int 127]) (r := []) ct_openLine ⟨by decide, by decide, by decide +kernel⟩ m_openLine_in c_goCmd_79 rfl rfl rfl rfl (Nat.le_of_ble_eq_true rfl) d_goCmd_79 ⟨Nat.le_of_ble_eq_true rfl, Nat.le_of_ble_eq_true rfl⟩ ⟨Nat.le_refl _, Nat.le_refl _⟩ (fun v sh' σ4 hq => ?_)
    obtain ⟨rfl, rfl, rfl⟩ := hq
    refine fwg_vret rfl (Nat.le_refl _) (Nat.le_refl _) ⟨rfl, rfl, ?_⟩ d_goCmd_82
    have hT' := hT.tr hT3
    refine ⟨?_, ⟨hT'.2.1, hT'.2.2.1, hT'.2.2.2.1 5 (by decide) (by decide), hT'.2.2.2.1 6 (by decide) (by decide), rfl, rfl, rfl⟩, ⟨?_, fun b hb => ?_, ?_⟩, ?_, fun b hb => ?_⟩
    · refine fwSame.tr (σ1 := fwI (fwI σ 8 5 60419) 17 7 1) ((fwSame_I (by decide)).tr (fwSame_I (by decide))) ((hT'.1.up (by decide)).tr (((fwSame_I (by decide)).tr (fwSame_I (by decide))).tr (fwSame_I (by decide))))
    · exact hT'.1.c (a := 8) (by decide) 5
    · refine (hT'.1.c (a := 8) (by decide) b).trans ?_
      show (fwI (fwI σ 8 5 60419) 17 7 1).1 8 b = _
      rw [fwI_ne (by decide), fwI_ne2 hb]
    · exact (hT'.1 8 (by decide)).2
    · exact hT'.1.c (a := 17) (by decide) 7
    · refine (hT'.1.c (a := 17) (by decide) b).trans ?_
      show (fwI (fwI σ 8 5 60419) 17 7 1).1 17 b = _
      rw [fwI_ne2 hb, fwI_ne (by decide)]
  · refine absurd ?_ h
    show σ2.1 11 11 = 0
    rw [hT.1.c (a := 11) (by decide) 11]
    exact hu
theorem fwI_row (σ : fwS) (i k : Nat) (v : Int32) : (fwI σ i k v).1 i = fun j => if j = k then v else σ.1 i j := by
  funext j
  show (if i = i ∧ j = k then v else σ.1 i j) = _
  by_cases h : j = k
  · rw [if_pos ⟨rfl, h⟩, if_pos h]
  · rw [if_neg (fun q => h q.2), if_neg h]
/-- 0 .. 2 and 5 .. 7 as a warm boot leaves them -/
def memW (f : Nat → Int32) : Nat → Int32 := fun j => if j = 7 then -18 else if j = 6 then 6 else if j = 5 then -61 else if j = 2 then -20 else if j = 1 then 3 else if j = 0 then -61 else f j
def Wrm (σ σ' : fwS) (t : Nat) : Prop := fwSame [4, 5, 8, 9, 11, 14, 17] σ σ' ∧ (σ'.1 4 3 = 0 ∧ σ'.1 4 4 = nI t ∧ σ'.1 4 5 = σ.1 4 5 ∧ σ'.1 4 6 = σ.1 4 6 ∧ σ'.1 4 7 = 0 ∧ σ'.1 4 8 = 127 ∧ σ'.1 4 9 = 1) ∧ (σ'.1 8 5 = 60419 ∧ (∀ b, b ≠ 5 → σ'.1 8 b = σ.1 8 b) ∧ σ'.2 8 = σ.2 8) ∧ (σ'.1 17 7 = 1 ∧ σ'.1 17 3 = 128) ∧ σ'.1 9 = memW (σ.1 9) ∧ ∀ b, b ≠ 7 → b ≠ 8 → σ'.1 11 b = σ.1 11 b
theorem ct_warm {t : Nat} (h3 : σ.1 4 3 = 0) (h4 : σ.1 4 4 = nI t) (ht : t + 4 ≤ 8000) (hh : σ.1 11 10 = 0) (hu : σ.1 11 11 = 0) (hF : FilOk σ) : fwC l Z m_warm 7 0 0 [.ref 17] (shMon e0 e1 e2 e3 re) σ (fun w sh' σ' => w = none ∧ sh' = shMon e0 e1 e2 e3 re ∧ Wrm σ σ' (t + 4)) := by
  refine fwC_of (ls := [some (.ref 17)]) (by decide +kernel) rfl (by rw [fw_sl1]; exact Nat.le_refl 1) ?_
  refine fwRun_ok k_warm_0_ok rfl trivial ?_
  refine fwg_callV (n := 2) (i := 8) (as := [.int 0, .int 195]) (r := []) ct_poke ⟨by decide, by decide, by decide +kernel⟩ m_poke_in c_warm_8 rfl rfl rfl rfl (Nat.le_of_ble_eq_true rfl) d_warm_8 ⟨Nat.le_of_ble_eq_true rfl, Nat.le_of_ble_eq_true rfl⟩ ⟨Nat.le_refl _, Nat.le_refl _⟩ (fun v sh' σ1 hq => ?_)
  obtain ⟨rfl, rfl, hs1⟩ := hq
  refine fwRun_ok k_warm_11_ok rfl trivial ?_
  refine fwg_callV (n := 2) (i := 8) (as := [.int 1, .int 60419]) (r := []) ct_pokeWord ⟨by decide, by decide, by decide +kernel⟩ m_pokeWord_in c_warm_18 rfl rfl rfl rfl (Nat.le_of_ble_eq_true rfl) d_warm_18 ⟨Nat.le_of_ble_eq_true rfl, Nat.le_of_ble_eq_true rfl⟩ ⟨Nat.le_refl _, Nat.le_refl _⟩ (fun v sh' σ2 hq => ?_)
  obtain ⟨rfl, rfl, hs2⟩ := hq
  refine fwRun_ok k_warm_21_ok rfl trivial ?_
  refine fwg_callV (n := 2) (i := 8) (as := [.int 5, .int 195]) (r := []) ct_poke ⟨by decide, by decide, by decide +kernel⟩ m_poke_in c_warm_29 rfl rfl rfl rfl (Nat.le_of_ble_eq_true rfl) d_warm_29 ⟨Nat.le_of_ble_eq_true rfl, Nat.le_of_ble_eq_true rfl⟩ ⟨Nat.le_refl _, Nat.le_refl _⟩ (fun v sh' σ3 hq => ?_)
  obtain ⟨rfl, rfl, hs3⟩ := hq
  refine fwRun_ok k_warm_32_ok rfl trivial ?_
  refine fwg_callV (n := 2) (i := 8) (as := [.int 6, .int 60934]) (r := []) ct_pokeWord ⟨by decide, by decide, by decide +kernel⟩ m_pokeWord_in c_warm_40 rfl rfl rfl rfl (Nat.le_of_ble_eq_true rfl) d_warm_40 ⟨Nat.le_of_ble_eq_true rfl, Nat.le_of_ble_eq_true rfl⟩ ⟨Nat.le_refl _, Nat.le_refl _⟩ (fun v sh' σ4 hq => ?_)
  obtain ⟨rfl, rfl, hs4⟩ := hq
  have hm : σ4.1 9 = memW (σ.1 9) := by
    rw [hs4, fwI_row, fwI_row, hs3, fwI_row, hs2, fwI_row, fwI_row, hs1, fwI_row]
    rfl
  have hS4 : fwSame [9] σ σ4 := by
    rw [hs4, hs3, hs2, hs1]
    exact (((((fwSame_I (by decide)).tr (fwSame_I (by decide))).tr (fwSame_I (by decide))).tr (fwSame_I (by decide))).tr (fwSame_I (by decide))).tr (fwSame_I (by decide))
  clear hs1 hs2 hs3 hs4
  refine fwRun_ok k_warm_43_ok rfl trivial ?_
  refine fwg_callV (n := 0) (i := 11) (as := []) (r := []) ct_forget ⟨by decide, by decide, by decide +kernel⟩ m_forget_in c_warm_47 rfl rfl rfl rfl (Nat.le_of_ble_eq_true rfl) d_warm_47 ⟨Nat.le_of_ble_eq_true rfl, Nat.le_of_ble_eq_true rfl⟩ ⟨Nat.le_refl _, Nat.le_refl _⟩ (fun v sh' σ5 hq => ?_)
  obtain ⟨rfl, rfl, hs5⟩ := hq
  have hS5 : fwSame [11] σ4 σ5 := by rw [hs5]; exact (fwSame_I (by decide)).tr (fwSame_I (by decide))
  have h11 : ∀ b, b ≠ 7 → b ≠ 8 → σ5.1 11 b = σ.1 11 b := fun b hb hc => by rw [hs5, fwI_ne2 hb, fwI_ne2 hc]; exact hS4.c (by decide) b
  have h119 : σ5.1 11 8 = 0 := by rw [hs5, fwI_ne2 (by decide), fwI_eq]
  clear hs5
  have hF5 : FilOk σ5 := ⟨fun j hj => by rw [hS5.c (by decide), hS4.c (by decide)]; exact hF.1 j hj, fun k hk => by rw [hS5.c (by decide), hS4.c (by decide)]; exact hF.2 k hk⟩
  refine fwRun_ok k_warm_50_ok rfl trivial ?_
  have hh5 : σ5.1 11 10 = 0 := by rw [h11 10 (by decide) (by decide)]; exact hh
  show fwG l Z m_warm 7 0 0 _ 0 0 61 _ [.int (σ5.1 11 10), .ref 11] _ σ5
  rw [hh5]
  refine fwg_callV (n := 1) (i := 11) (as := [.int 0]) (r := []) (ct_login hF5 h119) ⟨by decide, by decide, by decide +kernel⟩ m_login_in c_warm_61 rfl rfl rfl rfl (Nat.le_of_ble_eq_true rfl) d_warm_61 ⟨Nat.le_of_ble_eq_true rfl, Nat.le_of_ble_eq_true rfl⟩ ⟨Nat.le_refl _, Nat.le_refl _⟩ (fun v sh' σ6 hq => ?_)
  obtain ⟨rfl, rfl, hS6⟩ := hq
  refine fwRun_ok k_warm_64_ok rfl trivial ?_
  have c4 : ∀ b, σ6.1 4 b = σ.1 4 b := fun b => by rw [hS6.c (by decide), fwI_ne (by decide), hS5.c (by decide), hS4.c (by decide)]
  have c11 : ∀ b, b ≠ 7 → b ≠ 8 → σ6.1 11 b = σ.1 11 b := fun b hb hc => by rw [hS6.c (by decide), fwI_ne2 hc]; exact h11 b hb hc
  refine fwg_callV (n := 0) (i := 17) (as := []) (r := []) (ct_goCmd (t := t) (by show (fwI σ6 17 3 128).1 4 3 = 0; rw [fwI_ne (by decide), c4]; exact h3) (by show (fwI σ6 17 3 128).1 4 4 = _; rw [fwI_ne (by decide), c4]; exact h4) ht (by show (fwI σ6 17 3 128).1 11 10 = 0; rw [fwI_ne (by decide), c11 10 (by decide) (by decide)]; exact hh) (by show (fwI σ6 17 3 128).1 11 11 = 0; rw [fwI_ne (by decide), c11 11 (by decide) (by decide)]; exact hu)) ⟨by decide, by decide, by decide +kernel⟩ m_goCmd_in c_warm_72 rfl rfl rfl rfl (Nat.le_of_ble_eq_true rfl) d_warm_72 ⟨Nat.le_of_ble_eq_true rfl, Nat.le_of_ble_eq_true rfl⟩ ⟨Nat.le_refl _, Nat.le_refl _⟩ (fun v sh' σ7 hq => ?_)
  obtain ⟨rfl, rfl, hC⟩ := hq
  refine fwg_vret rfl (Nat.le_refl _) (Nat.le_refl _) ⟨rfl, rfl, ?_⟩ d_warm_75
  obtain ⟨q1, ⟨a3, a4, a5, a6, a7, a8, a9⟩, ⟨b5, bo, bl⟩, d8, dO⟩ := hC
  refine ⟨?_, ⟨a3, a4, a5.trans ?_, a6.trans ?_, a7, a8, a9⟩, ⟨b5, fun b hb => (bo b hb).trans ?_, bl.trans ?_⟩, ⟨d8, ?_⟩, ?_, fun b hb hc => ?_⟩
  · exact (((((hS4.up (by decide)).tr (hS5.up (by decide))).tr (fwSame_I (i := 11) (by decide))).tr (hS6.up (by decide))).tr (fwSame_I (i := 17) (by decide))).tr (q1.up (by decide))
  · show (fwI σ6 17 3 128).1 4 5 = _; rw [fwI_ne (by decide), c4]
  · show (fwI σ6 17 3 128).1 4 6 = _; rw [fwI_ne (by decide), c4]
  · show (fwI σ6 17 3 128).1 8 b = _; rw [fwI_ne (by decide), hS6.c (by decide), fwI_ne (by decide), hS5.c (by decide), hS4.c (by decide)]
  · show σ6.2 8 = _; rw [(hS6 8 (by decide)).2]; show σ5.2 8 = _; rw [(hS5 8 (by decide)).2, (hS4 8 (by decide)).2]
  · rw [dO 3 (by decide)]; exact fwI_eq
  · rw [(q1 9 (by decide)).1]
    show (fwI σ6 17 3 128).1 9 = _
    rw [((fwSame_I (S := [17]) (by decide)) 9 (by decide)).1, (hS6 9 (by decide)).1, ((fwSame_I (S := [11]) (by decide)) 9 (by decide)).1, (hS5 9 (by decide)).1]
    exact hm
  · rw [q1.c (by decide)]
    show (fwI σ6 17 3 128).1 11 b = _
    rw [fwI_ne (by decide)]
    exact c11 b hb hc
/-- the board as a cold boot leaves it -/
def Cld (σ σ' : fwS) (t : Nat) : Prop := fwSame [4, 5, 8, 9, 10, 11, 14, 17] σ σ' ∧ (σ'.1 4 3 = 0 ∧ σ'.1 4 4 = nI t ∧ σ'.1 4 5 = σ.1 4 5 ∧ σ'.1 4 6 = 0 ∧ σ'.1 4 7 = 0 ∧ σ'.1 4 8 = 127 ∧ σ'.1 4 9 = 1) ∧ (σ'.1 8 3 = 2 ∧ σ'.1 8 4 = 0 ∧ σ'.1 8 5 = 60419 ∧ σ'.1 8 7 = 0 ∧ σ'.2 8 = σ.2 8) ∧ (∀ j, j < 65536 → σ'.1 9 j = memW (fun _ => 0) j) ∧ (∀ j, j < 8 → σ'.1 10 j = 0) ∧ (σ'.1 11 10 = 0 ∧ σ'.1 11 11 = 0) ∧ σ'.1 17 7 = 1 ∧ σ'.1 17 3 = 128
theorem ct_cold {t : Nat} (h3 : σ.1 4 3 = 0) (h4 : σ.1 4 4 = nI t) (ht : t + 9 ≤ 8000) (hF : FilOk σ) : fwC l Z m_cold 8 0 0 [.ref 17] (shMon e0 e1 e2 e3 re) σ (fun w sh' σ' => w = none ∧ sh' = shMon e0 e1 e2 e3 re ∧ Cld σ σ' (t + 9)) := by
  refine fwC_of (ls := [some (.ref 17)]) (by decide +kernel) rfl (by rw [fw_sl1]; exact Nat.le_refl 1) ?_
  refine fwRun_ok k_cold_0_ok rfl trivial ?_
  refine fwg_callS (n := 2) (as := [.ref 9, .int 0]) (r := []) (ct_fillB (n := 65536) rfl (by decide)) ⟨by decide, by decide, by decide +kernel⟩ m_fillB_in c_cold_8 rfl rfl (Nat.le_of_ble_eq_true rfl) d_cold_8 ⟨Nat.le_of_ble_eq_true rfl, Nat.le_of_ble_eq_true rfl⟩ ⟨Nat.le_refl _, Nat.le_refl _⟩ (fun v sh' σ1 hq => ?_)
  obtain ⟨rfl, rfl, hs1⟩ := hq
  refine fwRun_ok k_cold_11_ok rfl trivial ?_
  refine fwg_callV (n := 0) (i := 8) (as := []) (r := []) ct_clearRegs ⟨by decide, by decide, by decide +kernel⟩ m_clearRegs_in c_cold_15 rfl rfl rfl rfl (Nat.le_of_ble_eq_true rfl) d_cold_15 ⟨Nat.le_of_ble_eq_true rfl, Nat.le_of_ble_eq_true rfl⟩ ⟨Nat.le_refl _, Nat.le_refl _⟩ (fun v sh' σ2 hq => ?_)
  obtain ⟨rfl, rfl, hs2⟩ := hq
  refine fwRun_ok k_cold_18_ok rfl (Or.inl rfl) ?_
  generalize hs3 : fwI (fwI (fwI (fwI (fwI (fwI (fwI (fwI σ2 8 7 0) 11 9 0) 11 10 0) 11 11 0) 17 4 0) 17 5 0) 17 6 1) 4 6 0 = σ3
  have m9 : ∀ j, j < 65536 → σ3.1 9 j = 0 := fun j hj => by
    rw [← hs3, fwI_ne (by decide), fwI_ne (by decide), fwI_ne (by decide), fwI_ne (by decide), fwI_ne (by decide), fwI_ne (by decide), fwI_ne (by decide), fwI_ne (by decide), hs2, fwI_ne (by decide), fwI_ne (by decide)]
    rw [fwA_ne (by decide), hs1, fwA_at]
    exact if_pos hj
  have m10 : ∀ j, j < 8 → σ3.1 10 j = 0 := fun j hj => by
    rw [← hs3, fwI_ne (by decide), fwI_ne (by decide), fwI_ne (by decide), fwI_ne (by decide), fwI_ne (by decide), fwI_ne (by decide), fwI_ne (by decide), fwI_ne (by decide), hs2, fwI_ne (by decide), fwI_ne (by decide), fwA_at]
    exact if_pos hj
  have m4 : ∀ b, b ≠ 6 → σ3.1 4 b = σ.1 4 b := fun b hb => by
    rw [← hs3, fwI_ne2 hb, fwI_ne (by decide), fwI_ne (by decide), fwI_ne (by decide), fwI_ne (by decide), fwI_ne (by decide), fwI_ne (by decide), fwI_ne (by decide), hs2, fwI_ne (by decide), fwI_ne (by decide)]
    rw [fwA_ne (by decide), hs1, fwA_ne (by decide)]
  have m46 : σ3.1 4 6 = 0 := by rw [← hs3, fwI_eq]
  have m8 : σ3.1 8 3 = 2 ∧ σ3.1 8 4 = 0 ∧ σ3.1 8 7 = 0 := by
    rw [← hs3, hs2]
    exact ⟨rfl, rfl, rfl⟩
  have m11 : σ3.1 11 10 = 0 ∧ σ3.1 11 11 = 0 := by
    rw [← hs3]
    exact ⟨rfl, rfl⟩
  have hS3 : fwSame [4, 8, 9, 10, 11, 17] σ σ3 := by
    rw [← hs3, hs2, hs1]
    exact (((((((((((fwSame_A (by decide)).tr (fwSame_A (by decide))).tr (fwSame_I (by decide))).tr (fwSame_I (by decide))).tr (fwSame_I (by decide))).tr (fwSame_I (by decide))).tr (fwSame_I (by decide))).tr (fwSame_I (by decide))).tr (fwSame_I (by decide))).tr (fwSame_I (by decide))).tr (fwSame_I (by decide))).tr (fwSame_I (by decide))
  have ml : ∀ a, σ3.2 a = σ.2 a := fun a => by rw [← hs3, hs2, hs1]; rfl
  clear hs1 hs2 hs3
  refine fwg_callV (n := 1) (i := 4) (as := [.retAddr 2]) (r := []) (ct_tellLine (c := 2) (t := t) (by decide) (by rw [m4 3 (by decide)]; exact h3) (by rw [m4 4 (by decide)]; exact h4) (by show t + 2 + 3 ≤ 8000; omega)) ⟨by decide, by decide, by decide +kernel⟩ m_tellLine_in c_cold_79 rfl rfl rfl rfl (Nat.le_of_ble_eq_true rfl) d_cold_79 ⟨Nat.le_of_ble_eq_true rfl, Nat.le_of_ble_eq_true rfl⟩ ⟨Nat.le_refl _, Nat.le_refl _⟩ (fun v sh' σ4 hq => ?_)
  obtain ⟨rfl, rfl, hT⟩ := hq
  have hT4 : σ4.1 4 4 = nI (t + 5) := hT.2.2.1
  refine fwRun_ok k_cold_82_ok rfl trivial ?_
  refine fwg_callV (n := 0) (i := 17) (as := []) (r := []) (ct_warm (t := t + 5) hT.2.1 hT4 (by omega) (by rw [hT.1.c (by decide)]; exact m11.1) (by rw [hT.1.c (by decide)]; exact m11.2) ⟨fun j hj => by rw [hT.1.c (by decide), hS3.c (by decide)]; exact hF.1 j hj, fun k hk => by rw [hT.1.c (by decide), hS3.c (by decide)]; exact hF.2 k hk⟩) ⟨by decide, by decide, by decide +kernel⟩ m_warm_in c_cold_83 rfl rfl rfl rfl (Nat.le_of_ble_eq_true rfl) d_cold_83 ⟨Nat.le_of_ble_eq_true rfl, Nat.le_of_ble_eq_true rfl⟩ ⟨Nat.le_refl _, Nat.le_refl _⟩ (fun v sh' σ5 hq => ?_)
  obtain ⟨rfl, rfl, q1, ⟨a3, a4, a5, a6, a7, a8, a9⟩, ⟨b5, bo, bl⟩, ⟨d8, d4⟩, hm, h11⟩ := hq
  refine fwg_vret rfl (Nat.le_refl _) (Nat.le_refl _) ⟨rfl, rfl, ?_⟩ d_cold_86
  refine ⟨((hS3.up (by decide)).tr (hT.1.up (by decide))).tr (q1.up (by decide)), ⟨a3, a4, ?_, ?_, a7, a8, a9⟩, ⟨?_, ?_, b5, ?_, ?_⟩, fun j hj => ?_, fun j hj => ?_, ⟨?_, ?_⟩, d8, d4⟩
  · rw [a5, hT.2.2.2.1 5 (by decide) (by decide)]; exact m4 5 (by decide)
  · rw [a6, hT.2.2.2.1 6 (by decide) (by decide)]; exact m46
  · rw [bo 3 (by decide), hT.1.c (by decide)]; exact m8.1
  · rw [bo 4 (by decide), hT.1.c (by decide)]; exact m8.2.1
  · rw [bo 7 (by decide), hT.1.c (by decide)]; exact m8.2.2
  · rw [bl, (hT.1 8 (by decide)).2]; exact ml 8
  · rw [hm]
    unfold memW
    rw [hT.1.c (by decide), m9 j hj]
  · rw [q1.c (by decide), hT.1.c (by decide)]; exact m10 j hj
  · rw [h11 10 (by decide) (by decide), hT.1.c (by decide)]; exact m11.1
  · rw [h11 11 (by decide) (by decide), hT.1.c (by decide)]; exact m11.2
end BOOT
