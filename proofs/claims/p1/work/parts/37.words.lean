/-! packedWords -/
theorem fw_f3 : ((3 : Fin 4) : Nat) = 3 := rfl
section PW
variable {l : Launch} {Z : fwZ} {sh : List fwE} {σ : fwS}
theorem fwg_aret {M : fwM} {d mc ms : Nat} {Post : fwPost} {nc ns pc : Nat} {ls : List (Option Value)} {i : Nat} {t : FieldType} (hr : M.2.2.2 = some (.array t)) (hc : nc ≤ mc) (hs : ns ≤ ms) (hp : Post (some (.ref i)) sh σ) (hd : decode M.2.1 pc = .ok (.areturn, 1)) : fwG l Z M d mc ms Post nc ns pc ls [.ref i] sh σ := by
  intro p e s m args below meth c H locs Ls hE hO hS hL
  obtain ⟨hx, hb, hrt, -, -, -, hlk, -⟩ := hE
  refine W.widen hc hs ?_
  exact W.aret hx hb (by rw [hrt, hr]) (Or.inr ⟨t, rfl⟩) (Or.inr ⟨_, rfl⟩) (fun t ht _ => ⟨⟨some (.ref i), sh, σ, rfl, hp, by rw [ht]; exact hO⟩, hS.F ht⟩) (fun q hq => hS.2.2 q hq) hd
theorem ct_packed {w : Int64} {x : Int32} : fwC l Z m_packed 1 0 0 [.long w, .int x] sh σ (fwPure (.long (w * 128 + x.toInt64)) sh σ) := by
  refine fwC_of (ls := [some (.long w), none, some (.int x)]) (by decide +kernel) rfl (by rw [fw_sl1]; exact Nat.le_refl 3) ?_
  refine fwRun_ok k_packed_0_ok rfl trivial ?_
  exact fwg_lret rfl (Nat.le_refl _) (Nat.le_refl _) ⟨rfl, rfl, rfl⟩ d_packed_8
theorem pw_loop {c n N : Nat} {σ0 : fwS} (hc : c < fwNs) (hN : N < 2 ^ 31) (hsh : sh[n]? = some (.inl (.long, N))) {Post : fwPost} (hp : ∀ σ', fwSame [n] σ0 σ' → Post (some (.ref n)) sh σ') : ∀ (q i idx : Nat) (w : Int64) (σ : fwS), i + q = fwSl.getD c 0 + 1 → idx ≤ N → fwSame [n] σ0 σ → fwG l Z m_packedWords 5 1 N Post 1 N 12 [some (.retAddr c), some (.int (nI N)), some (.ref n), some (.int (nI idx)), some (.long w), none, some (.int (nI i))] [] sh σ := by
  obtain ⟨-, hL, -⟩ := fw_sc c hc
  have hL2 : fwSl.getD c 0 < 1000 := by
    have : ∀ c, c < fwNs → fwSl.getD c 0 < 1000 := by decide +kernel
    exact this c hc
  intro q
  induction q with
  | zero =>
    intro i idx w σ hi hx hs
    refine fwRun_ok k_packedWords_12_ok rfl trivial ?_
    refine fwg_callK (n := 0) (as := []) (r := [.int (nI i)]) (ct_slen hc) ⟨by decide, by decide, by decide +kernel⟩ rfl m_slen_in c_packedWords_15 hc rfl rfl (Nat.le_of_ble_eq_true rfl) d_packedWords_15 ⟨Nat.le_of_ble_eq_true rfl, Nat.le_of_ble_eq_true rfl⟩ ⟨Nat.le_refl _, Nat.le_refl _⟩ (fun v sh' σ' hq => ?_)
    obtain ⟨rfl, rfl, rfl⟩ := hq
    refine fwg_cmp 79 d_packedWords_18 (by decide) (fun h => ?_) (fun h => absurd (nI_lt (a := fwSl.getD c 0) (b := i) (by omega) (by omega)) h)
    refine fwRun_ok k_packedWords_79_ok rfl trivial ?_
    exact fwg_aret rfl (Nat.le_refl _) (Nat.le_refl _) (hp σ' hs) d_packedWords_80
  | succ q ih =>
    intro i idx w σ hi hx hs
    refine fwRun_ok k_packedWords_12_ok rfl trivial ?_
    refine fwg_callK (n := 0) (as := []) (r := [.int (nI i)]) (ct_slen hc) ⟨by decide, by decide, by decide +kernel⟩ rfl m_slen_in c_packedWords_15 hc rfl rfl (Nat.le_of_ble_eq_true rfl) d_packedWords_15 ⟨Nat.le_of_ble_eq_true rfl, Nat.le_of_ble_eq_true rfl⟩ ⟨Nat.le_refl _, Nat.le_refl _⟩ (fun v sh' σ' hq => ?_)
    obtain ⟨rfl, rfl, rfl⟩ := hq
    refine fwg_cmp 79 d_packedWords_18 (by decide) (fun h => absurd (show nI (fwSl.getD c 0) < nI i from h) (nI_nlt (by omega) (by omega))) (fun h => ?_)
    refine fwRun_ok k_packedWords_21_ok rfl trivial ?_
    refine fwg_cmp 79 d_packedWords_23 (by decide) (fun h => ?_) (fun h2 => ?_)
    · refine fwRun_ok k_packedWords_79_ok rfl trivial ?_
      exact fwg_aret rfl (Nat.le_refl _) (Nat.le_refl _) (hp σ' hs) d_packedWords_80
    have hlt : idx < N := by
      rcases Nat.lt_or_ge idx N with z | z
      · exact z
      · exact absurd (nI_le z (by omega)) h2
    have next : ∀ (idx2 : Nat) (w2 : Int64) (σ2 : fwS), idx2 ≤ N → fwSame [n] σ0 σ2 → fwG l Z m_packedWords 5 1 N Post 1 N 73 [some (.retAddr c), some (.int (nI N)), some (.ref n), some (.int (nI idx2)), some (.long w2), none, some (.int (nI i))] [] sh' σ2 := by
      intro idx2 w2 σ2 h3 h4
      refine fwRun_ok k_packedWords_73_ok rfl trivial ?_
      refine fwg_goto 12 d_packedWords_76 (by decide) ?_
      have := ih (i + 1) idx2 w2 σ2 (by omega) h3 h4
      rw [← nI_1] at this
      exact this
    have store : fwG l Z m_packedWords 5 1 N Post 1 N 46 [some (.retAddr c), some (.int (nI N)), some (.ref n), some (.int (nI idx)), some (.long w), none, some (.int (nI i))] [] sh' σ' := by
      refine fwRun_ok (φs := [vp_in (nI idx) N]) (ls' := [some (.retAddr c), some (.int (nI N)), some (.ref n), some (.int (nI idx + 1)), some (.long 1), none, some (.int (nI i))]) (st' := []) (sh' := sh') (σ' := fwL σ' n (nI idx).toNatClampNeg w) k_packedWords_46_ok (by simp [fwRun, k_packedWords_46, fwStep, hsh, fwSet1, fwSet2, fwKill, fw_f3]) (vp_in_nI hlt hN) ?_
      refine fwg_goto 73 d_packedWords_57 (by decide) ?_
      rw [nI_1]
      exact next (idx + 1) 1 _ (by omega) (hs.tr (fwSame_L (by simp)))
    refine fwRun_ok k_packedWords_26_ok rfl trivial ?_
    refine fwg_callK (n := 0) (as := []) (r := [.int (nI i)]) (ct_slen hc) ⟨by decide, by decide, by decide +kernel⟩ rfl m_slen_in c_packedWords_29 hc rfl rfl (Nat.le_of_ble_eq_true rfl) d_packedWords_29 ⟨Nat.le_of_ble_eq_true rfl, Nat.le_of_ble_eq_true rfl⟩ ⟨Nat.le_refl _, Nat.le_refl _⟩ (fun v sh1 σ1 hq => ?_)
    obtain ⟨rfl, rfl, rfl⟩ := hq
    refine fwg_cmp 46 d_packedWords_32 (by decide) (fun h3 => store) (fun h3 => ?_)
    have hil : i < fwSl.getD c 0 := by
      rcases Nat.lt_or_ge i (fwSl.getD c 0) with z | z
      · exact z
      · exact absurd (show nI i = nI (fwSl.getD c 0) by rw [show i = fwSl.getD c 0 by omega]) h3
    refine fwRun_ok k_packedWords_35_ok rfl trivial ?_
    refine fwg_callK (n := 1) (as := [.int (nI i)]) (r := []) (ct_schar (j := i) hc hil) ⟨by decide, by decide, by decide +kernel⟩ rfl m_schar_in c_packedWords_38 hc rfl rfl (Nat.le_of_ble_eq_true rfl) d_packedWords_38 ⟨Nat.le_of_ble_eq_true rfl, Nat.le_of_ble_eq_true rfl⟩ ⟨Nat.le_refl _, Nat.le_refl _⟩ (fun v sh2 σ2 hq => ?_)
    obtain ⟨rfl, rfl, rfl⟩ := hq
    refine fwRun_ok k_packedWords_41_ok rfl trivial ?_
    refine fwg_cmp 60 d_packedWords_43 (by decide) (fun h4 => ?_) (fun h4 => store)
    refine fwRun_ok k_packedWords_60_ok rfl trivial ?_
    refine fwg_callK (n := 1) (as := [.int (nI i)]) (r := [.long w]) (ct_schar (j := i) hc hil) ⟨by decide, by decide, by decide +kernel⟩ rfl m_schar_in c_packedWords_65 hc rfl rfl (Nat.le_of_ble_eq_true rfl) d_packedWords_65 ⟨Nat.le_of_ble_eq_true rfl, Nat.le_of_ble_eq_true rfl⟩ ⟨Nat.le_refl _, Nat.le_refl _⟩ (fun v sh3 σ3 hq => ?_)
    obtain ⟨rfl, rfl, rfl⟩ := hq
    refine fwg_callS (n := 2) (as := [.long w, .int (fwCh c i)]) (r := []) ct_packed ⟨by decide, by decide, by decide +kernel⟩ m_packed_in c_packedWords_68 rfl rfl (Nat.le_of_ble_eq_true rfl) d_packedWords_68 ⟨Nat.le_of_ble_eq_true rfl, Nat.le_of_ble_eq_true rfl⟩ ⟨Nat.le_refl _, Nat.le_refl _⟩ (fun v sh4 σ4 hq => ?_)
    obtain ⟨rfl, rfl, rfl⟩ := hq
    refine fwRun_ok k_packedWords_71_ok rfl trivial ?_
    exact next idx _ _ hx hs
theorem ct_packedWords {c N : Nat} (hc : c < fwNs) (hN : N < 1000) : fwC l Z m_packedWords 5 1 N [.retAddr c, .int (nI N)] sh σ (fun v sh' σ' => v = some (.ref sh.length) ∧ sh' = sh ++ [.inl (.long, N)] ∧ fwSame [sh.length] σ σ') := by
  refine fwC_of (ls := [some (.retAddr c), some (.int (nI N)), none, none, none, none, none]) (by decide +kernel) rfl (by rw [fw_sl1]; exact Nat.le_of_ble_eq_true rfl) ?_
  refine fwRun_ok k_packedWords_0_ok rfl trivial ?_
  refine fwg_newa' N sh.length (sh ++ [.inl (.long, N)]) (by decide) fwAc_long d_packedWords_1 (nI_pos (by omega)) (nI_clamp (by omega)) (by show N * 8 ≤ _; omega) (by omega) (by omega) rfl rfl ?_
  refine fwRun_ok k_packedWords_3_ok rfl trivial ?_
  have h := pw_loop (l := l) (Z := Z) (sh := sh ++ [.inl (.long, N)]) (c := c) (n := sh.length) (N := N) (σ0 := fwZero σ sh.length) hc (by omega) (by rw [List.getElem?_append_right (Nat.le_refl _), Nat.sub_self]; rfl) (Post := fun v sh' σ' => v = some (.ref sh.length) ∧ sh' = sh ++ [.inl (.long, N)] ∧ fwSame [sh.length] σ σ') (fun σ' h => ⟨rfl, rfl, (fwSame_0 (by simp)).tr h⟩) (fwSl.getD c 0 + 1) 0 0 1 _ (by omega) (Nat.zero_le _) fwSame.rf
  rw [show (0 : Nat) + 1 = 1 from rfl, Nat.zero_add]
  exact h
end PW
