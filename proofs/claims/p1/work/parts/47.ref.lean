/-! the reference: a drive is logged in (laid by wip/whole/t11.py) -/
section REF
variable {l : Launch} {Z : fwZ} {re : List fwE} {σ : fwS}
theorem ct_rSectorAt {dr t s : Nat} (hs : 1 ≤ s) : fwC l Z m_rSectorAt 1 0 0 [.ref 37, .int (nI dr), .int (nI t), .int (nI s)] (shMd re) σ (fwPure (.int (nI (128 * ((77 * dr + t) * 26 + s - 1)))) (shMd re) σ) := by
  refine fwC_of (ls := [some (.ref 37), some (.int (nI dr)), some (.int (nI t)), some (.int (nI s))]) (by decide +kernel) rfl (by rw [fw_sl1]; exact Nat.le_refl 4) ?_
  refine fwRun_ok k_rSectorAt_0_ok rfl trivial ?_
  refine fwg_iret rfl (Nat.le_refl _) (Nat.le_refl _) ⟨?_, rfl, rfl⟩ d_rSectorAt_17
  show some (Value.int (nI 128 * ((nI 77 * nI dr + nI t) * nI 26 + nI s - nI 1))) = _
  rw [pk_mul, nI_add, pk_mul, nI_add, pk_sub (by omega), pk_mul]
theorem ct_rRecordAt {b r : Nat} (h : 8 * b + r < 1944) : fwC l Z m_rRecordAt 2 0 0 [.ref 37, .int (nI 0), .int (nI b), .int (nI r)] (shMd re) σ (fun w sh' σ' => (∃ q, w = some (.int (nI q)) ∧ q + 128 ≤ 256256) ∧ sh' = shMd re ∧ σ' = σ) := by
  refine fwC_of (ls := [some (.ref 37), some (.int (nI 0)), some (.int (nI b)), some (.int (nI r)), none, none]) (by decide +kernel) rfl (by rw [fw_sl1]; exact Nat.le_of_ble_eq_true rfl) ?_
  refine fwRun_ok k_rRecordAt_0_ok rfl ⟨show ¬ (26 : Int32) = 0 by decide, show ¬ (26 : Int32) = 0 by decide, show ¬ (13 : Int32) = 0 by decide, show ¬ (26 : Int32) = 0 by decide⟩ ?_
  have hn : nI 8 * nI b + nI r = nI (8 * b + r) := by rw [pk_mul, nI_add]
  have hi : nI (8 * b + r) - nI (8 * b + r) / nI 26 * nI 26 = nI ((8 * b + r) % 26) := pk_rem (by omega) (by decide) (by decide)
  have hq : nI 6 * nI ((8 * b + r) % 26) + nI ((8 * b + r) % 26) / nI 13 = nI (6 * ((8 * b + r) % 26) + (8 * b + r) % 26 / 13) := by rw [pk_mul, pk_div (by omega) (by decide) (by decide), nI_add]
  have hs : nI 1 + (nI (6 * ((8 * b + r) % 26) + (8 * b + r) % 26 / 13) - nI (6 * ((8 * b + r) % 26) + (8 * b + r) % 26 / 13) / nI 26 * nI 26) = nI (1 + (6 * ((8 * b + r) % 26) + (8 * b + r) % 26 / 13) % 26) := by rw [pk_rem (by omega) (by decide) (by decide), nI_add]
  have ht : nI 2 + nI (8 * b + r) / nI 26 = nI (2 + (8 * b + r) / 26) := by rw [pk_div (by omega) (by decide) (by decide), nI_add]
  show fwG l Z m_rRecordAt _ _ _ _ _ _ 40 _ [.int (nI 1 + ((nI 6 * (nI 8 * nI b + nI r - (nI 8 * nI b + nI r) / nI 26 * nI 26) + (nI 8 * nI b + nI r - (nI 8 * nI b + nI r) / nI 26 * nI 26) / nI 13) - (nI 6 * (nI 8 * nI b + nI r - (nI 8 * nI b + nI r) / nI 26 * nI 26) + (nI 8 * nI b + nI r - (nI 8 * nI b + nI r) / nI 26 * nI 26) / nI 13) / nI 26 * nI 26)), .int (nI 2 + (nI 8 * nI b + nI r) / nI 26), .int (nI 0), .ref 37] _ _
  rw [hn, hi, hq, hs, ht]
  refine fwg_callV (n := 3) (i := 37) (as := [.int (nI 0), .int (nI (2 + (8 * b + r) / 26)), .int (nI (1 + (6 * ((8 * b + r) % 26) + (8 * b + r) % 26 / 13) % 26))]) (r := []) (ct_rSectorAt (by omega)) ⟨by decide, by decide, by decide +kernel⟩ m_rSectorAt_in c_rRecordAt_40 rfl rfl rfl rfl (Nat.le_of_ble_eq_true rfl) d_rRecordAt_40 ⟨Nat.le_of_ble_eq_true rfl, Nat.le_of_ble_eq_true rfl⟩ ⟨Nat.le_refl _, Nat.le_refl _⟩ (fun v sh' σ1 hq => ?_)
  obtain ⟨rfl, rfl, rfl⟩ := hq
  exact fwg_iret rfl (Nat.le_refl _) (Nat.le_refl _) ⟨⟨_, rfl, by omega⟩, rfl, rfl⟩ d_rRecordAt_43
theorem ct_rEntryAt {e k : Nat} (he : e < 64) (hk : k < 32) : fwC l Z m_rEntryAt 3 0 0 [.ref 37, .int (nI 0), .int (nI e), .int (nI k)] (shMd re) σ (fun w sh' σ' => (∃ q, w = some (.int (nI q)) ∧ q < 256256) ∧ sh' = shMd re ∧ σ' = σ) := by
  refine fwC_of (ls := [some (.ref 37), some (.int (nI 0)), some (.int (nI e)), some (.int (nI k))]) (by decide +kernel) rfl (by rw [fw_sl1]; exact Nat.le_refl 4) ?_
  refine fwRun_ok k_rEntryAt_0_ok rfl ⟨show ¬ (32 : Int32) = 0 by decide, show ¬ (4 : Int32) = 0 by decide, show ¬ (8 : Int32) = 0 by decide⟩ ?_
  have h1 : nI e / nI 32 = nI (e / 32) := pk_div (by omega) (by decide) (by decide)
  have h2 : nI e / nI 4 = nI (e / 4) := pk_div (by omega) (by decide) (by decide)
  have h3 : nI (e / 4) - nI (e / 4) / nI 8 * nI 8 = nI (e / 4 % 8) := pk_rem (by omega) (by decide) (by decide)
  have h4 : nI e - nI e / nI 4 * nI 4 = nI (e % 4) := pk_rem (by omega) (by decide) (by decide)
  show fwG l Z m_rEntryAt _ _ _ _ _ _ 12 _ [.int (nI e / nI 4 - nI e / nI 4 / nI 8 * nI 8), .int (nI e / nI 32), .int (nI 0), .ref 37] _ _
  rw [h2, h3, h1]
  refine fwg_callV (n := 3) (i := 37) (as := [.int (nI 0), .int (nI (e / 32)), .int (nI (e / 4 % 8))]) (r := []) (ct_rRecordAt (by omega)) ⟨by decide, by decide, by decide +kernel⟩ m_rRecordAt_in c_rEntryAt_12 rfl rfl rfl rfl (Nat.le_of_ble_eq_true rfl) d_rEntryAt_12 ⟨Nat.le_of_ble_eq_true rfl, Nat.le_of_ble_eq_true rfl⟩ ⟨Nat.le_refl _, Nat.le_refl _⟩ (fun v sh' σ1 hq => ?_)
  obtain ⟨⟨q, rfl, hq⟩, rfl, rfl⟩ := hq
  refine fwRun_ok k_rEntryAt_15_ok rfl (show ¬ (4 : Int32) = 0 by decide) ?_
  refine fwg_iret rfl (Nat.le_refl _) (Nat.le_refl _) ⟨⟨q + 32 * (e % 4) + k, ?_, by omega⟩, rfl, rfl⟩ d_rEntryAt_24
  show some (Value.int (nI q + nI 32 * (nI e - nI e / nI 4 * nI 4) + nI k)) = _
  rw [h4, pk_mul, nI_add, nI_add]
theorem ct_rEntry {e k : Nat} (he : e < 64) (hk : k < 32) (hD : ∀ j, j < 512512 → σ.1 39 j = -27) : fwC l Z m_rEntry 4 0 0 [.ref 37, .int (nI 0), .int (nI e), .int (nI k)] (shMd re) σ (fwPure (.int 229) (shMd re) σ) := by
  refine fwC_of (ls := [some (.ref 37), some (.int (nI 0)), some (.int (nI e)), some (.int (nI k))]) (by decide +kernel) rfl (by rw [fw_sl1]; exact Nat.le_refl 4) ?_
  refine fwRun_ok k_rEntry_0_ok rfl trivial ?_
  refine fwg_callV (n := 3) (i := 37) (as := [.int (nI 0), .int (nI e), .int (nI k)]) (r := [.ref 39]) (ct_rEntryAt he hk) ⟨by decide, by decide, by decide +kernel⟩ m_rEntryAt_in c_rEntry_8 rfl rfl rfl rfl (Nat.le_of_ble_eq_true rfl) d_rEntry_8 ⟨Nat.le_of_ble_eq_true rfl, Nat.le_of_ble_eq_true rfl⟩ ⟨Nat.le_refl _, Nat.le_refl _⟩ (fun v sh' σ1 hq => ?_)
  obtain ⟨⟨q, rfl, hq⟩, rfl, rfl⟩ := hq
  refine fwRun_ok k_rEntry_11_ok rfl (vp_in_nI (by omega) (by decide)) ?_
  refine fwg_iret rfl (Nat.le_refl _) (Nat.le_refl _) ⟨?_, rfl, rfl⟩ d_rEntry_16
  show some (Value.int (σ1.1 39 (nI q).toNatClampNeg &&& 255)) = _
  rw [nI_clamp (by omega), hD q (by omega)]
  rfl
theorem rLogin_2 {Post : fwPost} (hD : ∀ j, j < 512512 → σ.1 39 j = -27) (hp : Post none (shMd re) σ) : ∀ (q e : Nat), e + q = 64 → fwG l Z m_rLogin 5 0 0 Post 0 0 64 [some (.ref 37), some (.int 0), some (.int (nI e)), none] [] (shMd re) σ := by
  intro q
  induction q with
  | zero =>
    intro e he
    refine fwRun_ok k_rLogin_64_ok rfl trivial ?_
    refine fwg_cmp 139 d_rLogin_67 (by decide) (fun h => ?_) (fun h => absurd (nI_le (a := 64) (by omega) (by omega)) h)
    exact fwg_vret rfl (Nat.le_refl _) (Nat.le_refl _) hp d_rLogin_139
  | succ q ih =>
    intro e he
    refine fwRun_ok k_rLogin_64_ok rfl trivial ?_
    refine fwg_cmp 139 d_rLogin_67 (by decide) (fun h => absurd (show (64 : Int32) ≤ nI e from h) (nI_ge (b := 64) (by omega) (by decide))) (fun h => ?_)
    refine fwRun_ok k_rLogin_70_ok rfl trivial ?_
    refine fwg_callV (n := 3) (i := 37) (as := [.int (nI 0), .int (nI e), .int (nI 0)]) (r := []) (ct_rEntry (by omega) (by decide) hD) ⟨by decide, by decide, by decide +kernel⟩ m_rEntry_in c_rLogin_74 rfl rfl rfl rfl (Nat.le_of_ble_eq_true rfl) d_rLogin_74 ⟨Nat.le_of_ble_eq_true rfl, Nat.le_of_ble_eq_true rfl⟩ ⟨Nat.le_refl _, Nat.le_refl _⟩ (fun v sh' σ1 hq => ?_)
    obtain ⟨rfl, rfl, rfl⟩ := hq
    refine fwRun_ok k_rLogin_77_ok rfl trivial ?_
    refine fwg_cmp 86 d_rLogin_80 (by decide) (fun h => absurd (show (229 : Int32) = 229 from rfl) h) (fun _ => ?_)
    refine fwg_goto 133 d_rLogin_83 (by decide) ?_
    refine fwRun_ok k_rLogin_133_ok rfl trivial ?_
    refine fwg_goto 64 d_rLogin_136 (by decide) ?_
    have := ih (e + 1) (by omega)
    rw [← nI_1] at this
    exact this
theorem rLogin_1 {Post : fwPost} {σ0 : fwS} (hD : ∀ j, j < 512512 → σ0.1 39 j = -27) (hp : ∀ σ', fwSame [46] σ0 σ' → Post none (shMd re) σ') : ∀ (q b : Nat) (σ : fwS), b + q = 243 → fwSame [46] σ0 σ → fwG l Z m_rLogin 5 0 0 Post 0 0 27 [some (.ref 37), some (.int 0), some (.int (nI b)), none] [] (shMd re) σ := by
  intro q
  induction q with
  | zero =>
    intro b σ hb hs
    refine fwRun_ok k_rLogin_27_ok rfl trivial ?_
    refine fwg_cmp 62 d_rLogin_31 (by decide) (fun h => ?_) (fun h => absurd (nI_le (a := 243) (by omega) (by omega)) h)
    refine fwRun_ok k_rLogin_62_ok rfl trivial ?_
    exact rLogin_2 (fun j hj => by rw [hs.c (by decide)]; exact hD j hj) (hp σ hs) 64 0 rfl
  | succ q ih =>
    intro b σ hb hs
    refine fwRun_ok k_rLogin_27_ok rfl trivial ?_
    refine fwg_cmp 62 d_rLogin_31 (by decide) (fun h => absurd (show (243 : Int32) ≤ nI b from h) (nI_ge (b := 243) (by omega) (by decide))) (fun h => ?_)
    refine fwRun_ok k_rLogin_34_ok rfl trivial ?_
    have key : ∀ x : Int32, fwG l Z m_rLogin 5 0 0 Post 0 0 55 [some (.ref 37), some (.int 0), some (.int (nI b)), none] [.int x, .int ((243 : Int32) * 0 + nI b), .ref 46] (shMd re) σ := by
      intro x
      have hx : (243 : Int32) * 0 + nI b = nI b := by rw [show (243 : Int32) * 0 = nI 0 from by decide, nI_add, Nat.zero_add]
      rw [hx]
      refine fwRun_ok k_rLogin_55_ok rfl (vp_in_nI (by omega) (by decide)) ?_
      refine fwg_goto 27 d_rLogin_59 (by decide) ?_
      have := ih (b + 1) (fwI σ 46 (nI b).toNatClampNeg (x &&& 1)) (by omega) (hs.tr (fwSame_I (by decide)))
      rw [← nI_1] at this
      exact this
    refine fwg_cmp 54 d_rLogin_47 (by decide) (fun h => ?_) (fun h => ?_)
    · refine fwRun_ok k_rLogin_54_ok rfl trivial ?_
      exact key 0
    · refine fwRun_ok k_rLogin_50_ok rfl trivial ?_
      refine fwg_goto 55 d_rLogin_51 (by decide) ?_
      exact key 1
theorem ct_rLogin (hD : ∀ j, j < 512512 → σ.1 39 j = -27) (h0 : σ.1 37 27 = 0) : fwC l Z m_rLogin 5 0 0 [.ref 37, .int 0] (shMd re) σ (fun w sh' σ' => w = none ∧ sh' = shMd re ∧ fwSame [46] (fwI σ 37 27 1) σ') := by
  refine fwC_of (ls := [some (.ref 37), some (.int 0), none, none]) (by decide +kernel) rfl (by rw [fw_sl1]; exact Nat.le_of_ble_eq_true rfl) ?_
  refine fwRun_ok k_rLogin_0_ok rfl trivial ?_
  refine fwg_cmp 13 d_rLogin_9 (by decide) (fun _ => ?_) (fun q => absurd (show ¬ (σ.1 37 27 >>> ((0 : Int32) &&& 31) &&& 1) = 1 by rw [h0]; decide) q)
  refine fwRun_ok k_rLogin_13_ok rfl trivial ?_
  have e : σ.1 37 27 ||| ((1 : Int32) <<< ((0 : Int32) &&& 31)) = 1 := by rw [h0]; decide
  show fwG l Z m_rLogin _ _ _ _ _ _ 27 _ _ _ (fwI σ 37 27 (σ.1 37 27 ||| ((1 : Int32) <<< ((0 : Int32) &&& 31))))
  rw [e]
  exact rLogin_1 (σ0 := fwI σ 37 27 1) (fun j hj => by rw [fwI_ne (by decide)]; exact hD j hj) (fun σ' h => ⟨rfl, rfl, h⟩) 243 0 _ rfl fwSame.rf
end REF
