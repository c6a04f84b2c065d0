/-! the reference's calls on a new object: disk, feed -/
theorem fw_succ {x a b : Int32} (h : b.toInt = a.toInt + 1) : a < x ↔ b ≤ x := by
  rw [Int32.lt_iff_toInt_lt, Int32.le_iff_toInt_le]
  omega
section REF
variable {l : Launch} {Z : fwZ} {re : List fwE} {σ : fwS}
theorem ct_rDisk {dr t s k m : Int32} (hF : FreM σ) : fwC l Z m_rDisk 2 0 0 [.ref 37, .int dr, .int t, .int s, .int k, .int m] (shMd re) σ (fun w sh' _ => w = some (.int (aDisk dr t s k m)) ∧ sh' = shMd re) := by
  refine fwC_of (ls := [some (.ref 37), some (.int dr), some (.int t), some (.int s), some (.int k), some (.int m), none]) (by decide +kernel) rfl (by rw [fw_sl1]; exact Nat.le_of_ble_eq_true rfl) ?_
  have k42 : ¬ aDiskOk dr t s k → fwG l Z m_rDisk 2 0 0 (fun w sh' _ => w = some (.int (aDisk dr t s k m)) ∧ sh' = shMd re) 0 0 42 [some (.ref 37), some (.int dr), some (.int t), some (.int s), some (.int k), some (.int m), none] [] (shMd re) σ := by
    intro h
    refine fwRun_ok k_rDisk_42_ok rfl trivial ?_
    exact fwg_iret rfl (Nat.le_refl _) (Nat.le_refl _) ⟨by rw [aDisk, if_neg h], rfl⟩ d_rDisk_43
  refine fwRun_ok k_rDisk_0_ok rfl trivial ?_
  refine fwg_if 42 d_rDisk_1 (by decide) (fun h => k42 (fun q => q.1 h)) (fun h1 => ?_)
  refine fwRun_ok k_rDisk_4_ok rfl trivial ?_
  refine fwg_cmp 42 d_rDisk_6 (by decide) (fun h => k42 (fun q => q.2.1 h)) (fun h2 => ?_)
  refine fwRun_ok k_rDisk_9_ok rfl trivial ?_
  refine fwg_if 42 d_rDisk_10 (by decide) (fun h => k42 (fun q => q.2.2.2.2.1 h)) (fun s1 => ?_)
  refine fwRun_ok k_rDisk_13_ok rfl trivial ?_
  refine fwg_cmp 42 d_rDisk_16 (by decide) (fun h => k42 (fun q => q.2.2.2.2.2.1 ((fw_succ (by decide)).1 h))) (fun h => ?_)
  have s2 : ¬ (77 : Int32) ≤ t := fun q => h ((fw_succ (by decide)).2 q)
  refine fwRun_ok k_rDisk_19_ok rfl trivial ?_
  refine fwg_cmp 42 d_rDisk_21 (by decide) (fun h => k42 (fun q => q.2.2.2.2.2.2.1 h)) (fun s3 => ?_)
  refine fwRun_ok k_rDisk_24_ok rfl trivial ?_
  refine fwg_cmp 42 d_rDisk_27 (by decide) (fun h => k42 (fun q => q.2.2.2.2.2.2.2 h)) (fun s4 => ?_)
  refine fwRun_ok k_rDisk_30_ok rfl trivial ?_
  refine fwg_if 42 d_rDisk_32 (by decide) (fun h => k42 (fun q => q.2.2.1 h)) (fun h3 => ?_)
  refine fwRun_ok k_rDisk_35_ok rfl trivial ?_
  refine fwg_cmp 44 d_rDisk_39 (by decide) (fun h => ?_) (fun h => k42 (fun q => q.2.2.2.1 ((fw_succ (by decide)).1 (Int32.not_le.1 h))))
  have h4 : ¬ (128 : Int32) ≤ k := fun q => Int32.not_lt.2 h ((fw_succ (by decide)).2 q)
  have hA : aDisk dr t s k m = ((-27) ^^^ m).toInt8.toInt32 &&& 255 := by rw [aDisk, if_pos ⟨h1, h2, h3, h4, s1, s2, s3, s4⟩]
  rw [hA]
  clear k42 hA
  have t0 : ¬ s < 0 := fun q => s3 (Int32.lt_trans q (by decide))
  obtain ⟨a, ha, rfl⟩ := nI_of2 (n := 1) (M := 1) (by decide) h1 (Int32.not_lt.1 h2)
  obtain ⟨b, hb, rfl⟩ := fw_nat (n := 128) h3 h4 (by decide) (by decide)
  obtain ⟨c, hc, rfl⟩ := fw_nat (n := 77) s1 s2 (by decide) (by decide)
  obtain ⟨e, he, rfl⟩ := nI_of2 (n := 26) (M := 26) (by decide) t0 (Int32.not_lt.1 s4)
  have he1 : 1 ≤ e := by
    rcases Nat.eq_zero_or_pos e with q | q
    · subst q; exact absurd (show nI 0 < 1 by decide) s3
    · exact q
  refine fwRun_ok k_rDisk_44_ok rfl trivial ?_
  refine fwg_callV (n := 3) (i := 37) (as := [.int (nI a), .int (nI c), .int (nI e)]) (r := []) (ct_rSectorAt he1) ⟨by decide, by decide, by decide +kernel⟩ m_rSectorAt_in c_rDisk_48 rfl rfl rfl rfl (Nat.le_of_ble_eq_true rfl) d_rDisk_48 ⟨Nat.le_refl _, Nat.le_of_ble_eq_true rfl⟩ ⟨Nat.le_refl _, Nat.le_refl _⟩ (fun v sh' σ2 hq => ?_)
  obtain ⟨rfl, rfl, rfl⟩ := hq
  have hp : 128 * ((77 * a + c) * 26 + e - 1) + b < 512512 := by omega
  have hv : vp_in (nI (128 * ((77 * a + c) * 26 + e - 1)) + nI b) 512512 := by
    rw [nI_add]
    exact vp_in_nI hp (by decide)
  refine fwRun_ok k_rDisk_51_ok rfl ⟨hv, hv, hv⟩ ?_
  refine fwg_iret rfl (Nat.le_refl _) (Nat.le_refl _) ⟨?_, rfl⟩ d_rDisk_81
  show some (Value.int ((fwI σ2 39 (nI (128 * ((77 * a + c) * 26 + e - 1)) + nI b).toNatClampNeg (σ2.1 39 (nI (128 * ((77 * a + c) * 26 + e - 1)) + nI b).toNatClampNeg ^^^ m.toInt8.toInt32).toInt8.toInt32.toInt8.toInt32).1 39 (nI (128 * ((77 * a + c) * 26 + e - 1)) + nI b).toNatClampNeg &&& 255)) = _
  rw [fwI_eq, nI_add, nI_clamp (by omega), hF.2.2.2 _ hp, fw_b2, Int32.toInt8_xor, Int8.toInt8_toInt32, ← Int32.toInt8_xor]
theorem rFeed_loop {a b c e f : Int32} {Post : fwPost} (hp : ∀ σ' : fwS, Post (some (.int 1)) (shMd re) σ') : ∀ (q i : Nat) (l7 : Option Value) (σ : fwS), i + q = 20 → σ.1 37 6 = nI i → fwG l Z m_rFeed 1 0 0 Post 0 0 18 [some (.ref 37), some (.int a), some (.int b), some (.int c), some (.int e), some (.int f), some (.int (nI i)), l7] [] (shMd re) σ := by
  intro q
  induction q with
  | zero =>
    intro i l7 σ hi h6
    refine fwRun_ok k_rFeed_18_ok rfl trivial ?_
    refine fwg_cmp 112 d_rFeed_22 (by decide) (fun _ => ?_) (fun h => absurd (nI_le (a := 20) (by omega) (by omega)) h)
    refine fwRun_ok k_rFeed_112_ok rfl trivial ?_
    exact fwg_zret rfl rfl (Nat.le_refl _) (Nat.le_refl _) (hp σ) d_rFeed_113
  | succ q ih =>
    intro i l7 σ hi h6
    refine fwRun_ok k_rFeed_18_ok rfl trivial ?_
    refine fwg_cmp 112 d_rFeed_22 (by decide) (fun h => absurd (show nI 20 ≤ nI i from h) (nI_ge (by omega) (by decide))) (fun _ => ?_)
    have key : ∀ x : Int32, fwG l Z m_rFeed 1 0 0 Post 0 0 71 [some (.ref 37), some (.int a), some (.int b), some (.int c), some (.int e), some (.int f), some (.int (nI i)), l7] [.int x] (shMd re) σ := by
      intro x
      refine fwRun_ok k_rFeed_71_ok rfl ⟨show ¬ (4 : Int32) = 0 by decide, by show vp_in (σ.1 37 6) 4000; rw [h6]; exact vp_in_nI (by omega) (by decide)⟩ ?_
      refine fwg_goto 18 d_rFeed_109 (by decide) ?_
      refine fw_cut (fun s => s.1 37 6 = nI (i + 1)) ?_ (fun σ1 h1 => ?_)
      · show (fwI _ 37 6 _).1 37 6 = _
        rw [fwI_eq, fwI_ne (by decide), h6]
        exact nI_1 i
      · have := ih (i + 1) (some (.int x)) σ1 (by omega) h1
        rw [← nI_1] at this
        exact this
    refine fwRun_ok k_rFeed_25_ok rfl trivial ?_
    refine fwg_cmp 35 d_rFeed_28 (by decide) (fun _ => ?_) (fun _ => ?_)
    · refine fwRun_ok k_rFeed_35_ok rfl trivial ?_
      refine fwg_cmp 46 d_rFeed_39 (by decide) (fun _ => ?_) (fun _ => ?_)
      · refine fwRun_ok k_rFeed_46_ok rfl trivial ?_
        refine fwg_cmp 57 d_rFeed_50 (by decide) (fun _ => ?_) (fun _ => ?_)
        · refine fwRun_ok k_rFeed_57_ok rfl trivial ?_
          refine fwg_cmp 69 d_rFeed_61 (by decide) (fun _ => ?_) (fun _ => ?_)
          · refine fwRun_ok k_rFeed_69_ok rfl trivial ?_
            exact key f
          · refine fwRun_ok k_rFeed_64_ok rfl trivial ?_
            exact fwg_goto 71 d_rFeed_66 (by decide) (key e)
        · refine fwRun_ok k_rFeed_53_ok rfl trivial ?_
          exact fwg_goto 71 d_rFeed_54 (by decide) (key c)
      · refine fwRun_ok k_rFeed_42_ok rfl trivial ?_
        exact fwg_goto 71 d_rFeed_43 (by decide) (key b)
    · refine fwRun_ok k_rFeed_31_ok rfl trivial ?_
      exact fwg_goto 71 d_rFeed_32 (by decide) (key a)
theorem ct_rFeed {a b c e f : Int32} (hF : FreM σ) : fwC l Z m_rFeed 1 0 0 [.ref 37, .int a, .int b, .int c, .int e, .int f] (shMd re) σ (fun w sh' _ => w = some (.int 1) ∧ sh' = shMd re) := by
  refine fwC_of (ls := [some (.ref 37), some (.int a), some (.int b), some (.int c), some (.int e), some (.int f), none, none]) (by decide +kernel) rfl (by rw [fw_sl1]; exact Nat.le_of_ble_eq_true rfl) ?_
  have h6 : σ.1 37 6 = 0 := hF.1.1
  refine fwRun_ok k_rFeed_0_ok rfl trivial ?_
  refine fwg_cmp 15 d_rFeed_10 (by decide) (fun _ => ?_) (fun q => absurd (show σ.1 37 6 + 20 ≤ 4000 by rw [h6]; decide) q)
  refine fwRun_ok k_rFeed_15_ok rfl trivial ?_
  exact rFeed_loop (fun σ' => ⟨rfl, rfl⟩) 20 0 none σ rfl h6
end REF
