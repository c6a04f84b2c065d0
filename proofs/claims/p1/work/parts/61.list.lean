/-! the class's list on a new object, its end (laid by wip/whole/t21.py) -/
theorem lnK_0 : lnK 0 77 0 := by unfold lnK vp_in; decide +kernel
theorem lnW_0 : lnW 77 303 306 := by unfold lnW; decide +kernel
theorem lnK_195 : lnK 195 39 6 := by unfold lnK vp_in; decide +kernel
theorem lnW_195 : lnW 39 160 163 := by unfold lnW; decide +kernel
theorem lnK_3 : lnK 3 4 4 := by unfold lnK vp_in; decide +kernel
theorem lnW_3 : lnW 4 16 19 := by unfold lnW; decide +kernel
theorem lnK_236 : lnK 236 54 6 := by unfold lnK vp_in; decide +kernel
theorem lnW_236 : lnW 54 215 218 := by unfold lnW; decide +kernel
theorem lnK_6 : lnK 6 2 2 := by unfold lnK vp_in; decide +kernel
theorem lnW_6 : lnW 2 8 11 := by unfold lnW; decide +kernel
theorem lnK_238 : lnK 238 28 9 := by unfold lnK vp_in; decide +kernel
theorem lnW_238 : lnW 28 116 119 := by unfold lnW; decide +kernel
section LSU
variable {l : Launch} {Z : fwZ} {re : List fwE} {σ : fwS}
theorem lc_head {a cd : Int32} {i0 kd P E : Nat} (hcd : σ.1 9 (a &&& 65535).toNatClampNeg &&& 255 = cd) (hK : lnK cd i0 kd) (hW : lnW i0 P E) {Post : fwPost} (k : ∀ σ' : fwS, σ'.1 36 2 = nI (0 + (E - P) + if kd = 0 then 0 else 1) → fwSame [2, 36] σ σ' → fwG l Z m_lCode 7 0 0 Post 0 0 18 [some (.ref 36), some (.int a), some (.int cd), some (.int (nI kd))] [.int (nI kd)] (shMB re) σ') : fwG l Z m_lCode 7 0 0 Post 0 0 0 [some (.ref 36), some (.int a), none, none] [] (shMB re) σ := by
  refine fwRun_ok k_lCode_0_ok rfl trivial ?_
  refine fwg_callV (n := 1) (i := 36) (as := [.int a]) (r := []) (ct_lPeek) ⟨by decide, by decide, by decide +kernel⟩ m_lPeek_in c_lCode_7 rfl rfl rfl rfl (Nat.le_of_ble_eq_true rfl) d_lCode_7 ⟨Nat.le_of_ble_eq_true rfl, Nat.le_of_ble_eq_true rfl⟩ ⟨Nat.le_refl _, Nat.le_refl _⟩ (fun v sh' σ1 hq => ?_)
  obtain ⟨rfl, rfl, rfl⟩ := hq
  have e9 : (fwI σ 36 2 0).1 9 (a &&& 65535).toNatClampNeg &&& 255 = cd := by rw [fwI_ne (by decide)]; exact hcd
  rw [e9]
  refine fwRun_ok k_lCode_10_ok rfl trivial ?_
  refine fwg_callV (n := 1) (i := 36) (as := [.int cd]) (r := []) (ct_lName (t := 0) hK hW fwI_eq (by decide)) ⟨by decide, by decide, by decide +kernel⟩ m_lName_in c_lCode_13 rfl rfl rfl rfl (Nat.le_of_ble_eq_true rfl) d_lCode_13 ⟨Nat.le_of_ble_eq_true rfl, Nat.le_of_ble_eq_true rfl⟩ ⟨Nat.le_refl _, Nat.le_refl _⟩ (fun v sh' σ2 hq => ?_)
  obtain ⟨rfl, rfl, h2, s2⟩ := hq
  refine fwRun_ok k_lCode_16_ok rfl trivial ?_
  exact k σ2 h2 ((fwSame_I (by decide)).tr s2)
theorem lc_end {a x : Int32} {l2 l3 : Option Value} {Post : fwPost} {σ0 : fwS} {t : Nat} (h : σ.1 36 2 = nI t) (hp : Post (some (.int (nI t))) (shMB re) σ) : fwG l Z m_lCode 7 0 0 Post 0 0 241 [some (.ref 36), some (.int a), l2, l3] [] (shMB re) σ := by
  refine fwRun_ok k_lCode_241_ok rfl trivial ?_
  refine fwg_iret rfl (Nat.le_refl _) (Nat.le_refl _) ?_ d_lCode_245
  show Post (some (.int (σ.1 36 2))) _ _
  rw [h]
  exact hp
theorem lc_n {a : Int32} (hF : Fre σ) {q : Nat} (ha : a &&& 65535 = nI q) (hq : q < 65536) (hq0 : ¬ q = 0) (hq1 : ¬ q = 1) (hq2 : ¬ q = 2) (hq5 : ¬ q = 5) (hq6 : ¬ q = 6) (hq7 : ¬ q = 7) : fwG l Z m_lCode 7 0 0 (fun w sh' σ' => w = some (.int (aLst a)) ∧ sh' = shMB re ∧ fwSame [2, 36] σ σ') 0 0 0 [some (.ref 36), some (.int a), none, none] [] (shMB re) σ := by
  have m9 := hF.2.2.2.1
  refine lc_head (cd := 0) ?_ lnK_0 lnW_0 (fun σ1 h1 s1 => ?_)
  · rw [ha, nI_clamp (by omega), m9 _ (by omega)]
    show memW (fun _ => 0) q &&& 255 = 0; unfold memW; rw [if_neg hq7, if_neg hq6, if_neg hq5, if_neg hq2, if_neg hq1, if_neg hq0]; show (0 : Int32) &&& 255 = 0; decide
  have h1 : σ1.1 36 2 = nI 3 := h1
  have ne : ∀ k : Nat, k < 65536 → ¬ q = k → ¬ nI q = nI k := fun k hk hn z => hn ((nI_eq (by omega) (by omega)).mp z)
  refine fwg_tabOut 241 d_lCode_18 (Or.inl (by decide)) (by decide) ?_
  exact lc_end (x := 0) (σ0 := σ) (t := 3) h1 ⟨by show some (Value.int (nI 3)) = some (Value.int (aLst a)); congr 2; unfold aLst; rw [ha]; rw [if_neg (fun z => z.elim (ne 0 (by omega) hq0) (fun z => z.elim (ne 5 (by omega) hq5) (ne 6 (by omega) hq6))), if_neg (show ¬ nI q = 1 from ne 1 (by omega) hq1), if_neg (show ¬ nI q = 2 from ne 2 (by omega) hq2), if_neg (show ¬ nI q = 7 from ne 7 (by omega) hq7)]; rfl, rfl, s1⟩
theorem lc_0 {a : Int32} (hF : Fre σ) (ha : a &&& 65535 = nI 0) : fwG l Z m_lCode 7 0 0 (fun w sh' σ' => w = some (.int (aLst a)) ∧ sh' = shMB re ∧ fwSame [2, 36] σ σ') 0 0 0 [some (.ref 36), some (.int a), none, none] [] (shMB re) σ := by
  have m9 := hF.2.2.2.1
  refine lc_head (cd := 195) ?_ lnK_195 lnW_195 (fun σ1 h1 s1 => ?_)
  · rw [ha, nI_clamp (by omega), m9 _ (by omega)]
    decide
  have h1 : σ1.1 36 2 = nI 4 := h1
  have a1 : (a + 1) &&& 65535 = nI 1 := pk_andS a (q := 0) (by decide) ha
  have a2 : (a + 1 + 1) &&& 65535 = nI 2 := pk_andS (a + 1) (q := 1) (by decide) a1
  refine fwg_tabIn (off := 157) 175 d_lCode_18 (by decide) (by decide) (by decide) (by decide) ?_
  refine fwRun_ok k_lCode_175_ok rfl trivial ?_
  refine fwg_callV (n := 1) (i := 36) (as := [.int (a + 1)]) (r := []) (ct_lWord (x := 3) (y := 236) (t := 4) (by rw [s1.c (by decide), a1, nI_clamp (by decide), m9 _ (by decide)]; decide) (by rw [s1.c (by decide), a2, nI_clamp (by decide), m9 _ (by decide)]; decide) h1 (by decide)) ⟨by decide, by decide, by decide +kernel⟩ m_lWord_in c_lCode_179 rfl rfl rfl rfl (Nat.le_of_ble_eq_true rfl) d_lCode_179 ⟨Nat.le_of_ble_eq_true rfl, Nat.le_of_ble_eq_true rfl⟩ ⟨Nat.le_refl _, Nat.le_refl _⟩ (fun v sh' σ2 hq => ?_)
  obtain ⟨rfl, rfl, h2, s2⟩ := hq
  have h2 : σ2.1 36 2 = nI 10 := h2
  refine fwg_goto 241 d_lCode_182 (by decide) ?_
  exact lc_end (x := 0) (σ0 := σ) (t := 10) h2 ⟨by show some (Value.int (nI 10)) = some (Value.int (aLst a)); congr 2; unfold aLst; rw [ha]; decide, rfl, (s1.tr s2)⟩
theorem lc_1 {a : Int32} (hF : Fre σ) (ha : a &&& 65535 = nI 1) : fwG l Z m_lCode 7 0 0 (fun w sh' σ' => w = some (.int (aLst a)) ∧ sh' = shMB re ∧ fwSame [2, 36] σ σ') 0 0 0 [some (.ref 36), some (.int a), none, none] [] (shMB re) σ := by
  have m9 := hF.2.2.2.1
  refine lc_head (cd := 3) ?_ lnK_3 lnW_3 (fun σ1 h1 s1 => ?_)
  · rw [ha, nI_clamp (by omega), m9 _ (by omega)]
    decide
  have h1 : σ1.1 36 2 = nI 4 := h1
  refine fwg_tabIn (off := 144) 162 d_lCode_18 (by decide) (by decide) (by decide) (by decide) ?_
  refine fwRun_ok k_lCode_162_ok rfl trivial ?_
  refine fwg_callV (n := 2) (i := 36) (as := [.int (nI 4), .int (nI 0)]) (r := []) (ct_lPair (j := 0) (by decide) h1 (by decide)) ⟨by decide, by decide, by decide +kernel⟩ m_lPair_in c_lCode_169 rfl rfl rfl rfl (Nat.le_of_ble_eq_true rfl) d_lCode_169 ⟨Nat.le_of_ble_eq_true rfl, Nat.le_of_ble_eq_true rfl⟩ ⟨Nat.le_refl _, Nat.le_refl _⟩ (fun v sh' σ2 hq => ?_)
  obtain ⟨rfl, rfl, h2, s2⟩ := hq
  refine fwg_goto 241 d_lCode_172 (by decide) ?_
  exact lc_end (x := 0) (σ0 := σ) (t := 5) h2 ⟨by show some (Value.int (nI 5)) = some (Value.int (aLst a)); congr 2; unfold aLst; rw [ha]; decide, rfl, (s1.tr s2)⟩
theorem lc_2 {a : Int32} (hF : Fre σ) (ha : a &&& 65535 = nI 2) : fwG l Z m_lCode 7 0 0 (fun w sh' σ' => w = some (.int (aLst a)) ∧ sh' = shMB re ∧ fwSame [2, 36] σ σ') 0 0 0 [some (.ref 36), some (.int a), none, none] [] (shMB re) σ := by
  have m9 := hF.2.2.2.1
  refine lc_head (cd := 236) ?_ lnK_236 lnW_236 (fun σ1 h1 s1 => ?_)
  · rw [ha, nI_clamp (by omega), m9 _ (by omega)]
    decide
  have h1 : σ1.1 36 2 = nI 4 := h1
  have a1 : (a + 1) &&& 65535 = nI 3 := pk_andS a (q := 2) (by decide) ha
  have a2 : (a + 1 + 1) &&& 65535 = nI 4 := pk_andS (a + 1) (q := 3) (by decide) a1
  refine fwg_tabIn (off := 157) 175 d_lCode_18 (by decide) (by decide) (by decide) (by decide) ?_
  refine fwRun_ok k_lCode_175_ok rfl trivial ?_
  refine fwg_callV (n := 1) (i := 36) (as := [.int (a + 1)]) (r := []) (ct_lWord (x := 0) (y := 0) (t := 4) (by rw [s1.c (by decide), a1, nI_clamp (by decide), m9 _ (by decide)]; decide) (by rw [s1.c (by decide), a2, nI_clamp (by decide), m9 _ (by decide)]; decide) h1 (by decide)) ⟨by decide, by decide, by decide +kernel⟩ m_lWord_in c_lCode_179 rfl rfl rfl rfl (Nat.le_of_ble_eq_true rfl) d_lCode_179 ⟨Nat.le_of_ble_eq_true rfl, Nat.le_of_ble_eq_true rfl⟩ ⟨Nat.le_refl _, Nat.le_refl _⟩ (fun v sh' σ2 hq => ?_)
  obtain ⟨rfl, rfl, h2, s2⟩ := hq
  have h2 : σ2.1 36 2 = nI 9 := h2
  refine fwg_goto 241 d_lCode_182 (by decide) ?_
  exact lc_end (x := 0) (σ0 := σ) (t := 9) h2 ⟨by show some (Value.int (nI 9)) = some (Value.int (aLst a)); congr 2; unfold aLst; rw [ha]; decide, rfl, (s1.tr s2)⟩
theorem lc_5 {a : Int32} (hF : Fre σ) (ha : a &&& 65535 = nI 5) : fwG l Z m_lCode 7 0 0 (fun w sh' σ' => w = some (.int (aLst a)) ∧ sh' = shMB re ∧ fwSame [2, 36] σ σ') 0 0 0 [some (.ref 36), some (.int a), none, none] [] (shMB re) σ := by
  have m9 := hF.2.2.2.1
  refine lc_head (cd := 195) ?_ lnK_195 lnW_195 (fun σ1 h1 s1 => ?_)
  · rw [ha, nI_clamp (by omega), m9 _ (by omega)]
    decide
  have h1 : σ1.1 36 2 = nI 4 := h1
  have a1 : (a + 1) &&& 65535 = nI 6 := pk_andS a (q := 5) (by decide) ha
  have a2 : (a + 1 + 1) &&& 65535 = nI 7 := pk_andS (a + 1) (q := 6) (by decide) a1
  refine fwg_tabIn (off := 157) 175 d_lCode_18 (by decide) (by decide) (by decide) (by decide) ?_
  refine fwRun_ok k_lCode_175_ok rfl trivial ?_
  refine fwg_callV (n := 1) (i := 36) (as := [.int (a + 1)]) (r := []) (ct_lWord (x := 6) (y := 238) (t := 4) (by rw [s1.c (by decide), a1, nI_clamp (by decide), m9 _ (by decide)]; decide) (by rw [s1.c (by decide), a2, nI_clamp (by decide), m9 _ (by decide)]; decide) h1 (by decide)) ⟨by decide, by decide, by decide +kernel⟩ m_lWord_in c_lCode_179 rfl rfl rfl rfl (Nat.le_of_ble_eq_true rfl) d_lCode_179 ⟨Nat.le_of_ble_eq_true rfl, Nat.le_of_ble_eq_true rfl⟩ ⟨Nat.le_refl _, Nat.le_refl _⟩ (fun v sh' σ2 hq => ?_)
  obtain ⟨rfl, rfl, h2, s2⟩ := hq
  have h2 : σ2.1 36 2 = nI 10 := h2
  refine fwg_goto 241 d_lCode_182 (by decide) ?_
  exact lc_end (x := 0) (σ0 := σ) (t := 10) h2 ⟨by show some (Value.int (nI 10)) = some (Value.int (aLst a)); congr 2; unfold aLst; rw [ha]; decide, rfl, (s1.tr s2)⟩
theorem lc_6 {a : Int32} (hF : Fre σ) (ha : a &&& 65535 = nI 6) : fwG l Z m_lCode 7 0 0 (fun w sh' σ' => w = some (.int (aLst a)) ∧ sh' = shMB re ∧ fwSame [2, 36] σ σ') 0 0 0 [some (.ref 36), some (.int a), none, none] [] (shMB re) σ := by
  have m9 := hF.2.2.2.1
  refine lc_head (cd := 6) ?_ lnK_6 lnW_6 (fun σ1 h1 s1 => ?_)
  · rw [ha, nI_clamp (by omega), m9 _ (by omega)]
    decide
  have h1 : σ1.1 36 2 = nI 4 := h1
  have a1 : (a + 1) &&& 65535 = nI 7 := pk_andS a (q := 6) (by decide) ha
  refine fwg_tabIn (off := 91) 109 d_lCode_18 (by decide) (by decide) (by decide) (by decide) ?_
  refine fwRun_ok k_lCode_109_ok rfl trivial ?_
  refine fwg_callV (n := 1) (i := 36) (as := [.int ((6 : Int32) >>> ((3 : Int32) &&& 31))]) (r := []) (ct_lReg (j := 0) (by decide) (by decide) h1 (by decide)) ⟨by decide, by decide, by decide +kernel⟩ m_lReg_in c_lCode_113 rfl rfl rfl rfl (Nat.le_of_ble_eq_true rfl) d_lCode_113 ⟨Nat.le_of_ble_eq_true rfl, Nat.le_of_ble_eq_true rfl⟩ ⟨Nat.le_refl _, Nat.le_refl _⟩ (fun v sh' σ2 hq => ?_)
  obtain ⟨rfl, rfl, h2, s2⟩ := hq
  refine fwRun_ok k_lCode_116_ok rfl trivial ?_
  refine fwg_callV (n := 1) (i := 36) (as := [.int 44]) (r := []) (ct_lTell h2 (by decide)) ⟨by decide, by decide, by decide +kernel⟩ m_lTell_in c_lCode_119 rfl rfl rfl rfl (Nat.le_of_ble_eq_true rfl) d_lCode_119 ⟨Nat.le_of_ble_eq_true rfl, Nat.le_of_ble_eq_true rfl⟩ ⟨Nat.le_refl _, Nat.le_refl _⟩ (fun v sh' σ3 hq => ?_)
  obtain ⟨rfl, rfl, h3, s3⟩ := hq
  refine fwRun_ok k_lCode_122_ok rfl trivial ?_
  refine fwg_callV (n := 1) (i := 36) (as := [.int (a + 1)]) (r := [.ref 36]) (ct_lPeek) ⟨by decide, by decide, by decide +kernel⟩ m_lPeek_in c_lCode_127 rfl rfl rfl rfl (Nat.le_of_ble_eq_true rfl) d_lCode_127 ⟨Nat.le_of_ble_eq_true rfl, Nat.le_of_ble_eq_true rfl⟩ ⟨Nat.le_refl _, Nat.le_refl _⟩ (fun v sh' σ4 hq => ?_)
  obtain ⟨rfl, rfl, rfl⟩ := hq
  have e9 : σ4.1 9 ((a + 1) &&& 65535).toNatClampNeg &&& 255 = 238 := by rw [s3.c (by decide), s2.c (by decide), s1.c (by decide), a1, nI_clamp (by decide), m9 _ (by decide)]; decide
  rw [e9]
  refine fwg_callV (n := 1) (i := 36) (as := [.int 238]) (r := []) (ct_lByte h3 (by decide)) ⟨by decide, by decide, by decide +kernel⟩ m_lByte_in c_lCode_130 rfl rfl rfl rfl (Nat.le_of_ble_eq_true rfl) d_lCode_130 ⟨Nat.le_of_ble_eq_true rfl, Nat.le_of_ble_eq_true rfl⟩ ⟨Nat.le_refl _, Nat.le_refl _⟩ (fun v sh' σ5 hq => ?_)
  obtain ⟨rfl, rfl, h5, s5⟩ := hq
  have h5 : σ5.1 36 2 = nI 10 := h5
  refine fwg_goto 241 d_lCode_133 (by decide) ?_
  exact lc_end (x := 0) (σ0 := σ) (t := 10) h5 ⟨by show some (Value.int (nI 10)) = some (Value.int (aLst a)); congr 2; unfold aLst; rw [ha]; decide, rfl, (((s1.tr s2).tr s3).tr s5)⟩
theorem lc_7 {a : Int32} (hF : Fre σ) (ha : a &&& 65535 = nI 7) : fwG l Z m_lCode 7 0 0 (fun w sh' σ' => w = some (.int (aLst a)) ∧ sh' = shMB re ∧ fwSame [2, 36] σ σ') 0 0 0 [some (.ref 36), some (.int a), none, none] [] (shMB re) σ := by
  have m9 := hF.2.2.2.1
  refine lc_head (cd := 238) ?_ lnK_238 lnW_238 (fun σ1 h1 s1 => ?_)
  · rw [ha, nI_clamp (by omega), m9 _ (by omega)]
    decide
  have h1 : σ1.1 36 2 = nI 4 := h1
  have a1 : (a + 1) &&& 65535 = nI 8 := pk_andS a (q := 7) (by decide) ha
  refine fwg_tabIn (off := 185) 203 d_lCode_18 (by decide) (by decide) (by decide) (by decide) ?_
  refine fwRun_ok k_lCode_203_ok rfl trivial ?_
  refine fwg_callV (n := 1) (i := 36) (as := [.int (a + 1)]) (r := [.ref 36]) (ct_lPeek) ⟨by decide, by decide, by decide +kernel⟩ m_lPeek_in c_lCode_208 rfl rfl rfl rfl (Nat.le_of_ble_eq_true rfl) d_lCode_208 ⟨Nat.le_of_ble_eq_true rfl, Nat.le_of_ble_eq_true rfl⟩ ⟨Nat.le_refl _, Nat.le_refl _⟩ (fun v sh' σ4 hq => ?_)
  obtain ⟨rfl, rfl, rfl⟩ := hq
  have e9 : σ4.1 9 ((a + 1) &&& 65535).toNatClampNeg &&& 255 = 0 := by rw [s1.c (by decide), a1, nI_clamp (by decide), m9 _ (by decide)]; decide
  rw [e9]
  refine fwg_callV (n := 1) (i := 36) (as := [.int 0]) (r := []) (ct_lByte h1 (by decide)) ⟨by decide, by decide, by decide +kernel⟩ m_lByte_in c_lCode_211 rfl rfl rfl rfl (Nat.le_of_ble_eq_true rfl) d_lCode_211 ⟨Nat.le_of_ble_eq_true rfl, Nat.le_of_ble_eq_true rfl⟩ ⟨Nat.le_refl _, Nat.le_refl _⟩ (fun v sh' σ5 hq => ?_)
  obtain ⟨rfl, rfl, h5, s5⟩ := hq
  have h5 : σ5.1 36 2 = nI 7 := h5
  refine fwg_goto 241 d_lCode_214 (by decide) ?_
  exact lc_end (x := 0) (σ0 := σ) (t := 7) h5 ⟨by show some (Value.int (nI 7)) = some (Value.int (aLst a)); congr 2; unfold aLst; rw [ha]; decide, rfl, (s1.tr s5)⟩
theorem ct_lCode {a : Int32} (hF : Fre σ) : fwC l Z m_lCode 7 0 0 [.ref 36, .int a] (shMB re) σ (fun w sh' σ' => w = some (.int (aLst a)) ∧ sh' = shMB re ∧ fwSame [2, 36] σ σ') := by
  refine fwC_of (ls := [some (.ref 36), some (.int a), none, none]) (by decide +kernel) rfl (by rw [fw_sl1]; exact Nat.le_of_ble_eq_true rfl) ?_
  obtain ⟨q, hq, ha⟩ := pk_andE a (m := 65535) 16 (by decide)
  by_cases h0 : q = 0
  · subst h0; exact lc_0 hF ha
  by_cases h1 : q = 1
  · subst h1; exact lc_1 hF ha
  by_cases h2 : q = 2
  · subst h2; exact lc_2 hF ha
  by_cases h5 : q = 5
  · subst h5; exact lc_5 hF ha
  by_cases h6 : q = 6
  · subst h6; exact lc_6 hF ha
  by_cases h7 : q = 7
  · subst h7; exact lc_7 hF ha
  exact lc_n hF ha hq h0 h1 h2 h5 h6 h7
theorem ct_list {a : Int32} (hF : Fre σ) : fwC l Z m_list 8 0 0 [.ref 0, .int a] (shMB re) σ (fun w sh' σ' => w = some (.int (aLst a)) ∧ sh' = shMB re ∧ Up σ σ') := by
  refine fwC_of (ls := [some (.ref 0), some (.int a)]) (by decide +kernel) rfl (by rw [fw_sl1]; exact Nat.le_refl 2) ?_
  refine fwRun_ok k_list_0_ok rfl trivial ?_
  refine fwg_callV (n := 1) (i := 36) (as := [.int a]) (r := [.ref 0]) (ct_lCode hF) ⟨by decide, by decide, by decide +kernel⟩ m_lCode_in c_list_6 rfl rfl rfl rfl (Nat.le_of_ble_eq_true rfl) d_list_6 ⟨Nat.le_of_ble_eq_true rfl, Nat.le_of_ble_eq_true rfl⟩ ⟨Nat.le_refl _, Nat.le_refl _⟩ (fun v sh' σ1 hq => ?_)
  obtain ⟨rfl, rfl, s1⟩ := hq
  refine fwRun_ok k_list_9_ok rfl trivial ?_
  refine fwg_iret rfl (Nat.le_refl _) (Nat.le_refl _) ⟨?_, rfl, (s1.up (by decide)).tr (fwSame_I (by decide))⟩ d_list_16
  show some (Value.int ((fwI σ1 0 11 (aLst a)).1 0 11)) = _
  rw [fwI_eq]
end LSU
