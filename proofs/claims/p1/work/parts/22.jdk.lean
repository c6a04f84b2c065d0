/-! the JDK's methods that are reached -/
theorem fw_sl1 (Z : fwZ) (as : List Value) : (lg_sl (as.map (fwV Z))).length = (as.map fun v => v.category).sum := by
  induction as with
  | nil => rfl
  | cons v as ih =>
    show (lg_sl (fwV Z v :: as.map (fwV Z))).length = _
    unfold lg_sl at ih ⊢
    rw [List.flatMap_cons, List.length_append, ih, fwV_cat, List.map_cons, List.sum_cons]
    cases v <;> rfl
/-- nothing is changed, the answer is v -/
abbrev fwPure (v : Value) (sh : List fwE) (σ : fwS) : fwPost := fun w sh' σ' => w = some v ∧ sh' = sh ∧ σ' = σ
section JDK
variable {l : Launch} {Z : fwZ} {sh : List fwE} {σ : fwS}
theorem ct_mmin (x y : Int32) : fwC l Z m_mmin 1 0 0 [.int x, .int y] sh σ (fwPure (.int (if y < x then y else x)) sh σ) := by
  refine fwC_of (ls := [some (.int x), some (.int y)]) (by decide +kernel) rfl (by rw [fw_sl1]; exact Nat.le_refl 2) ?_
  refine fwRun_ok k_mmin_0_ok rfl trivial ?_
  refine fwg_cmp 9 d_mmin_2 (by decide) (fun h => ?_) (fun h => ?_)
  · refine fwRun_ok k_mmin_9_ok rfl trivial ?_
    exact fwg_iret rfl (Nat.le_refl _) (Nat.le_refl _) ⟨by rw [if_pos (show y < x from h)], rfl, rfl⟩ d_mmin_10
  · refine fwRun_ok k_mmin_5_ok rfl trivial ?_
    refine fwg_goto 10 d_mmin_6 (by decide) ?_
    exact fwg_iret rfl (Nat.le_refl _) (Nat.le_refl _) ⟨by rw [if_neg (show ¬ y < x from h)], rfl, rfl⟩ d_mmin_10
theorem ct_mmax (x y : Int32) : fwC l Z m_mmax 1 0 0 [.int x, .int y] sh σ (fwPure (.int (if x < y then y else x)) sh σ) := by
  refine fwC_of (ls := [some (.int x), some (.int y)]) (by decide +kernel) rfl (by rw [fw_sl1]; exact Nat.le_refl 2) ?_
  refine fwRun_ok k_mmax_0_ok rfl trivial ?_
  refine fwg_cmp 9 d_mmax_2 (by decide) (fun h => ?_) (fun h => ?_)
  · refine fwRun_ok k_mmax_9_ok rfl trivial ?_
    exact fwg_iret rfl (Nat.le_refl _) (Nat.le_refl _) ⟨by rw [if_pos (show x < y from h)], rfl, rfl⟩ d_mmax_10
  · refine fwRun_ok k_mmax_5_ok rfl trivial ?_
    refine fwg_goto 10 d_mmax_6 (by decide) ?_
    exact fwg_iret rfl (Nat.le_refl _) (Nat.le_refl _) ⟨by rw [if_neg (show ¬ x < y from h)], rfl, rfl⟩ d_mmax_10
theorem fwA_at (σ : fwS) (i : Nat) (f : Nat → Int32) : (fwA σ i f).1 i = f := funext fun b => if_pos rfl
theorem fwA_fwI (σ : fwS) (i k : Nat) (f : Nat → Int32) (v : Int32) : fwI (fwA σ i f) i k v = fwA σ i (fun j => if j = k then v else f j) := by
  refine Prod.ext (funext fun a => funext fun b => ?_) rfl
  show (if a = i ∧ b = k then v else if a = i then f b else σ.1 a b) = if a = i then (if b = k then v else f b) else σ.1 a b
  by_cases ha : a = i <;> by_cases hb : b = k <;> simp [ha, hb]
theorem fwA_id (σ : fwS) (i : Nat) : fwA σ i (σ.1 i) = σ := by
  refine Prod.ext (funext fun a => funext fun b => ?_) rfl
  show (if a = i then σ.1 i b else σ.1 a b) = σ.1 a b
  by_cases ha : a = i
  · rw [if_pos ha, ha]
  · rw [if_neg ha]
/-- the first i elements are x -/
def fwFill (f : Nat → Int32) (i : Nat) (x : Int32) : Nat → Int32 := fun j => if j < i then x else f j
theorem fwFill_0 (f : Nat → Int32) (x : Int32) : fwFill f 0 x = f := funext fun j => if_neg (Nat.not_lt_zero j)
theorem fwFill_s (f : Nat → Int32) (i : Nat) (x : Int32) : (fun j => if j = i then x else fwFill f i x j) = fwFill f (i + 1) x := by
  funext j
  unfold fwFill
  by_cases h1 : j = i
  · subst h1; rw [if_pos rfl, if_pos (by omega)]
  · by_cases h2 : j < i
    · rw [if_neg h1, if_pos h2, if_pos (by omega)]
    · rw [if_neg h1, if_neg h2, if_neg (by omega)]
theorem fillB_loop {a n : Nat} {x : Int32} (ha : sh[a]? = some (.inl (.byte, n))) (hn : n < 2 ^ 31) {Post : fwPost} (hp : Post none sh (fwA σ a (fwFill (σ.1 a) n x.toInt8.toInt32))) : ∀ (q i : Nat), i + q = n → fwG l Z m_fillB 1 0 0 Post 0 0 5 [some (.ref a), some (.int x), some (.int (nI i)), some (.int (nI n))] [] sh (fwA σ a (fwFill (σ.1 a) i x.toInt8.toInt32)) := by
  intro q
  induction q with
  | zero =>
    intro i hi
    refine fwRun_ok k_fillB_5_ok rfl trivial ?_
    refine fwg_cmp 20 d_fillB_7 (by decide) (fun h => ?_) (fun h => absurd (nI_le (by omega) (by omega)) h)
    have : i = n := by omega
    subst this
    exact fwg_vret rfl (Nat.le_refl _) (Nat.le_refl _) hp d_fillB_20
  | succ q ih =>
    intro i hi
    refine fwRun_ok k_fillB_5_ok rfl trivial ?_
    refine fwg_cmp 20 d_fillB_7 (by decide) (fun h => absurd (show nI n ≤ nI i from h) (nI_ge (by omega) hn)) (fun h => ?_)
    refine fwRun_ok (φs := [vp_in (nI i) n]) (ls' := [some (.ref a), some (.int x), some (.int (nI i + 1)), some (.int (nI n))]) (st' := []) (sh' := sh) (σ' := fwI (fwA σ a (fwFill (σ.1 a) i x.toInt8.toInt32)) a (nI i).toNatClampNeg x.toInt8.toInt32) k_fillB_10_ok (by simp [fwRun, k_fillB_10, fwStep, ha, fwSet1, fwKill]) (vp_in_nI (by omega) hn) ?_
    refine fwg_goto 5 d_fillB_17 (by decide) ?_
    rw [fwA_fwI, nI_clamp (by omega), fwFill_s, nI_1]
    exact ih (i + 1) (by omega)
theorem ct_fillB {a n : Nat} {x : Int32} (ha : sh[a]? = some (.inl (.byte, n))) (hn : n < 2 ^ 31) : fwC l Z m_fillB 1 0 0 [.ref a, .int x] sh σ (fun v sh' σ' => v = none ∧ sh' = sh ∧ σ' = fwA σ a (fwFill (σ.1 a) n x.toInt8.toInt32)) := by
  refine fwC_of (ls := [some (.ref a), some (.int x), none, none]) (by decide +kernel) rfl (by rw [fw_sl1]; exact Nat.le_of_ble_eq_true rfl) ?_
  refine fwRun_ok (φs := []) (ls' := [some (.ref a), some (.int x), some (.int (nI 0)), some (.int (nI n))]) (st' := []) (sh' := sh) (σ' := σ) k_fillB_0_ok (by simp [fwRun, k_fillB_0, fwStep, ha, fwSet1, fwKill, fwAT, nI]; rfl) trivial ?_
  have h := fillB_loop (l := l) (Z := Z) (σ := σ) (x := x) ha hn (Post := fun v sh' σ' => v = none ∧ sh' = sh ∧ σ' = fwA σ a (fwFill (σ.1 a) n x.toInt8.toInt32)) ⟨rfl, rfl, rfl⟩ n 0 (by omega)
  rw [fwFill_0, fwA_id] at h
  exact h
theorem fillI_loop {a n : Nat} {x : Int32} (ha : sh[a]? = some (.inl (.int, n))) (hn : n < 2 ^ 31) {Post : fwPost} (hp : Post none sh (fwA σ a (fwFill (σ.1 a) n x))) : ∀ (q i : Nat), i + q = n → fwG l Z m_fillI 1 0 0 Post 0 0 5 [some (.ref a), some (.int x), some (.int (nI i)), some (.int (nI n))] [] sh (fwA σ a (fwFill (σ.1 a) i x)) := by
  intro q
  induction q with
  | zero =>
    intro i hi
    refine fwRun_ok k_fillI_5_ok rfl trivial ?_
    refine fwg_cmp 20 d_fillI_7 (by decide) (fun h => ?_) (fun h => absurd (nI_le (by omega) (by omega)) h)
    have : i = n := by omega
    subst this
    exact fwg_vret rfl (Nat.le_refl _) (Nat.le_refl _) hp d_fillI_20
  | succ q ih =>
    intro i hi
    refine fwRun_ok k_fillI_5_ok rfl trivial ?_
    refine fwg_cmp 20 d_fillI_7 (by decide) (fun h => absurd (show nI n ≤ nI i from h) (nI_ge (by omega) hn)) (fun h => ?_)
    refine fwRun_ok (φs := [vp_in (nI i) n]) (ls' := [some (.ref a), some (.int x), some (.int (nI i + 1)), some (.int (nI n))]) (st' := []) (sh' := sh) (σ' := fwI (fwA σ a (fwFill (σ.1 a) i x)) a (nI i).toNatClampNeg x) k_fillI_10_ok (by simp [fwRun, k_fillI_10, fwStep, ha, fwSet1, fwKill]) (vp_in_nI (by omega) hn) ?_
    refine fwg_goto 5 d_fillI_17 (by decide) ?_
    rw [fwA_fwI, nI_clamp (by omega), fwFill_s, nI_1]
    exact ih (i + 1) (by omega)
theorem ct_fillI {a n : Nat} {x : Int32} (ha : sh[a]? = some (.inl (.int, n))) (hn : n < 2 ^ 31) : fwC l Z m_fillI 1 0 0 [.ref a, .int x] sh σ (fun v sh' σ' => v = none ∧ sh' = sh ∧ σ' = fwA σ a (fwFill (σ.1 a) n x)) := by
  refine fwC_of (ls := [some (.ref a), some (.int x), none, none]) (by decide +kernel) rfl (by rw [fw_sl1]; exact Nat.le_of_ble_eq_true rfl) ?_
  refine fwRun_ok (φs := []) (ls' := [some (.ref a), some (.int x), some (.int (nI 0)), some (.int (nI n))]) (st' := []) (sh' := sh) (σ' := σ) k_fillI_0_ok (by simp [fwRun, k_fillI_0, fwStep, ha, fwSet1, fwKill, fwAT, nI]; rfl) trivial ?_
  have h := fillI_loop (l := l) (Z := Z) (σ := σ) (x := x) ha hn (Post := fun v sh' σ' => v = none ∧ sh' = sh ∧ σ' = fwA σ a (fwFill (σ.1 a) n x)) ⟨rfl, rfl, rfl⟩ n 0 (by omega)
  rw [fwFill_0, fwA_id] at h
  exact h
theorem fw_10 {A : Prop} (h : fwIf ClassFile.Cond.eq 1) : A := absurd (show (1 : Int32) = 0 from h) (by decide)
theorem ct_scod {c : Nat} (hc : c < fwNs) : fwC l Z m_scod 1 0 0 [.retAddr c] sh σ (fwPure (.int 0) sh σ) := by
  refine fwC_of (ls := [some (.retAddr c)]) (by decide +kernel) rfl (by rw [fw_sl1]; exact Nat.le_refl 1) ?_
  refine fwRun_ok k_scod_0_ok rfl trivial ?_
  refine fwg_if 13 d_scod_3 (by decide) (fun h => fw_10 h) (fun h => ?_)
  refine fwRun_ok (φs := []) (ls' := [some (.retAddr c)]) (st' := [.int 0]) (sh' := sh) (σ' := σ) k_scod_6_ok (by simp [fwRun, k_scod_6, fwStep, hc]) trivial ?_
  refine fwg_goto 14 d_scod_10 (by decide) ?_
  exact fwg_zret rfl rfl (Nat.le_refl _) (Nat.le_refl _) ⟨rfl, rfl, rfl⟩ d_scod_14
theorem ct_slat {c : Nat} (hc : c < fwNs) : fwC l Z m_slat 1 0 0 [.retAddr c] sh σ (fwPure (.int 1) sh σ) := by
  refine fwC_of (ls := [some (.retAddr c)]) (by decide +kernel) rfl (by rw [fw_sl1]; exact Nat.le_refl 1) ?_
  refine fwRun_ok k_slat_0_ok rfl trivial ?_
  refine fwg_if 17 d_slat_3 (by decide) (fun h => fw_10 h) (fun h => ?_)
  refine fwRun_ok (φs := []) (ls' := [some (.retAddr c)]) (st' := [.int 0]) (sh' := sh) (σ' := σ) k_slat_6_ok (by simp [fwRun, k_slat_6, fwStep, hc]) trivial ?_
  refine fwg_if 17 d_slat_10 (by decide) (fun h => absurd rfl (show ¬ (0 : Int32) = 0 from h)) (fun h => ?_)
  refine fwRun_ok k_slat_13_ok rfl trivial ?_
  refine fwg_goto 18 d_slat_14 (by decide) ?_
  exact fwg_zret rfl rfl (Nat.le_refl _) (Nat.le_refl _) ⟨rfl, rfl, rfl⟩ d_slat_18
theorem fw_sc : ∀ c, c < fwNs → fwSl.getD c 0 = (fwSb.getD c []).length ∧ fwSl.getD c 0 < 2 ^ 31 ∧ ∀ b ∈ fwSb.getD c [], b.toInt8.toInt32 = b := by decide +kernel
theorem ct_slen {c : Nat} (hc : c < fwNs) : fwC l Z m_slen 2 0 0 [.retAddr c] sh σ (fwPure (.int (nI (fwSl.getD c 0))) sh σ) := by
  refine fwC_of (ls := [some (.retAddr c)]) (by decide +kernel) rfl (by rw [fw_sl1]; exact Nat.le_refl 1) ?_
  refine fwRun_ok (φs := []) (ls' := [some (.retAddr c)]) (st' := [.retAddr c, .int (nI (fwSl.getD c 0))]) (sh' := sh) (σ' := σ) k_slen_0_ok (by simp [fwRun, k_slen_0, fwStep, hc, nI, show ¬ c + 1000 < 1000 by omega]) trivial ?_
  refine fwg_callK (n := 0) (as := []) (r := [.int (nI (fwSl.getD c 0))]) (ct_scod hc) ⟨by decide, by decide, by decide +kernel⟩ rfl m_scod_in c_slen_6 hc rfl rfl (Nat.le_of_ble_eq_true rfl) d_slen_6 ⟨Nat.le_refl _, Nat.le_of_ble_eq_true rfl⟩ ⟨Nat.le_refl _, Nat.le_refl _⟩ (fun v sh' σ' hp => ?_)
  obtain ⟨rfl, rfl, rfl⟩ := hp
  refine fwRun_ok k_slen_9_ok rfl trivial ?_
  refine fwg_iret rfl (Nat.le_refl _) (Nat.le_refl _) ⟨?_, rfl, rfl⟩ d_slen_10
  rw [sb_shr0]
theorem ct_pchk {x y : Int32} {v : Value} (hv : v.category = 1) (h0 : ¬ x < 0) (h1 : x < y) : fwC l Z m_pchk 1 0 0 [.int x, .int y, v] sh σ (fwPure (.int x) sh σ) := by
  refine fwC_of (ls := [some (.int x), some (.int y), some v]) (by decide +kernel) (by simp [fwIni, lv_args, List.range, List.range.loop, List.lookup, Value.category]) (by rw [fw_sl1]; show 1 + (1 + (v.category + 0)) ≤ 3; rw [hv]; exact Nat.le_refl 3) ?_
  refine fwRun_ok k_pchk_0_ok rfl trivial ?_
  refine fwg_if 9 d_pchk_1 (by decide) (fun h => absurd h h0) (fun h => ?_)
  refine fwRun_ok k_pchk_4_ok rfl trivial ?_
  refine fwg_cmp 16 d_pchk_6 (by decide) (fun h => ?_) (fun h => absurd h1 h)
  refine fwRun_ok k_pchk_16_ok rfl trivial ?_
  exact fwg_iret rfl (Nat.le_refl _) (Nat.le_refl _) ⟨rfl, rfl, rfl⟩ d_pchk_17
theorem ct_schk {x y : Int32} (h0 : ¬ x < 0) (h1 : x < y) : fwC l Z m_schk 2 0 0 [.int x, .int y] sh σ (fun v sh' σ' => v = none ∧ sh' = sh ∧ σ' = σ) := by
  refine fwC_of (ls := [some (.int x), some (.int y)]) (by decide +kernel) rfl (by rw [fw_sl1]; exact Nat.le_refl 2) ?_
  refine fwRun_ok k_schk_0_ok rfl trivial ?_
  refine fwg_getQ (c_schk_2 _ (by simp)) d_schk_2 ?_
  have hv : (fwSv Z).category = 1 := by unfold fwSv; split <;> rfl
  refine fwg_callS (n := 3) (as := [.int x, .int y, fwSv Z]) (r := []) (ct_pchk hv h0 h1) ⟨by decide, by decide, by decide +kernel⟩ m_pchk_in c_schk_5 rfl rfl (Nat.le_of_ble_eq_true rfl) d_schk_5 ⟨Nat.le_refl _, Nat.le_of_ble_eq_true rfl⟩ ⟨Nat.le_refl _, Nat.le_refl _⟩ (fun v sh' σ' hp => ?_)
  obtain ⟨rfl, rfl, rfl⟩ := hp
  refine fwRun_ok k_schk_8_ok rfl trivial ?_
  exact fwg_vret rfl (Nat.le_refl _) (Nat.le_refl _) ⟨rfl, rfl, rfl⟩ d_schk_9
/-- the sign at place j of text c -/
def fwCh (c j : Nat) : Int32 := (fwSb.getD c []).getD j 0 &&& 255
theorem ct_lchar {c j : Nat} (hc : c < fwNs) (hj : j < fwSl.getD c 0) : fwC l Z m_lchar 3 0 0 [.retAddr (c + 1000), .int (nI j)] sh σ (fwPure (.int (fwCh c j)) sh σ) := by
  obtain ⟨hl, hL, -⟩ := fw_sc c hc
  refine fwC_of (ls := [some (.retAddr (c + 1000)), some (.int (nI j))]) (by decide +kernel) rfl (by rw [fw_sl1]; exact Nat.le_refl 2) ?_
  refine fwRun_ok (φs := []) (ls' := [some (.retAddr (c + 1000)), some (.int (nI j))]) (st' := [.int (nI (fwSl.getD c 0)), .int (nI j)]) (sh' := sh) (σ' := σ) k_lchar_0_ok (by simp [fwRun, k_lchar_0, fwStep, hc, nI, show ¬ c + 1000 < 1000 by omega]) trivial ?_
  refine fwg_callS (n := 2) (as := [.int (nI j), .int (nI (fwSl.getD c 0))]) (r := []) (ct_schk (nI_pos (by omega)) (nI_lt hj hL)) ⟨by decide, by decide, by decide +kernel⟩ m_schk_in c_lchar_3 rfl rfl (Nat.le_of_ble_eq_true rfl) d_lchar_3 ⟨Nat.le_refl _, Nat.le_of_ble_eq_true rfl⟩ ⟨Nat.le_refl _, Nat.le_refl _⟩ (fun v sh' σ' hp => ?_)
  obtain ⟨rfl, rfl, rfl⟩ := hp
  refine fwRun_ok (φs := [vp_in (nI j) (fwSl.getD c 0)]) (ls' := [some (.retAddr (c + 1000)), some (.int (nI j))]) (st' := [.int ((((fwSb.getD c []).getD (nI j).toNatClampNeg 0) &&& 255).toUInt32 % 65536).toInt32]) (sh' := sh') (σ' := σ') k_lchar_6_ok (by simp [fwRun, k_lchar_6, fwStep, hc, show ¬ c + 1000 < 1000 by omega]) (vp_in_nI hj hL) ?_
  have eX : ((((fwSb.getD c []).getD (nI j).toNatClampNeg 0) &&& 255).toUInt32 % 65536).toInt32 = fwCh c j := by
    rw [nI_clamp (by omega)]
    exact sc_c2 _
  rw [eX]
  exact fwg_zret rfl (sc_nar _) (Nat.le_refl _) (Nat.le_refl _) ⟨rfl, rfl, rfl⟩ d_lchar_14
theorem ct_schar {c j : Nat} (hc : c < fwNs) (hj : j < fwSl.getD c 0) : fwC l Z m_schar 4 0 0 [.retAddr c, .int (nI j)] sh σ (fwPure (.int (fwCh c j)) sh σ) := by
  refine fwC_of (ls := [some (.retAddr c), some (.int (nI j))]) (by decide +kernel) rfl (by rw [fw_sl1]; exact Nat.le_refl 2) ?_
  refine fwRun_ok k_schar_0_ok rfl trivial ?_
  refine fwg_callK (n := 0) (as := []) (r := []) (ct_slat hc) ⟨by decide, by decide, by decide +kernel⟩ rfl m_slat_in c_schar_1 hc rfl rfl (Nat.le_of_ble_eq_true rfl) d_schar_1 ⟨Nat.le_of_ble_eq_true rfl, Nat.le_of_ble_eq_true rfl⟩ ⟨Nat.le_refl _, Nat.le_refl _⟩ (fun v sh' σ' hp => ?_)
  obtain ⟨rfl, rfl, rfl⟩ := hp
  refine fwg_if 16 d_schar_4 (by decide) (fun h => fw_10 h) (fun h => ?_)
  refine fwRun_ok (φs := []) (ls' := [some (.retAddr c), some (.int (nI j))]) (st' := [.int (nI j), .retAddr (c + 1000)]) (sh' := sh') (σ' := σ') k_schar_7_ok (by simp [fwRun, k_schar_7, fwStep, hc]) trivial ?_
  refine fwg_callS (n := 2) (as := [.retAddr (c + 1000), .int (nI j)]) (r := []) (ct_lchar hc hj) ⟨by decide, by decide, by decide +kernel⟩ m_lchar_in c_schar_12 rfl rfl (Nat.le_of_ble_eq_true rfl) d_schar_12 ⟨Nat.le_refl _, Nat.le_of_ble_eq_true rfl⟩ ⟨Nat.le_refl _, Nat.le_refl _⟩ (fun v sh' σ' hp => ?_)
  obtain ⟨rfl, rfl, rfl⟩ := hp
  obtain ⟨b, hb⟩ : ∃ b, fwCh c j = b &&& 255 := ⟨_, rfl⟩
  exact fwg_zret rfl (by rw [hb]; exact sc_nar _) (Nat.le_refl _) (Nat.le_refl _) ⟨rfl, rfl, rfl⟩ d_schar_15
end JDK
