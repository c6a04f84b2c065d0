/-! each instruction of fwStep, over the kit's rows (laid by wip/whole/mkstep.py) -/
theorem fwCl_own : ∀ q ∈ fwCl, ∀ k, k < q.2.2 → (q.2.1 k).1 = q.1 := by decide +kernel
theorem fwOk_set {Z : fwZ} {sh : List fwE} {σ σ' : fwS} {H H1 : Heap} {i : Nat} {e : fwE} (hO : fwOk Z sh σ H) (hs : sh[i]? = some e) (hx : va_at Z.D fwCl (Z.B + i, fwX Z σ' i e) H1) (ho : ∀ j, j ≠ i → ∀ b, σ'.1 j b = σ.1 j b ∧ σ'.2 j b = σ.2 j b) (hz : H1.size = H.size) (oq : ∀ q : Nat, q ≠ Z.B + i → H1[q]? = H[q]?) (hf : fwFit sh σ') : fwOk Z sh σ' H1 := by
  refine ⟨fun k q hk => ?_, by rw [hz]; exact hO.2.1, hf⟩
  rw [fwW_get] at hk
  cases h1 : sh[k]? with
  | none => rw [h1] at hk; cases hk
  | some e' =>
    rw [h1] at hk
    cases hk
    by_cases hki : k = i
    · subst hki
      rw [hs] at h1
      cases h1
      exact hx
    · have h2 := hO.1 k (Z.B + k, fwX Z σ k e') (fwW_at h1)
      show va_at Z.D fwCl (Z.B + k, fwX Z σ' k e') H1
      rw [fwX_congr (fun b => (ho k hki b).1) (fun b => (ho k hki b).2) e']
      exact h2.kept (oq _ (by show Z.B + k ≠ Z.B + i; omega))
theorem fwFit_I {sh : List fwE} {σ : fwS} {i k : Nat} {x : Int32} (h : fwFit sh σ) (hx : ∀ n, sh[i]? = some (.inl (.byte, n)) → fits .byte (.int x) = true) : fwFit sh (fwI σ i k x) := by
  intro j n hj b
  by_cases hji : j = i
  · subst hji
    by_cases hb : b = k
    · subst hb
      rw [fwI_eq]
      exact hx n hj
    · rw [fwI_ne2 hb]
      exact h j n hj b
  · rw [fwI_ne hji]
    exact h j n hj b
theorem fwFit_L {sh : List fwE} {σ : fwS} {i k : Nat} {x : Int64} (h : fwFit sh σ) : fwFit sh (fwL σ i k x) := h
section FWS
variable {l : Launch} {Z : fwZ} {M : fwM} {d mc ms : Nat} {Post : fwPost} {nc ns pc : Nat} {ls : List (Option Value)} {st r : List Value} {sh : List fwE} {σ : fwS}
abbrev fwIn (x : Int32) : Value := .int x
theorem fwg_ldc {own : String} {i : Nat} {v : Int32} (ho : M.1.cls = own) (hm : (own, i, v) ∈ fwKc) (hd : decode M.2.1 pc = .ok (.ldc i, 2)) (k : fwG l Z M d mc ms Post nc ns (pc + 2) ls (.int v :: st) sh σ) : fwG l Z M d mc ms Post nc ns pc ls st sh σ := by
  intro p e s m args below meth c H locs Ls hE hO hS hL
  subst ho
  exact lv_ldc hE.1 hE.2.1 hE.2.2.2.2.1 (hE.2.2.2.2.2.1 _ (List.mem_cons_of_mem _ (fwKc_in _ (List.mem_map.mpr ⟨_, hm, rfl⟩)))) hd (k p e s m args below meth c H locs Ls hE hO hS hL)
theorem fwg_ldc2 {own : String} {i : Nat} {v : Int64} (ho : M.1.cls = own) (hm : (own, i, v) ∈ fwLc) (hd : decode M.2.1 pc = .ok (.ldc2_w i, 3)) (k : fwG l Z M d mc ms Post nc ns (pc + 3) ls (.long v :: st) sh σ) : fwG l Z M d mc ms Post nc ns pc ls st sh σ := by
  intro p e s m args below meth c H locs Ls hE hO hS hL
  subst ho
  exact lv_ldc2 hE.1 hE.2.1 hE.2.2.2.2.1 (hE.2.2.2.2.2.1 _ (List.mem_cons_of_mem _ (fwLc_in _ (List.mem_map.mpr ⟨_, hm, rfl⟩)))) hd (k p e s m args below meth c H locs Ls hE hO hS hL)
theorem fwg_ldcS {q : String × Nat × String × Nat} (ho : M.1.cls = q.1) (hm : q ∈ fwSr) (hd : decode M.2.1 pc = .ok (.ldc q.2.1, 2)) (k : fwG l Z M d mc ms Post nc ns (pc + 2) ls (.retAddr q.2.2.2 :: st) sh σ) : fwG l Z M d mc ms Post nc ns pc ls st sh σ := by
  intro p e s m args below meth c H locs Ls hE hO hS hL
  have hown : s.vm.findClass q.1 = some m.cls := by rw [← ho]; exact hE.2.2.2.2.1
  exact va_ldcS hE.1 hE.2.1 hown (hE.2.2.2.2.2.2.2.2.2.1.2.1 q hm) hd (k p e s m args below meth c H locs Ls hE hO hS hL)
theorem fwg_iinc {i : Nat} {n : Int} {x v : Int32} (hl : ls[i]? = some (some (.int x))) (hv : Int32.ofInt n = v) (hd : decode M.2.1 pc = .ok (.iinc i n, 3)) (k : fwG l Z M d mc ms Post nc ns (pc + 3) (fwSet1 ls i (.int (x + v))) st sh σ) : fwG l Z M d mc ms Post nc ns pc ls st sh σ := by
  intro p e s m args below meth c H locs Ls hE hO hS hL
  subst hv
  have hm : (i, Value.int x) ∈ fwPl Z ls := fwPl_mem.mpr ⟨.int x, hl, rfl⟩
  obtain ⟨j, hj⟩ := List.getElem?_of_mem hm
  have hlt : i < ls.length := (List.getElem?_eq_some_iff.mp hl).1
  exact lv_iinc hE.1 hE.2.1 hd hL.has hj rfl (by rw [← hL.2.1]; exact hlt) rfl (fun Ls' hL' => k p e s m args below meth c H locs Ls' hE hO hS (fwLv_set1 hL.2.1 hlt hL'))
theorem fwg_get {i ci kk : Nat} {idx : Nat} {ts : List Value} {t : Value} (hs : sh[i]? = some (.inr (ci, ts))) (ht : ts[kk]? = some t) (hm : (M.1.cls, idx, ci, kk) ∈ fwFl) (hd : decode M.2.1 pc = .ok (.getfield idx, 3)) (k : fwG l Z M d mc ms Post nc ns (pc + 3) ls (fwGv σ i kk t :: r) sh σ) : fwG l Z M d mc ms Post nc ns pc ls (.ref i :: r) sh σ := by
  intro p e s m args below meth c H locs Ls hE hO hS hL
  obtain ⟨hlt1, hlt2⟩ := fwFl_lt _ hm
  have hcl : fwCl[ci]? = some (fwCl.getD ci fwC_0) := by
    rw [List.getD_eq_getElem?_getD, List.getElem?_eq_getElem hlt1]; rfl
  have hck := fwCl_ok ci _ hcl
  have hin : ∀ w ∈ u_ws (fwCl.getD ci fwC_0).1 (fwCl.getD ci fwC_0).2.1 (fwCl.getD ci fwC_0).2.2, w ∈ fwWs M := fun w hw => List.mem_cons_of_mem _ (hck.1 w hw)
  have hlink := hE.2.2.2.2.2.1 _ (List.mem_cons_of_mem _ (fwFl_in _ (List.mem_map.mpr ⟨_, hm, rfl⟩)))
  have hown := fwCl_own _ (List.mem_of_getElem? hcl) kk hlt2
  refine va_get hE.1 hE.2.1 (C := (fwCl.getD ci fwC_0).1) (T := (fwCl.getD ci fwC_0).2.1) (N := (fwCl.getD ci fwC_0).2.2) hE.2.2.2.2.2.1 hin hE.2.2.2.2.1 hE.2.2.2.2.2.2.2.1 hO.1 i (fwW_at hs) hcl kk hlt2 hlink (fun x h => by rw [← hown]; exact h) (v := fwV Z (fwGv σ i kk t)) ?_ hd (k p e s m args below meth c H locs Ls hE hO hS hL)
  show (ts.mapIdx (fun k v => fwFv Z σ i k v))[kk]? = _
  rw [List.getElem?_mapIdx, ht]
  show some (fwFv Z σ i kk t) = _
  rw [fwFv_eq]
theorem fwg_alen {i n : Nat} {ty : FieldType} (hs : sh[i]? = some (.inl (ty, n))) (ht : ty ∈ fwAT) (hd : decode M.2.1 pc = .ok (.arraylength, 1)) (k : fwG l Z M d mc ms Post nc ns (pc + 1) ls (.int (Int32.ofNat n) :: r) sh σ) : fwG l Z M d mc ms Post nc ns pc ls (.ref i :: r) sh σ := by
  intro p e s m args below meth c H locs Ls hE hO hS hL
  obtain ⟨t0, ht0⟩ := fwTys_at Z ht
  exact va_alen hE.1 hE.2.1 hE.2.2.2.2.2.2.2.1 hO.1 i t0 (fwW_at hs) ht0 rfl hd (k p e s m args below meth c H locs Ls hE hO hS hL)

theorem fwg_ld_int {i n : Nat} {j : Int32} (hs : sh[i]? = some (.inl (.int, n))) (hin : vp_in j n) (hd : decode M.2.1 pc = .ok (.iaload, 1)) (k : fwG l Z M d mc ms Post nc ns (pc + 1) ls (.int (σ.1 i j.toNatClampNeg) :: r) sh σ) : fwG l Z M d mc ms Post nc ns pc ls (.int j :: .ref i :: r) sh σ := by
  intro p e s m args below meth c H locs Ls hE hO hS hL
  obtain ⟨t0, ht0⟩ := fwTys_at Z (t := .int) (by decide)
  exact va_iald hE.1 hE.2.1 hE.2.2.2.2.2.2.2.1 hO.1 i t0 (fwW_at hs) ht0 hin hd (k p e s m args below meth c H locs Ls hE hO hS hL)
theorem fwg_ld_byte {i n : Nat} {j : Int32} (hs : sh[i]? = some (.inl (.byte, n))) (hin : vp_in j n) (hd : decode M.2.1 pc = .ok (.baload, 1)) (k : fwG l Z M d mc ms Post nc ns (pc + 1) ls (.int (σ.1 i j.toNatClampNeg) :: r) sh σ) : fwG l Z M d mc ms Post nc ns pc ls (.int j :: .ref i :: r) sh σ := by
  intro p e s m args below meth c H locs Ls hE hO hS hL
  obtain ⟨t0, ht0⟩ := fwTys_at Z (t := .byte) (by decide)
  exact va_bald hE.1 hE.2.1 hE.2.2.2.2.2.2.2.1 hO.1 i t0 (fwW_at hs) ht0 hin hd (k p e s m args below meth c H locs Ls hE hO hS hL)
theorem fwg_ld_boolean {i n : Nat} {j : Int32} (hs : sh[i]? = some (.inl (.boolean, n))) (hin : vp_in j n) (hd : decode M.2.1 pc = .ok (.baload, 1)) (k : fwG l Z M d mc ms Post nc ns (pc + 1) ls (.int (σ.1 i j.toNatClampNeg) :: r) sh σ) : fwG l Z M d mc ms Post nc ns pc ls (.int j :: .ref i :: r) sh σ := by
  intro p e s m args below meth c H locs Ls hE hO hS hL
  obtain ⟨t0, ht0⟩ := fwTys_at Z (t := .boolean) (by decide)
  exact va_zald hE.1 hE.2.1 hE.2.2.2.2.2.2.2.1 hO.1 i t0 (fwW_at hs) ht0 hin hd (k p e s m args below meth c H locs Ls hE hO hS hL)
theorem fwg_ld_long {i n : Nat} {j : Int32} (hs : sh[i]? = some (.inl (.long, n))) (hin : vp_in j n) (hd : decode M.2.1 pc = .ok (.laload, 1)) (k : fwG l Z M d mc ms Post nc ns (pc + 1) ls (.long (σ.2 i j.toNatClampNeg) :: r) sh σ) : fwG l Z M d mc ms Post nc ns pc ls (.int j :: .ref i :: r) sh σ := by
  intro p e s m args below meth c H locs Ls hE hO hS hL
  obtain ⟨t0, ht0⟩ := fwTys_at Z (t := .long) (by decide)
  exact va_lald hE.1 hE.2.1 hE.2.2.2.2.2.2.2.1 hO.1 i t0 (fwW_at hs) ht0 hin hd (k p e s m args below meth c H locs Ls hE hO hS hL)
theorem fwg_st_int {i n : Nat} {j : Int32} {x : Int32} (hs : sh[i]? = some (.inl (.int, n))) (hin : vp_in j n) (hd : decode M.2.1 pc = .ok (.iastore, 1)) (k : fwG l Z M d mc ms Post nc ns (pc + 1) ls r sh (fwI σ i j.toNatClampNeg x)) : fwG l Z M d mc ms Post nc ns pc ls (.int x :: .int j :: .ref i :: r) sh σ := by
  intro p e s m args below meth c H locs Ls hE hO hS hL
  obtain ⟨t0, ht0⟩ := fwTys_at Z (t := .int) (by decide)
  have hK := hE.2.2.2.2.2.2.2.1
  refine W.iast hE.1 hE.2.1 (hO.1 i _ (fwW_at hs)) ((hK.2 t0 _ ht0).1 n (fun j => .int (σ.1 i j))) (fun q => by cases q) (by show ¬ (j < 0 ∨ (arrV _ _ _).slots.size ≤ _); rw [arrV_size]; exact hin) rfl rfl hd fun H1 e1 z oq => ?_
  refine k p e s m args below meth c H1 _ Ls hE (fwOk_set hO hs ?_ (fun j hj b => ⟨fwI_ne hj, rfl⟩) z oq (fwFit_I hO.2.2 (fun n hn => by rw [hs] at hn; cases hn))) (hS.put z oq (by show Z.2.2.2.1 ≤ Z.2.2.2.1 + i; omega)) hL
  show H1[Z.B + i]? = some (vp_cell (Z.2.2.1 .int) (n, .inl ((fwI σ i j.toNatClampNeg x).1 i)))
  rw [e1]
  show some ((arrV (Z.2.2.1 .int) n (fun q => .int (σ.1 i q))).setSlot _ _) = some (arrV (Z.2.2.1 .int) n (fun q => .int ((fwI σ i j.toNatClampNeg x).1 i q)))
  rw [arrV_store]
  congr 2
  funext q
  by_cases hq : q = j.toNatClampNeg
  · subst hq
    simp [updV, fwI, narrow]
  · simp [updV, hq, fwI]
theorem fwg_st_byte {i n : Nat} {j : Int32} {x : Int32} (hs : sh[i]? = some (.inl (.byte, n))) (hin : vp_in j n) (hd : decode M.2.1 pc = .ok (.bastore, 1)) (k : fwG l Z M d mc ms Post nc ns (pc + 1) ls r sh (fwI σ i j.toNatClampNeg x.toInt8.toInt32)) : fwG l Z M d mc ms Post nc ns pc ls (.int x :: .int j :: .ref i :: r) sh σ := by
  intro p e s m args below meth c H locs Ls hE hO hS hL
  obtain ⟨t0, ht0⟩ := fwTys_at Z (t := .byte) (by decide)
  have hK := hE.2.2.2.2.2.2.2.1
  refine W.bast hE.1 hE.2.1 (hO.1 i _ (fwW_at hs)) ((hK.2 t0 _ ht0).1 n (fun j => .int (σ.1 i j))) (fun q => by cases q) (by show ¬ (j < 0 ∨ (arrV _ _ _).slots.size ≤ _); rw [arrV_size]; exact hin) rfl rfl hd fun H1 e1 z oq => ?_
  refine k p e s m args below meth c H1 _ Ls hE (fwOk_set hO hs ?_ (fun j hj b => ⟨fwI_ne hj, rfl⟩) z oq (fwFit_I hO.2.2 (fun n hn => pk_fb x))) (hS.put z oq (by show Z.2.2.2.1 ≤ Z.2.2.2.1 + i; omega)) hL
  show H1[Z.B + i]? = some (vp_cell (Z.2.2.1 .byte) (n, .inl ((fwI σ i j.toNatClampNeg x.toInt8.toInt32).1 i)))
  rw [e1]
  show some ((arrV (Z.2.2.1 .byte) n (fun q => .int (σ.1 i q))).setSlot _ _) = some (arrV (Z.2.2.1 .byte) n (fun q => .int ((fwI σ i j.toNatClampNeg x.toInt8.toInt32).1 i q)))
  rw [arrV_store]
  congr 2
  funext q
  by_cases hq : q = j.toNatClampNeg
  · subst hq
    simp [updV, fwI, narrow]
  · simp [updV, hq, fwI]
theorem fwg_st_boolean {i n : Nat} {j : Int32} {x : Int32} (hs : sh[i]? = some (.inl (.boolean, n))) (hin : vp_in j n) (hd : decode M.2.1 pc = .ok (.bastore, 1)) (k : fwG l Z M d mc ms Post nc ns (pc + 1) ls r sh (fwI σ i j.toNatClampNeg (x &&& 1))) : fwG l Z M d mc ms Post nc ns pc ls (.int x :: .int j :: .ref i :: r) sh σ := by
  intro p e s m args below meth c H locs Ls hE hO hS hL
  obtain ⟨t0, ht0⟩ := fwTys_at Z (t := .boolean) (by decide)
  have hK := hE.2.2.2.2.2.2.2.1
  refine W.zast hE.1 hE.2.1 (hO.1 i _ (fwW_at hs)) ((hK.2 t0 _ ht0).1 n (fun j => .int (σ.1 i j))) (fun q => by cases q) (by show ¬ (j < 0 ∨ (arrV _ _ _).slots.size ≤ _); rw [arrV_size]; exact hin) rfl rfl hd fun H1 e1 z oq => ?_
  refine k p e s m args below meth c H1 _ Ls hE (fwOk_set hO hs ?_ (fun j hj b => ⟨fwI_ne hj, rfl⟩) z oq (fwFit_I hO.2.2 (fun n hn => by rw [hs] at hn; cases hn))) (hS.put z oq (by show Z.2.2.2.1 ≤ Z.2.2.2.1 + i; omega)) hL
  show H1[Z.B + i]? = some (vp_cell (Z.2.2.1 .boolean) (n, .inl ((fwI σ i j.toNatClampNeg (x &&& 1)).1 i)))
  rw [e1]
  show some ((arrV (Z.2.2.1 .boolean) n (fun q => .int (σ.1 i q))).setSlot _ _) = some (arrV (Z.2.2.1 .boolean) n (fun q => .int ((fwI σ i j.toNatClampNeg (x &&& 1)).1 i q)))
  rw [arrV_store]
  congr 2
  funext q
  by_cases hq : q = j.toNatClampNeg
  · subst hq
    simp [updV, fwI, narrow]
  · simp [updV, hq, fwI]
theorem fwg_st_long {i n : Nat} {j : Int32} {x : Int64} (hs : sh[i]? = some (.inl (.long, n))) (hin : vp_in j n) (hd : decode M.2.1 pc = .ok (.lastore, 1)) (k : fwG l Z M d mc ms Post nc ns (pc + 1) ls r sh (fwL σ i j.toNatClampNeg x)) : fwG l Z M d mc ms Post nc ns pc ls (.long x :: .int j :: .ref i :: r) sh σ := by
  intro p e s m args below meth c H locs Ls hE hO hS hL
  obtain ⟨t0, ht0⟩ := fwTys_at Z (t := .long) (by decide)
  have hK := hE.2.2.2.2.2.2.2.1
  refine W.last hE.1 hE.2.1 (hO.1 i _ (fwW_at hs)) ((hK.2 t0 _ ht0).1 n (fun j => .long (σ.2 i j))) (fun q => by cases q) (by show ¬ (j < 0 ∨ (arrV _ _ _).slots.size ≤ _); rw [arrV_size]; exact hin) rfl rfl hd fun H1 e1 z oq => ?_
  refine k p e s m args below meth c H1 _ Ls hE (fwOk_set hO hs ?_ (fun j hj b => ⟨rfl, fwL_ne hj⟩) z oq (fwFit_L hO.2.2)) (hS.put z oq (by show Z.2.2.2.1 ≤ Z.2.2.2.1 + i; omega)) hL
  show H1[Z.B + i]? = some (vp_cell (Z.2.2.1 .long) (n, .inr <| .inl ((fwL σ i j.toNatClampNeg x).2 i)))
  rw [e1]
  show some ((arrV (Z.2.2.1 .long) n (fun q => .long (σ.2 i q))).setSlot _ _) = some (arrV (Z.2.2.1 .long) n (fun q => .long ((fwL σ i j.toNatClampNeg x).2 i q)))
  rw [arrV_store]
  congr 2
  funext q
  by_cases hq : q = j.toNatClampNeg
  · subst hq
    simp [updV, fwL, narrow]
  · simp [updV, hq, fwL]
end FWS
