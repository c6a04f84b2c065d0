/-! putfield; tables -/
section FWP
variable {idx : Nat} {l : Launch} {Z : fwZ} {M : fwM} {d mc ms : Nat} {Post : fwPost} {nc ns pc : Nat} {ls : List (Option Value)} {st r : List Value} {sh : List fwE} {σ : fwS}
theorem fw_putcore {p : Program} {e : Env} {R : Room} {s : State} {m : MethodId} {args : Array Value} {below : List Frame} {meth : Method} {c : Code} {H : Heap} {locs : List Loc} {cells slots : Nat} {Q : State → Prop} {Ls : Array Slot} {rest : List Value} {i ci kk idx : Nat} {fs : List Value} {v : Value}
    (hE : fwEnv Z M p s m args meth c) (hP : va_at Z.D fwCl (Z.B + i, .inr (ci, fs)) H) (hm : (M.1.cls, idx, ci, kk) ∈ fwFl) (hfin : ((fwCl.getD ci fwC_0).2.1 kk).2.2.2 = false) (hn : narrow (fwTyOf ci kk) v = v) (hfit : fits (fwTyOf ci kk) v = true) (hl : kk < fs.length) (hd : decode M.2.1 pc = .ok (.putfield idx, 3))
    (k : ∀ (H1 : Heap) (b : Nat), va_at Z.D fwCl (Z.B + i, .inr (ci, fs.set kk v)) H1 → H1.size = H.size → (∀ q : Nat, q ≠ Z.B + i → H1[q]? = H[q]?) → W p l e R s m args below meth c H1 (locs ++ [⟨Z.B + i, b⟩]) cells slots Q (F0 m (pc + 3) Ls rest)) : W p l e R s m args below meth c H locs cells slots Q (F0 m pc Ls (v :: .ref (Z.B + i) :: rest)) := by
  obtain ⟨hlt1, hlt2⟩ := fwFl_lt _ hm
  have hcl : fwCl[ci]? = some (fwCl.getD ci fwC_0) := by
    rw [List.getD_eq_getElem?_getD, List.getElem?_eq_getElem hlt1]; rfl
  obtain ⟨hck1, hck2, hck3⟩ := fwCl_ok ci _ hcl
  have hin : ∀ w ∈ u_ws (fwCl.getD ci fwC_0).1 (fwCl.getD ci fwC_0).2.1 (fwCl.getD ci fwC_0).2.2, w ∈ fwWs M := fun w hw => List.mem_cons_of_mem _ (hck1 w hw)
  obtain ⟨hx, hb, -, -, hown, hts, -, hK, -⟩ := hE
  have hlink := hts _ (List.mem_cons_of_mem _ (fwFl_in _ (List.mem_map.mpr ⟨_, hm, rfl⟩)))
  have hdecl := fwCl_own _ (List.mem_of_getElem? hcl) kk hlt2
  have hap := va_apart (own := M.1.cls) hts hin (fwTyOf ci) hck3 hck2 hK hcl
  obtain ⟨q, h1, cell, q1, q2, q3, q4⟩ := hP
  have hq : q = fwCl.getD ci fwC_0 := Option.some.inj (h1.symm.trans hcl)
  subst hq
  obtain ⟨hS, hfc, kC, hkC, hkind⟩ := hK.1 ci _ hcl
  obtain ⟨cf, kf, fi, f, hi, hsl⟩ := hS kk hlt2
  have hlay := hts _ (hin _ (u_in_lay hlt2))
  unfold u_lay at hlay
  rw [if_neg (by rw [hfin]; decide)] at hlay
  have hst := (u_facts hfc hkC (u_lays hts hin hlt2) hi).1
  have h6 := u_store hfc hkC hkind hlay hi (hck3 kk hlt2) hn hfit
  rw [hdecl] at hi
  refine W.putK hx hb (f := f) ⟨hown, hlink, ⟨_, _, _, hi⟩, hst⟩ (by rw [q2]; exact h6) q1 q3 (by rw [hsl]; exact k2_hasslot (q4 kk hlt2)) rfl rfl hd fun H' e1 e2 e3 => ?_
  rw [hsl] at e1 ⊢
  exact k H' _ ⟨_, hcl, t_OB.to (V := updV (vp_V fs) kk v) ⟨_, e1, q2, q3, t_set q4 hap hlt2 v⟩ (fun j _ => vp_updV_set hl v j)⟩ e2 e3
theorem fwX_putI {i kk ci : Nat} {ts : List Value} {x0 v : Int32} (hk : ts[kk]? = some (.int x0)) : fwX Z (fwI σ i kk v) i (.inr (ci, ts)) = .inr (ci, (ts.mapIdx (fun k v => fwFv Z σ i k v)).set kk (.int v)) := by
  show Sum.inr _ = Sum.inr _
  congr 2
  apply List.ext_getElem?
  intro q
  have hlen : kk < ts.length := (List.getElem?_eq_some_iff.mp hk).1
  by_cases hq : q = kk
  · subst hq
    rw [List.getElem?_set_self (by rw [List.length_mapIdx]; exact hlen), List.getElem?_mapIdx, hk]
    show some (Value.int ((fwI σ i q v).1 i q)) = _
    rw [fwI_eq]
  · rw [List.getElem?_set_ne (Ne.symm hq), List.getElem?_mapIdx, List.getElem?_mapIdx]
    cases ts[q]? with
    | none => rfl
    | some w => cases w <;> simp [fwFv, fwI_ne2 hq] <;> rfl
theorem fwX_putL {i kk ci : Nat} {ts : List Value} {x0 v : Int64} (hk : ts[kk]? = some (.long x0)) : fwX Z (fwL σ i kk v) i (.inr (ci, ts)) = .inr (ci, (ts.mapIdx (fun k v => fwFv Z σ i k v)).set kk (.long v)) := by
  show Sum.inr _ = Sum.inr _
  congr 2
  apply List.ext_getElem?
  intro q
  have hlen : kk < ts.length := (List.getElem?_eq_some_iff.mp hk).1
  by_cases hq : q = kk
  · subst hq
    rw [List.getElem?_set_self (by rw [List.length_mapIdx]; exact hlen), List.getElem?_mapIdx, hk]
    show some (Value.long ((fwL σ i q v).2 i q)) = _
    rw [fwL_eq]
  · rw [List.getElem?_set_ne (Ne.symm hq), List.getElem?_mapIdx, List.getElem?_mapIdx]
    cases ts[q]? with
    | none => rfl
    | some w => cases w <;> simp [fwFv, fwL_ne2 hq] <;> rfl
theorem fwg_putI {i ci kk idx : Nat} {ts : List Value} {x0 x : Int32} (hs : sh[i]? = some (.inr (ci, ts))) (ht : ts[kk]? = some (.int x0)) (hm : (M.1.cls, idx, ci, kk) ∈ fwFl) (hfin : ((fwCl.getD ci fwC_0).2.1 kk).2.2.2 = false) (hn : narrow (fwTyOf ci kk) (.int x) = .int x) (hfit : fits (fwTyOf ci kk) (.int x) = true) (hd : decode M.2.1 pc = .ok (.putfield idx, 3)) (k : fwG l Z M d mc ms Post nc ns (pc + 3) ls r sh (fwI σ i kk x)) : fwG l Z M d mc ms Post nc ns pc ls (.int x :: .ref i :: r) sh σ := by
  intro p e s m args below meth c H locs Ls hE hO hS hL
  have hlen : kk < ts.length := (List.getElem?_eq_some_iff.mp ht).1
  refine fw_putcore hE (hO.1 i _ (fwW_at hs)) hm hfin hn hfit (by rw [List.length_mapIdx]; exact hlen) hd fun H1 b hx z oq => ?_
  refine k p e s m args below meth c H1 _ Ls hE (fwOk_set hO hs (by rw [fwX_putI ht]; exact hx) (fun j hj b => ⟨fwI_ne hj, rfl⟩) z oq (fwFit_I hO.2.2 (fun n hn => by rw [hs] at hn; cases hn))) (hS.put z oq (by show Z.2.2.2.1 ≤ Z.2.2.2.1 + i; omega)) hL
theorem fwg_putL {i ci kk idx : Nat} {ts : List Value} {x0 x : Int64} (hs : sh[i]? = some (.inr (ci, ts))) (ht : ts[kk]? = some (.long x0)) (hm : (M.1.cls, idx, ci, kk) ∈ fwFl) (hfin : ((fwCl.getD ci fwC_0).2.1 kk).2.2.2 = false) (hty : fwTyOf ci kk = .long) (hd : decode M.2.1 pc = .ok (.putfield idx, 3)) (k : fwG l Z M d mc ms Post nc ns (pc + 3) ls r sh (fwL σ i kk x)) : fwG l Z M d mc ms Post nc ns pc ls (.long x :: .ref i :: r) sh σ := by
  intro p e s m args below meth c H locs Ls hE hO hS hL
  have hlen : kk < ts.length := (List.getElem?_eq_some_iff.mp ht).1
  refine fw_putcore hE (hO.1 i _ (fwW_at hs)) hm hfin (v := .long x) (by rw [hty]; rfl) (by rw [hty]; rfl) (by rw [List.length_mapIdx]; exact hlen) hd fun H1 b hx z oq => ?_
  refine k p e s m args below meth c H1 _ Ls hE (fwOk_set hO hs (by rw [fwX_putL ht]; exact hx) (fun j hj b => ⟨rfl, fwL_ne hj⟩) z oq (fwFit_L hO.2.2)) (hS.put z oq (by show Z.2.2.2.1 ≤ Z.2.2.2.1 + i; omega)) hL
theorem fwg_ld_tab {c : Nat} {j : Int32} (hin : vp_in j (fwTn c)) (hd : decode M.2.1 pc = .ok (.iaload, 1)) (k : fwG l Z M d mc ms Post nc ns (pc + 1) ls (.int (fwTv c j.toNatClampNeg) :: r) sh σ) : fwG l Z M d mc ms Post nc ns pc ls (.int j :: .retAddr c :: r) sh σ := by
  intro p e s m args below meth cc H locs Ls hE hO hS hL
  cases hf : fwTb.find? (fun q => q.2.2.1 == c) with
  | none =>
    have h0 : fwTn c = 0 := by unfold fwTn; rw [hf]
    rw [h0] at hin
    exact absurd (Or.inr (Nat.zero_le _)) hin
  | some q =>
    have hq : q.2.2.1 = c := by simpa using List.find?_some hf
    have hm : q ∈ fwTb := List.mem_of_find?_eq_some hf
    have h1 : fwTn c = q.2.2.2.length := by unfold fwTn; rw [hf]
    have h2 : ∀ j, fwTv c j = q.2.2.2.getD j 0 := fun j => by unfold fwTv; rw [hf]
    have hT := (hE.2.2.2.2.2.2.2.2.2.1.2.2.1 q hm).2
    rw [hq] at hT
    rw [h1] at hin
    exact va_ti hE.1 hE.2.1 hT hS hin (by rw [h2]; rfl) hd (k p e s m args below meth cc H locs Ls hE hO hS hL)
theorem fwg_getT {t : Nat} (hm : (M.1.cls, idx, t) ∈ fwSg) (hd : decode M.2.1 pc = .ok (.getstatic idx, 3)) (k : fwG l Z M d mc ms Post nc ns (pc + 3) ls (.retAddr (fwTb.getD t ("", "", 0, [])).2.2.1 :: st) sh σ) : fwG l Z M d mc ms Post nc ns pc ls st sh σ := by
  intro p e s m args below meth cc H locs Ls hE hO hS hL
  have hlt := fwSg_lt _ hm
  have hq : fwTb.getD t ("", "", 0, []) ∈ fwTb := by
    rw [List.getD_eq_getElem?_getD, List.getElem?_eq_getElem hlt]
    exact List.getElem_mem hlt
  exact va_gets hE.1 hE.2.1 (hE.2.2.2.2.2.2.2.2.2.1.2.2.1 _ hq).1 hS hE.2.2.2.2.1 (hE.2.2.2.2.2.1 _ (List.mem_cons_of_mem _ (fwSg_in _ (List.mem_map.mpr ⟨_, hm, rfl⟩)))) (fun x h => h) hd (k p e s m args below meth cc H locs Ls hE hO hS hL)
theorem fwg_getN {t : Nat} (hm : (M.1.cls, idx, t) ∈ fwSn) (hd : decode M.2.1 pc = .ok (.getstatic idx, 3)) (k : fwG l Z M d mc ms Post nc ns (pc + 3) ls (.int (fwSi.getD t ("", "", "", 0)).2.2.2 :: st) sh σ) : fwG l Z M d mc ms Post nc ns pc ls st sh σ := by
  intro p e s m args below meth cc H locs Ls hE hO hS hL
  have hlt := fwSn_lt _ hm
  have hq : fwSi.getD t ("", "", "", 0) ∈ fwSi := by
    rw [List.getD_eq_getElem?_getD, List.getElem?_eq_getElem hlt]
    exact List.getElem_mem hlt
  exact va_gets hE.1 hE.2.1 (hE.2.2.2.2.2.2.2.2.2.1.2.2.2.2.1 _ hq) hS hE.2.2.2.2.1 (hE.2.2.2.2.2.1 _ (List.mem_cons_of_mem _ (fwSn_in _ (List.mem_map.mpr ⟨_, hm, rfl⟩)))) (fun x h => h) hd (k p e s m args below meth cc H locs Ls hE hO hS hL)
theorem fwg_sval {c : Nat} (hc : c < fwNs) (hm : (M.1.cls, idx, 0) ∈ fwSf) (hd : decode M.2.1 pc = .ok (.getfield idx, 3)) (k : fwG l Z M d mc ms Post nc ns (pc + 3) ls (.retAddr (c + 1000) :: r) sh σ) : fwG l Z M d mc ms Post nc ns pc ls (.retAddr c :: r) sh σ := by
  intro p e s m args below meth cc H locs Ls hE hO hS hL
  exact vk_getf hE.1 hE.2.1 (hE.2.2.2.2.2.2.2.2.2.1.1.1 c hc).2.2.1 hS hE.2.2.2.2.1 (hE.2.2.2.2.2.1 _ (List.mem_cons_of_mem _ (fwSf_in _ (List.mem_map.mpr ⟨_, hm, rfl⟩)))) (fun x h => h) hd (k p e s m args below meth cc H locs Ls hE hO hS hL)
theorem fwg_scod {c : Nat} (hc : c < fwNs) (hm : (M.1.cls, idx, 1) ∈ fwSf) (hd : decode M.2.1 pc = .ok (.getfield idx, 3)) (k : fwG l Z M d mc ms Post nc ns (pc + 3) ls (.int 0 :: r) sh σ) : fwG l Z M d mc ms Post nc ns pc ls (.retAddr c :: r) sh σ := by
  intro p e s m args below meth cc H locs Ls hE hO hS hL
  exact vk_getf hE.1 hE.2.1 (hE.2.2.2.2.2.2.2.2.2.1.1.1 c hc).2.1 hS hE.2.2.2.2.1 (hE.2.2.2.2.2.1 _ (List.mem_cons_of_mem _ (fwSf_in _ (List.mem_map.mpr ⟨_, hm, rfl⟩)))) (fun x h => h) hd (k p e s m args below meth cc H locs Ls hE hO hS hL)
theorem fwg_slen {c : Nat} (h1 : ¬ c < 1000) (hc : c - 1000 < fwNs) (hd : decode M.2.1 pc = .ok (.arraylength, 1)) (k : fwG l Z M d mc ms Post nc ns (pc + 1) ls (.int (Int32.ofNat (fwSl.getD (c - 1000) 0)) :: r) sh σ) : fwG l Z M d mc ms Post nc ns pc ls (.retAddr c :: r) sh σ := by
  intro p e s m args below meth cc H locs Ls hE hO hS hL
  have hT := (hE.2.2.2.2.2.2.2.2.2.1.1.1 (c - 1000) hc).2.2.2
  have h2 : c - 1000 + 1000 = c := by omega
  dsimp only at hT
  rw [h2] at hT
  exact va_tlen hE.1 hE.2.1 hT hS rfl hd (k p e s m args below meth cc H locs Ls hE hO hS hL)
theorem fwg_sld {c : Nat} {j : Int32} (h1 : ¬ c < 1000) (hc : c - 1000 < fwNs) (hin : vp_in j (fwSl.getD (c - 1000) 0)) (hd : decode M.2.1 pc = .ok (.baload, 1)) (k : fwG l Z M d mc ms Post nc ns (pc + 1) ls (.int ((fwSb.getD (c - 1000) []).getD j.toNatClampNeg 0) :: r) sh σ) : fwG l Z M d mc ms Post nc ns pc ls (.int j :: .retAddr c :: r) sh σ := by
  intro p e s m args below meth cc H locs Ls hE hO hS hL
  have hT := (hE.2.2.2.2.2.2.2.2.2.1.1.1 (c - 1000) hc).2.2.2
  have h2 : c - 1000 + 1000 = c := by omega
  dsimp only at hT
  rw [h2] at hT
  exact va_tb hE.1 hE.2.1 hT hS hin rfl hd (k p e s m args below meth cc H locs Ls hE hO hS hL)
theorem fwg_getQ (hw : Cond.fieldLink M.1.cls idx "jdk/internal/util/Preconditions" "SIOOBE_FORMATTER" "Ljava/util/function/BiFunction;" ∈ fwT) (hd : decode M.2.1 pc = .ok (.getstatic idx, 3)) (k : fwG l Z M d mc ms Post nc ns (pc + 3) ls (fwSv Z :: st) sh σ) : fwG l Z M d mc ms Post nc ns pc ls st sh σ := by
  intro p e s m args below meth cc H locs Ls hE hO hS hL
  exact va_gets hE.1 hE.2.1 hE.2.2.2.2.2.2.2.2.2.1.2.2.2.2.2.1 hS hE.2.2.2.2.1 (hE.2.2.2.2.2.1 _ (List.mem_cons_of_mem _ hw)) (fun x h => h) hd (k p e s m args below meth cc H locs Ls hE hO hS hL)
theorem fwg_scrLen (hd : decode M.2.1 pc = .ok (.arraylength, 1)) (k : fwG l Z M d mc ms Post nc ns (pc + 1) ls (.int (nI (Z.2.2.2.2 6001)) :: r) sh σ) : fwG l Z M d mc ms Post nc ns pc ls (.retAddr 6000 :: r) sh σ := by
  intro p e s m args below meth cc H locs Ls hE hO hS hL
  have hT := hE.2.2.2.2.2.2.2.2.2.1.2.2.2.2.2.2
  exact va_tlen hE.1 hE.2.1 hT hS rfl hd (k p e s m args below meth cc H locs Ls hE hO hS hL)
theorem fwg_scrGet {j : Int32} (hin : vp_in j (Z.2.2.2.2 6001)) (hd : decode M.2.1 pc = .ok (.iaload, 1)) (k : fwG l Z M d mc ms Post nc ns (pc + 1) ls (.int (fwSc Z j.toNatClampNeg) :: r) sh σ) : fwG l Z M d mc ms Post nc ns pc ls (.int j :: .retAddr 6000 :: r) sh σ := by
  intro p e s m args below meth cc H locs Ls hE hO hS hL
  have hT := hE.2.2.2.2.2.2.2.2.2.1.2.2.2.2.2.2
  exact va_ti hE.1 hE.2.1 hT hS hin rfl hd (k p e s m args below meth cc H locs Ls hE hO hS hL)
end FWP
