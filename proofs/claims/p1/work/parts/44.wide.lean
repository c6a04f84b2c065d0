/-! constants at wide indices -/
theorem fw_ldcwString {p : Program} {l : Launch} {e : Env} {R : Room} {s : State} {m : MethodId} {args : Array Value} {below : List Frame} {meth : Method} {c : Code} {T : State} {locs : List Loc} {cells slots : Nat}
    (X : Stand p l e R s m args below meth c T locs cells slots) (hexec : p.tables.exec = Jvm.exec) {own text : String} {index a : Nat} (hown : s.vm.findClass own = some m.cls)
    (hconst : (Cond.stringRef own index text).before args s = true) (hev : (Term.string own index).eval args s none [] s = some (.ref a)) {g : JFrame} (hg : g.method = m) (hdg : decode c.code g.pc = .ok (.ldc_w index, 3)) :
    ∀ target, Steps p.tables e below (T.setTop { g with pc := g.pc + 3, stack := .ref a :: g.stack }) target → Steps p.tables e below (T.setTop g) target := by
  obtain ⟨k, cf, i, b, hk, hcf, hcp, -, hr, hev'⟩ := Cond.stringRef_spec hown hconst
  cases hev.symm.trans hev'
  obtain ⟨k', hk', he⟩ := X.warmed.alike.2.2 _ _ hk
  have hr' : k'.resolved[index]? = some (some (.string a)) := by
    rcases X.warmed.entry hk hk' index with h | ⟨h, -⟩
    · rw [h]; exact hr
    · rw [hr] at h; cases h
  intro target hrest
  subst hg
  jvm_step X.here [hexec, hdg, ldc_w.wp_string (e := e) (s := T) (f := g) X.here.top hk' (by rw [he]; exact hcf) hcp hr']
  exact hrest
section WID
variable {l : Launch} {Z : fwZ} {M : fwM} {d mc ms : Nat} {Post : fwPost} {nc ns pc : Nat} {ls : List (Option Value)} {st r : List Value} {sh : List fwE} {σ : fwS}
theorem fwg_ldcw {i : Nat} {v : Int32} (hm : (M.1.cls, i, v) ∈ fwKc) (hd : decode M.2.1 pc = .ok (.ldc_w i, 3)) (k : fwG l Z M d mc ms Post nc ns (pc + 3) ls (.int v :: st) sh σ) : fwG l Z M d mc ms Post nc ns pc ls st sh σ := by
  intro p e s m args below meth c H locs Ls hE hO hS hL
  exact lv_ldcw hE.1 hE.2.1 hE.2.2.2.2.1 (hE.2.2.2.2.2.1 _ (List.mem_cons_of_mem _ (fwKc_in _ (List.mem_map.mpr ⟨_, hm, rfl⟩)))) hd (k p e s m args below meth c H locs Ls hE hO hS hL)
theorem fwg_ldcwS {q : String × Nat × String × Nat} (ho : M.1.cls = q.1) (hm : q ∈ fwSr) (hd : decode M.2.1 pc = .ok (.ldc_w q.2.1, 3)) (k : fwG l Z M d mc ms Post nc ns (pc + 3) ls (.retAddr q.2.2.2 :: st) sh σ) : fwG l Z M d mc ms Post nc ns pc ls st sh σ := by
  intro p e s m args below meth c H locs Ls hE hO hS hL
  have hown : s.vm.findClass q.1 = some m.cls := by rw [← ho]; exact hE.2.2.2.2.1
  have hZ := hE.2.2.2.2.2.2.2.2.2.1.2.1 q hm
  intro T hT X
  obtain ⟨t, a1, b1⟩ := k p e s m args below meth c H locs Ls hE hO hS hL T hT X
  exact ⟨t, fw_ldcwString X hE.1 hown hZ.1 hZ.2 (g := F0 m pc Ls (st.map (fwV Z))) rfl (by rw [hE.2.1]; exact hd) t a1, b1⟩
end WID
