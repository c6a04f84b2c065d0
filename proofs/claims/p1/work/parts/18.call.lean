/-! calls, by contract -/
theorem fwGood {M M' : fwM} (h : Cond.code M'.1 M'.2.1 M'.2.2.1 M'.2.2.2 ∈ fwT) {ws : List Cond} (hw : ∀ w ∈ ws, w ∈ fwT) : GoodIn (fwWs M) (ws ++ fwWs M') := by
  have key : ∀ w, w ∈ fwT → w ∈ fwWs M ∧ ((w.onTables && w.keeps) = true ∨ ∃ ty, w = .arrayClass ty) := fun w hw => ⟨List.mem_cons_of_mem _ hw, good_of_word (List.mem_filter.mp hw).2⟩
  intro w hm
  rcases List.mem_append.mp hm with h1 | h1
  · exact key w (hw w h1)
  · rcases List.mem_cons.mp h1 with h2 | h2
    · rw [h2]; exact key _ h
    · exact key w h2
theorem fwSum (Z : fwZ) (r : List Value) : ((r.map (fwV Z)).map fun v => v.category).sum = (r.map fun v => v.category).sum := by
  rw [List.map_map]
  congr 1
  apply List.map_congr_left
  intro v _
  exact fwV_cat Z v
section FWC
variable {l : Launch} {Z : fwZ} {M M' : fwM} {d mc ms d' mc' ms' : Nat} {Post Post' : fwPost} {nc ns pc : Nat} {ls : List (Option Value)} {st r : List Value} {sh : List fwE} {σ : fwS} {as : List Value} {idx : Nat}
/-- behind a call -/
theorem fw_after {p : Program} {e : Env} {R : Room} {s : State} {m : MethodId} {args : Array Value} {below : List Frame} {meth : Method} {c : Code} {H : Heap} {locs : List Loc} {Q : State → Prop} {Ls : Array Slot} {st0 : List Value} {a : Array Value}
    (hr : va_Run p l e R s m args below meth c H locs nc ns mc' ms' (F0 m pc Ls st0) (r.map (fwV Z)) (fwQ Z Post' a) (fwAq Z)) (hS : va_S (fwAq Z) s.heap H locs)
    (k : ∀ (v : Option Value) (sh' : List fwE) (σ' : fwS) (H1 : Heap) (locs1 : List Loc), Post' v sh' σ' → fwOk Z sh' σ' H1 → va_S (fwAq Z) s.heap H1 locs1 → W p l e R s m args below meth c H1 locs1 (nc + mc') (ns + ms') Q (F0 m (pc + 3) Ls ((v.toList ++ r).map (fwV Z)))) : W p l e R s m args below meth c H locs nc ns Q (F0 m pc Ls st0) := by
  intro T hT X
  obtain ⟨v, st₀, t, T', L, h0, X', hL, e1, e2, ⟨⟨v0, sh', σ', hv, hp, hO⟩, hz, hk⟩, go⟩ := hr T hT X
  cases hv
  rw [h0] at hz hk
  have hS' : va_S (fwAq Z) s.heap T'.heap (locs ++ L) := ⟨Nat.le_trans hS.1 (by rw [e1]; exact hz), fun q h1 h2 => by rw [e1, hk q (Nat.lt_of_lt_of_le h1 hS.1) h2]; exact hS.2.1 q h1 h2, fun q hq => by
    rcases List.mem_append.mp hq with h | h
    · exact hS.2.2 q h
    · exact hL q h⟩
  obtain ⟨t2, a1, b1⟩ := k v0 sh' σ' T'.heap (locs ++ L) hp (by rw [e1]; exact hO) hS' T' rfl X'
  refine ⟨t2, go t2 ?_, b1⟩
  have : (v0.toList ++ r).map (fwV Z) = (v0.map (fwV Z)).toList ++ r.map (fwV Z) := by cases v0 <;> simp
  rw [this] at a1
  exact a1
/-- the world as the callee finds it -/
theorem fw_pre {p : Program} {s : State} {m : MethodId} {args : Array Value} {meth : Method} {c : Code} {H : Heap} {locs : List Loc} (hE : fwEnv Z M p s m args meth c) (hO : fwOk Z sh σ H) (hS : va_S (fwAq Z) s.heap H locs) (U : State) (hU : U.heap = H) (hW : s.WarmedH U.vm) : fwOk Z sh σ U.heap ∧ va_K Z.D fwCl (fwTys Z) U ∧ fwCn Z U U.heap := by
  refine ⟨by rw [hU]; exact hO, va_K.moved hW.alike hE.2.2.2.2.2.2.2.1, ?_⟩
  rw [hU]
  exact hE.2.2.2.2.2.2.2.2.2.1.to hW hS.2.1
theorem fw_blind : FrameBlind (va_Pc (as.map (fwV Z)) (fun U => fwOk Z sh σ U.heap ∧ va_K Z.D fwCl (fwTys Z) U ∧ fwCn Z U U.heap)) := by
  intro a U g mk ⟨h1, h2, h3, h4⟩
  exact ⟨h1, h2, va_K.moved (u := U) (U := U.calling g mk a) (Vm.Alike.refl U.vm) h3, ⟨h4.1.moved (Vm.Alike.refl U.vm), fun q hq => (h4.2.1 q hq).same (u := U) rfl, fun q hq => ⟨(h4.2.2.1 q hq).1.moved (Vm.Alike.refl U.vm), (h4.2.2.1 q hq).2.moved (Vm.Alike.refl U.vm)⟩, fun q hq => va_Nw.same (u := U) rfl rfl (h4.2.2.2.1 q hq), fun q hq => (h4.2.2.2.2.1 q hq).moved (Vm.Alike.refl U.vm), h4.2.2.2.2.2.1.moved (Vm.Alike.refl U.vm), va_T.moved (Vm.Alike.refl U.vm) h4.2.2.2.2.2.2⟩⟩
/-- what a program checks of a callee: its class's name is plain, its parameters -/
def fwOkM (M' : fwM) (n : Nat) : Prop := M'.1.cls ≠ "java/lang/invoke/MethodHandle" ∧ M'.1.cls ≠ "java/lang/invoke/VarHandle" ∧ (parseMethodDescriptor M'.1.desc).map (fun d => d.parameters.length) = some n
theorem fwg_callS {n : Nat} (hC : fwC l Z M' d' mc' ms' as sh σ Post') (hM : fwOkM M' n) (hcode : Cond.code M'.1 M'.2.1 M'.2.2.1 M'.2.2.2 ∈ fwT) (hw : ∀ w ∈ ([.methodLink M.1.cls idx M'.1, .static M'.1, .initialized M'.1.cls] : List Cond), w ∈ fwT) (hn : as.length = n) (hst : st = as.reverse ++ r) (hcat : (r.map fun v => v.category).sum ≤ 8) (hd : decode M.2.1 pc = .ok (.invokestatic idx, 3)) (hR : d' + 1 ≤ d ∧ M'.2.2.1 ≤ 45) (hf : nc + mc' ≤ mc ∧ ns + ms' ≤ ms)
    (k : ∀ v sh' σ', Post' v sh' σ' → fwG l Z M d mc ms Post (nc + mc') (ns + ms') (pc + 3) ls (v.toList ++ r) sh' σ') : fwG l Z M d mc ms Post nc ns pc ls st sh σ := by
  intro p e s m args below meth c H locs Ls hE hO hS hL
  obtain ⟨hx, hb, -, hml, hown, hts, -⟩ := id hE
  subst hst
  refine fw_after (va_runS (Ts := fwWs M) (own := M.1.cls) (As := as.map (fwV Z)) (rest := r.map (fwV Z)) (nL := M.2.2.1) ⟨hx, hb, hml, hown, hts⟩ hC (va_cwS n hts (fwGood hcode hw) rfl rfl rfl hM ⟨hR.1, by show 8 + (M'.2.2.1 + 11) + 64 * d' ≤ 64 * d; omega⟩) ⟨fw_blind, fun U hU hW => ⟨rfl, fw_pre hE hO hS U hU hW⟩⟩ rfl (by rw [List.length_map]; exact hn) hL.1.1 (by rw [List.map_append, List.map_reverse]) (lv_room (by rw [fwSum]; exact hcat)) hd hf) hS ?_
  exact fun v sh' σ' H1 locs1 hp hO1 hS1 => k v sh' σ' hp p e s m args below meth c H1 locs1 Ls hE hO1 hS1 hL
theorem fwg_callV {n i ci : Nat} {ts : List Value} (hC : fwC l Z M' d' mc' ms' (.ref i :: as) sh σ Post') (hM : fwOkM M' n) (hcode : Cond.code M'.1 M'.2.1 M'.2.2.1 M'.2.2.2 ∈ fwT) (hw : ∀ w ∈ ([.methodLink M.1.cls idx M'.1, .instanceMethod M'.1, .selects M'.1.cls M'.1 M'.1, .initialized M'.1.cls] : List Cond), w ∈ fwT) (hs : sh[i]? = some (.inr (ci, ts))) (hcl : (fwCl[ci]?).map (fun q => q.1) = some M'.1.cls) (hn : as.length = n) (hst : st = as.reverse ++ .ref i :: r) (hcat : (r.map fun v => v.category).sum ≤ 8) (hd : decode M.2.1 pc = .ok (.invokevirtual idx, 3)) (hR : d' + 1 ≤ d ∧ M'.2.2.1 ≤ 45) (hf : nc + mc' ≤ mc ∧ ns + ms' ≤ ms)
    (k : ∀ v sh' σ', Post' v sh' σ' → fwG l Z M d mc ms Post (nc + mc') (ns + ms') (pc + 3) ls (v.toList ++ r) sh' σ') : fwG l Z M d mc ms Post nc ns pc ls st sh σ := by
  intro p e s m args below meth c H locs Ls hE hO hS hL
  obtain ⟨hx, hb, -, hml, hown, hts, -, hK, -⟩ := id hE
  subst hst
  obtain ⟨q, hq, hq1⟩ := Option.map_eq_some_iff.mp hcl
  have hrecv := va_recv hK hO.1 hq (fwW_at hs)
  rw [hq1] at hrecv
  refine fw_after (va_runV (Ts := fwWs M) (own := M.1.cls) (As := as.map (fwV Z)) (rest := r.map (fwV Z)) (nL := M.2.2.1) ⟨hx, hb, hml, hown, hts⟩ hC (cwV n hts (fwGood hcode hw) rfl rfl rfl ⟨rfl, hM⟩ ⟨hR.1, by show 8 + (M'.2.2.1 + 11) + 64 * d' ≤ 64 * d; omega⟩) ⟨fw_blind, hrecv, fun U hU hW => ⟨rfl, fw_pre hE hO hS U hU hW⟩⟩ rfl (by rw [List.length_map]; exact hn) hL.1.1 (by rw [List.map_append, List.map_reverse]; rfl) (lv_room (by rw [fwSum]; exact hcat)) hd hf) hS ?_
  exact fun v sh' σ' H1 locs1 hp hO1 hS1 => k v sh' σ' hp p e s m args below meth c H1 locs1 Ls hE hO1 hS1 hL
/-- a method of a text -/
theorem fwg_callK {n i : Nat} (hC : fwC l Z M' d' mc' ms' (.retAddr i :: as) sh σ Post') (hM : fwOkM M' n) (hcls : M'.1.cls = "java/lang/String") (hcode : Cond.code M'.1 M'.2.1 M'.2.2.1 M'.2.2.2 ∈ fwT) (hw : ∀ w ∈ ([.methodLink M.1.cls idx M'.1, .instanceMethod M'.1, .selects M'.1.cls M'.1 M'.1, .initialized M'.1.cls] : List Cond), w ∈ fwT) (hi : i < fwNs) (hn : as.length = n) (hst : st = as.reverse ++ .retAddr i :: r) (hcat : (r.map fun v => v.category).sum ≤ 8) (hd : decode M.2.1 pc = .ok (.invokevirtual idx, 3)) (hR : d' + 1 ≤ d ∧ M'.2.2.1 ≤ 45) (hf : nc + mc' ≤ mc ∧ ns + ms' ≤ ms)
    (k : ∀ v sh' σ', Post' v sh' σ' → fwG l Z M d mc ms Post (nc + mc') (ns + ms') (pc + 3) ls (v.toList ++ r) sh' σ') : fwG l Z M d mc ms Post nc ns pc ls st sh σ := by
  intro p e s m args below meth c H locs Ls hE hO hS hL
  obtain ⟨hx, hb, -, hml, hown, hts, -, hK, -⟩ := id hE
  subst hst
  have hrecv := vk_recv hE.2.2.2.2.2.2.2.2.2.1.1 hi hS
  rw [← hcls] at hrecv
  refine fw_after (va_runV (Ts := fwWs M) (own := M.1.cls) (As := as.map (fwV Z)) (rest := r.map (fwV Z)) (nL := M.2.2.1) ⟨hx, hb, hml, hown, hts⟩ hC (cwV n hts (fwGood hcode hw) rfl rfl rfl ⟨rfl, hM⟩ ⟨hR.1, by show 8 + (M'.2.2.1 + 11) + 64 * d' ≤ 64 * d; omega⟩) ⟨fw_blind, hrecv, fun U hU hW => ⟨rfl, fw_pre hE hO hS U hU hW⟩⟩ rfl (by rw [List.length_map]; exact hn) hL.1.1 (by rw [List.map_append, List.map_reverse]; rfl) (lv_room (by rw [fwSum]; exact hcat)) hd hf) hS ?_
  exact fun v sh' σ' H1 locs1 hp hO1 hS1 => k v sh' σ' hp p e s m args below meth c H1 locs1 Ls hE hO1 hS1 hL
theorem fwg_callI {n i : Nat} (hC : fwC l Z M' d' mc' ms' (.ref i :: as) sh σ Post') (hM : fwOkM M' n) (hname : M'.1.name = "<init>") (hret : M'.2.2.2 = none) (hcode : Cond.code M'.1 M'.2.1 M'.2.2.1 M'.2.2.2 ∈ fwT) (hw : ∀ w ∈ ([.methodLink M.1.cls idx M'.1, .instanceMethod M'.1, .initialized M'.1.cls] : List Cond), w ∈ fwT) (hn : as.length = n) (hst : st = as.reverse ++ .ref i :: r) (hcat : (r.map fun v => v.category).sum ≤ 8) (hd : decode M.2.1 pc = .ok (.invokespecial idx, 3)) (hR : d' + 1 ≤ d ∧ M'.2.2.1 ≤ 45) (hf : nc + mc' ≤ mc ∧ ns + ms' ≤ ms)
    (k : ∀ v sh' σ', Post' v sh' σ' → fwG l Z M d mc ms Post (nc + mc') (ns + ms') (pc + 3) ls (v.toList ++ r) sh' σ') : fwG l Z M d mc ms Post nc ns pc ls st sh σ := by
  intro p e s m args below meth c H locs Ls hE hO hS hL
  obtain ⟨hx, hb, -, hml, hown, hts, -, hK, -⟩ := id hE
  subst hst
  have hg : GoodIn (fwWs M) (fwWs M') := fwGood (ws := []) hcode (fun w h => by cases h)
  have hin : ∀ w ∈ ([.methodLink M.1.cls idx M'.1, .instanceMethod M'.1, .initialized M'.1.cls] : List Cond), w.before args s = true := fun w h => hts w (List.mem_cons_of_mem _ (hw w h))
  refine fw_after (va_runI (Ts := fwWs M) (own := M.1.cls) (As := as.map (fwV Z)) (rest := r.map (fwV Z)) (nL := M.2.2.1) (b := Z.B + i) ⟨hx, hb, hml, hown, hts⟩ hC (cwI n hts hg (by unfold fwWs; rw [hret]) rfl rfl (hin _ (by simp)) (hin _ (by simp)) (hin _ (by simp)) hname hM ⟨hR.1, by show 8 + (M'.2.2.1 + 11) + 64 * d' ≤ 64 * d; omega⟩) ⟨fw_blind, fun U hU hW => ⟨rfl, fw_pre hE hO hS U hU hW⟩⟩ rfl (by rw [List.length_map]; exact hn) hL.1.1 (by rw [List.map_append, List.map_reverse]; rfl) (lv_room (by rw [fwSum]; exact hcat)) hd hf) hS ?_
  exact fun v sh' σ' H1 locs1 hp hO1 hS1 => k v sh' σ' hp p e s m args below meth c H1 locs1 Ls hE hO1 hS1 hL
end FWC
