/-! texts and tables in the heap; the judgement; entry and ends -/
/-- a static of the JDK's of which only 'a reference or null' is known -/
def fwSv (Z : fwZ) : Value := if Z.2.2.2.2 5001 = 0 then .null else .retAddr 5000
/-- the script: its elements, its array -/
def fwSc (Z : fwZ) (j : Nat) : Int32 := Int32.ofNat (Z.2.2.2.2 (7000 + j))
def fwScr (Z : fwZ) (U : State) (H : Heap) : Prop := va_T .int (Z.2.2.2.2 6000) (Z.2.2.2.2 6001) (fun j => .int (fwSc Z j)) (fwAq Z) U H
def fwCn (Z : fwZ) (U : State) (H : Heap) : Prop := vk_S fwNs fwSl fwSb Z.2.2.2.2 (fun i => Z.2.2.2.2 (i + 1000)) (fwAq Z) U H ∧ (∀ q ∈ fwSr, vk_R q.1 q.2.1 q.2.2.1 (Z.2.2.2.2 q.2.2.2) U) ∧ (∀ q ∈ fwTb, va_Z q.1 q.2.1 "[I" (.ref (Z.2.2.2.2 q.2.2.1)) (fwAq Z) U H ∧ va_T .int (Z.2.2.2.2 q.2.2.1) q.2.2.2.length (fun j => .int (q.2.2.2.getD j 0)) (fwAq Z) U H) ∧ (∀ q ∈ fwNl, va_Nw (.methodLinkNest q.1 q.2.1 q.2.2.1 q.2.2.2) U) ∧ (∀ q ∈ fwSi, va_Z q.1 q.2.1 q.2.2.1 (.int q.2.2.2) (fwAq Z) U H) ∧ va_Z "jdk/internal/util/Preconditions" "SIOOBE_FORMATTER" "Ljava/util/function/BiFunction;" (fwV Z (fwSv Z)) (fwAq Z) U H ∧ fwScr Z U H
theorem fwCn.to {Z : fwZ} {s U : State} {H : Heap} (h : fwCn Z s s.heap) (hW : s.WarmedH U.vm) (hq : ∀ a : Nat, a < s.heap.size → ¬ fwAq Z a → H[a]? = s.heap[a]?) : fwCn Z U H := by
  obtain ⟨h1, h2, h3, h4, h5, h6, h7⟩ := h
  refine ⟨(h1.moved hW.alike).kept hq, fun q hq => (h2 q hq).warm hW, fun q hm => ⟨((h3 q hm).1.moved hW.alike).kept hq, ((h3 q hm).2.moved hW.alike).kept hq⟩, fun q hm => va_Nw.warmM hW (h4 q hm), fun q hm => ((h5 q hm).moved hW.alike).kept hq, (h6.moved hW.alike).kept hq, (va_T.moved hW.alike h7).kept hq⟩
/-- what stays through a method: the machine, its code, the tables' words, the classes, texts and tables -/
def fwEnv (Z : fwZ) (M : fwM) (p : Program) (s : State) (m : MethodId) (args : Array Value) (meth : Method) (c : Code) : Prop :=
  p.tables.exec = Jvm.exec ∧ c.code = M.2.1 ∧ meth.sig.returnType = M.2.2.2 ∧ c.maxLocals = M.2.2.1 ∧ s.vm.findClass M.1.cls = some m.cls ∧ (∀ w ∈ fwWs M, w.before args s = true) ∧ meth.locks = false ∧ va_K Z.D fwCl (fwTys Z) s ∧ Z.2.2.2.1 ≤ s.heap.size ∧ fwCn Z s s.heap ∧ meth.name = M.1.name
abbrev fwPost : Type := Option Value → List fwE → fwS → Prop
def fwQ (Z : fwZ) (Post : fwPost) : Array Value → State → Outcome → State → Prop := fun _ st o t => (∃ (v : Option Value) (sh : List fwE) (σ : fwS), o = .returned (v.map (fwV Z)) ∧ Post v sh σ ∧ fwOk Z sh σ t.heap) ∧ va_F (fwAq Z) st t
def fwG (l : Launch) (Z : fwZ) (M : fwM) (d mc ms : Nat) (Post : fwPost) (nc ns pc : Nat) (ls : List (Option Value)) (st : List Value) (sh : List fwE) (σ : fwS) : Prop :=
  ∀ (p : Program) (e : Env) (s : State) (m : MethodId) (args : Array Value) (below : List Frame) (meth : Method) (c : Code) (H : Heap) (locs : List Loc) (Ls : Array Slot), fwEnv Z M p s m args meth c → fwOk Z sh σ H → va_S (fwAq Z) s.heap H locs → fwLv Z Ls M.2.2.1 ls → W p l e (headSpec (fwWs M) (fwRm d mc ms)).room s m args below meth c H locs nc ns (MQ below (fwQ Z Post) args s mc ms (fwAq Z)) (F0 m pc Ls (st.map (fwV Z)))
/-- a method's contract -/
def fwC (l : Launch) (Z : fwZ) (M : fwM) (d mc ms : Nat) (as : List Value) (sh : List fwE) (σ : fwS) (Post : fwPost) : Prop :=
  Met l M.1 (fwWs M) (fwRm d mc ms) (va_Pc (as.map (fwV Z)) (fun U => fwOk Z sh σ U.heap ∧ va_K Z.D fwCl (fwTys Z) U ∧ fwCn Z U U.heap)) (fwQ Z Post) mc ms (fwAq Z)
/-- the locals at a method's entry -/
def fwIni (nL : Nat) (as : List Value) : List (Option Value) := (List.range nL).map (fun i => (lv_args 0 as).lookup i)
theorem fw_lookup {α : Type} {i : Nat} {v : α} : ∀ {l : List (Nat × α)}, l.lookup i = some v → (i, v) ∈ l := by
  intro l
  induction l with
  | nil => intro h; cases h
  | cons q l ih =>
    intro h
    obtain ⟨j, w⟩ := q
    rw [List.lookup_cons] at h
    by_cases hj : i = j
    · subst hj
      simp at h
      subst h
      exact List.mem_cons_self
    · have hb : (i == j) = false := by simpa using hj
      rw [hb] at h
      exact List.mem_cons_of_mem _ (ih h)
theorem fw_args (Z : fwZ) : ∀ (as : List Value) (i : Nat), lv_args i (as.map (fwV Z)) = (lv_args i as).map (fun q => (q.1, fwV Z q.2)) := by
  intro as
  induction as with
  | nil => intro i; rfl
  | cons v as ih =>
    intro i
    show (i, fwV Z v) :: lv_args (if (fwV Z v).category = 2 then i + 2 else i + 1) (as.map (fwV Z)) = _
    rw [fwV_cat, ih]
    rfl
theorem fwC_of {l : Launch} {Z : fwZ} {M : fwM} {d mc ms : Nat} {as : List Value} {sh : List fwE} {σ : fwS} {Post : fwPost} {ls : List (Option Value)} (hy : plainFor M.1 = true) (hl : fwIni M.2.2.1 as = ls) (hn : (lg_sl (as.map (fwV Z))).length ≤ M.2.2.1)
    (h : fwG l Z M d mc ms Post 0 0 0 ls [] sh σ) : fwC l Z M d mc ms as sh σ Post := by
  refine va_MetF (cc := M.2.1) (maxL := M.2.2.1) (ret := M.2.2.2) hy rfl ?_
  intro p e s m args below meth c s₁ B hml hv
  obtain ⟨rfl, hO, hK, hC⟩ := hv
  have hE := lv_entry (as.map (fwV Z)) (n := M.2.2.1) hn
  rw [lg_entry_eq]
  refine h p e s m _ below meth c s.heap [] _ ⟨B.exec, B.bytes, B.returns, hml, findClass_of_methodNamed B.named, atoms_spec (ws := fwWs M) B.pre, B.notSynchronized, hK, by rw [hO.2.1]; omega, hC, (name_of_methodNamed B.named B.method).1⟩ hO va_S.rf ⟨⟨hE.1, hE.2.1, fun q hq => by cases hq⟩, by rw [← hl]; simp [fwIni], fun i v hi => ?_⟩
  rw [← hl] at hi
  unfold fwIni at hi
  rw [List.getElem?_map] at hi
  cases hr : (List.range M.2.2.1)[i]? with
  | none => rw [hr] at hi; cases hi
  | some j =>
    rw [hr] at hi
    have hj : j = i := by
      have := List.getElem?_eq_some_iff.mp hr
      obtain ⟨h1, h2⟩ := this
      simpa using h2.symm
    subst hj
    have h3 := fw_lookup (Option.some.inj hi)
    refine hE.2.2 (j, fwV Z v) ?_
    rw [fw_args]
    exact List.mem_map.mpr ⟨(j, v), h3, rfl⟩
section FWR
variable {l : Launch} {Z : fwZ} {M : fwM} {d mc ms : Nat} {Post : fwPost} {nc ns pc : Nat} {ls : List (Option Value)} {st : List Value} {sh : List fwE} {σ : fwS}
/-- an instruction that changes the frame's stack alone -/
theorem fwg_s {pc' : Nat} {st' : List Value} (h : ∀ {p : Program} {e : Env} {R : Room} {s : State} {m : MethodId} {args : Array Value} {below : List Frame} {meth : Method} {c : Code} {H : Heap} {locs : List Loc} {cells slots : Nat} {Q : State → Prop} {Ls : Array Slot}, p.tables.exec = Jvm.exec → c.code = M.2.1 → W p l e R s m args below meth c H locs cells slots Q (F0 m pc' Ls (st'.map (fwV Z))) → W p l e R s m args below meth c H locs cells slots Q (F0 m pc Ls (st.map (fwV Z)))) (k : fwG l Z M d mc ms Post nc ns pc' ls st' sh σ) : fwG l Z M d mc ms Post nc ns pc ls st sh σ :=
  fun p e s m args below meth c H locs Ls hE hO hS hL => h hE.1 hE.2.1 (k p e s m args below meth c H locs Ls hE hO hS hL)
/-- fewer locals told -/
theorem fwg_ls {ls' : List (Option Value)} (hn : ls'.length = ls.length) (h : ∀ (i : Nat) (v : Value), ls'[i]? = some (some v) → ls[i]? = some (some v)) (k : fwG l Z M d mc ms Post nc ns pc ls' st sh σ) : fwG l Z M d mc ms Post nc ns pc ls st sh σ :=
  fun p e s m args below meth c H locs Ls hE hO hS hL => k p e s m args below meth c H locs Ls hE hO hS ⟨hL.1, hn.trans hL.2.1, fun i v hv => hL.2.2 i v (h i v hv)⟩
theorem fwg_drop (i : Nat) (k : fwG l Z M d mc ms Post nc ns pc (ls.set i none) st sh σ) : fwG l Z M d mc ms Post nc ns pc ls st sh σ := by
  refine fwg_ls (by simp) (fun j v hv => ?_) k
  by_cases hj : j = i
  · subst hj
    by_cases hl : j < ls.length
    · rw [List.getElem?_set_self hl] at hv
      cases hv
    · rw [List.getElem?_eq_none (by rw [List.length_set]; omega)] at hv
      cases hv
  · rwa [List.getElem?_set_ne (Ne.symm hj)] at hv
theorem fwg_iret {x : Int32} (hr : M.2.2.2 = some .int) (hc : nc ≤ mc) (hs : ns ≤ ms) (hp : Post (some (.int x)) sh σ) (hd : decode M.2.1 pc = .ok (.ireturn, 1)) : fwG l Z M d mc ms Post nc ns pc ls [.int x] sh σ := by
  intro p e s m args below meth c H locs Ls hE hO hS hL
  obtain ⟨hx, hb, hrt, -, -, -, hlk, -⟩ := hE
  refine W.widen hc hs ?_
  exact W.iret hx hb (by rw [hrt, hr]) (fun t ht _ => ⟨⟨some (.int x), sh, σ, rfl, hp, by rw [ht]; exact hO⟩, hS.F ht⟩) (fun q hq => hS.2.2 q hq) hd
theorem fwg_zret {x : Int32} {ty : FieldType} (hr : M.2.2.2 = some ty) (hn : narrow ty (.int x) = .int x) (hc : nc ≤ mc) (hs : ns ≤ ms) (hp : Post (some (.int x)) sh σ) (hd : decode M.2.1 pc = .ok (.ireturn, 1)) : fwG l Z M d mc ms Post nc ns pc ls [.int x] sh σ := by
  intro p e s m args below meth c H locs Ls hE hO hS hL
  obtain ⟨hx, hb, hrt, -, -, -, hlk, -⟩ := hE
  refine W.widen hc hs ?_
  exact W.zret hx hb (by rw [hrt, hr]) hn (fun t ht _ => ⟨⟨some (.int x), sh, σ, rfl, hp, by rw [ht]; exact hO⟩, hS.F ht⟩) (fun q hq => hS.2.2 q hq) hd
theorem fwg_lret {x : Int64} (hr : M.2.2.2 = some .long) (hc : nc ≤ mc) (hs : ns ≤ ms) (hp : Post (some (.long x)) sh σ) (hd : decode M.2.1 pc = .ok (.lreturn, 1)) : fwG l Z M d mc ms Post nc ns pc ls [.long x] sh σ := by
  intro p e s m args below meth c H locs Ls hE hO hS hL
  obtain ⟨hx, hb, hrt, -, -, -, hlk, -⟩ := hE
  refine W.widen hc hs ?_
  exact W.lret hx hb (by rw [hrt, hr]) (fun t ht _ => ⟨⟨some (.long x), sh, σ, rfl, hp, by rw [ht]; exact hO⟩, hS.F ht⟩) (fun q hq => hS.2.2 q hq) hd
theorem fwg_vret (hr : M.2.2.2 = none) (hc : nc ≤ mc) (hs : ns ≤ ms) (hp : Post none sh σ) (hd : decode M.2.1 pc = .ok (.return_, 1)) : fwG l Z M d mc ms Post nc ns pc ls [] sh σ := by
  intro p e s m args below meth c H locs Ls hE hO hS hL
  obtain ⟨hx, hb, hrt, -, -, -, hlk, -⟩ := hE
  refine W.widen hc hs ?_
  exact W.vret hx hb (by rw [hrt, hr]) (fun t ht _ => ⟨⟨none, sh, σ, rfl, hp, by rw [ht]; exact hO⟩, hS.F ht⟩) (fun q hq => hS.2.2 q hq) hd
end FWR
