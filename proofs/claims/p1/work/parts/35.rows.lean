/-! rows that name the new shape -/
section FWX
variable {l : Launch} {Z : fwZ} {M : fwM} {d mc ms : Nat} {Post : fwPost} {nc ns pc : Nat} {ls : List (Option Value)} {st r : List Value} {sh : List fwE} {σ : fwS} {idx : Nat}
theorem fwg_newa' {atype : ArrayType} {x : Int32} (N i : Nat) (sh2 : List fwE) (ht : newarray.typeOf atype ∈ fwAT) (hw : Cond.arrayClass (newarray.typeOf atype) ∈ fwT) (hd : decode M.2.1 pc = .ok (.newarray atype, 2)) (hx0 : ¬ x < 0) (hN : x.toNatClampNeg = N) (hbytes : N * componentBytes (newarray.typeOf atype) ≤ 536870912) (hc : nc + 1 ≤ mc) (hs : ns + N ≤ ms) (hi : sh.length = i) (h2 : sh ++ [.inl (newarray.typeOf atype, N)] = sh2) (k : fwG l Z M d mc ms Post (nc + 1) (ns + N) (pc + 2) ls (.ref i :: r) sh2 (fwZero σ i)) : fwG l Z M d mc ms Post nc ns pc ls (.int x :: r) sh σ := by
  subst hi; subst h2
  exact fwg_newa ht hw hd hx0 hN hbytes hc hs k
theorem fwg_new' {q : vw_C} (ci i : Nat) (sh2 : List fwE) (hq : fwCl[ci]? = some q) (hw : ∀ w ∈ ([.classLink M.1.cls idx q.1, .instantiable q.1 q.2.2, .initialized q.1] : List Cond), w ∈ fwT) (hd : decode M.2.1 pc = .ok (.new idx, 3)) (hc : nc + 1 ≤ mc) (hs : ns + q.2.2 ≤ ms) (hi : sh.length = i) (h2 : sh ++ [.inr (ci, fwTmpl ci)] = sh2) (k : fwG l Z M d mc ms Post (nc + 1) (ns + q.2.2) (pc + 3) ls (.ref i :: st) sh2 (fwZero σ i)) : fwG l Z M d mc ms Post nc ns pc ls st sh σ := by
  subst hi; subst h2
  exact fwg_new hq hw hd hc hs k
theorem fwg_putR' {i ci kk : Nat} {ts : List Value} {v : Value} (sh2 : List fwE) (hs : sh[i]? = some (.inr (ci, ts))) (hk : kk < ts.length) (hv : (∃ j, v = .ref j) ∨ ∃ j, v = .retAddr j) (hm : (M.1.cls, idx, ci, kk) ∈ fwFl) (hcl : (fwCl.getD ci fwC_0).1 = M.1.cls) (hfin : ((fwCl.getD ci fwC_0).2.1 kk).2.2.2 = true) (hty : ∀ a : Nat, fits (fwTyOf ci kk) (.ref a) = true ∧ narrow (fwTyOf ci kk) (.ref a) = .ref a) (hname : M.1.name = "<init>") (hd : decode M.2.1 pc = .ok (.putfield idx, 3)) (h2 : sh.set i (.inr (ci, ts.set kk v)) = sh2) (k : fwG l Z M d mc ms Post nc ns (pc + 3) ls r sh2 σ) : fwG l Z M d mc ms Post nc ns pc ls (v :: .ref i :: r) sh σ := by
  subst h2
  exact fwg_putR hs hk hv hm hcl hfin hty hname hd k
end FWX
theorem fwSame_0 {S : List Nat} {σ : fwS} {i : Nat} (h : i ∈ S) : fwSame S σ (fwZero σ i) := fun a ha => ⟨funext fun b => if_neg (fun q : a = i => ha (by rw [q]; exact h)), funext fun b => if_neg (fun q : a = i => ha (by rw [q]; exact h))⟩
theorem fwZ_ne {σ : fwS} {i a b : Nat} (h : a ≠ i) : (fwZero σ i).1 a b = σ.1 a b := if_neg h
theorem fwZ_ne2 {σ : fwS} {i a b : Nat} (h : a ≠ i) : (fwZero σ i).2 a b = σ.2 a b := if_neg h
theorem fwZ_eq {σ : fwS} {i b : Nat} : (fwZero σ i).1 i b = 0 := if_pos rfl
theorem fwZ_eq2 {σ : fwS} {i b : Nat} : (fwZero σ i).2 i b = 0 := if_pos rfl
