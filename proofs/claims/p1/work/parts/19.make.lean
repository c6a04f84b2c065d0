/-! making objects and arrays; references into final fields; Object's constructor -/
def fwZero (σ : fwS) (n : Nat) : fwS := (fun a b => if a = n then 0 else σ.1 a b, fun a b => if a = n then 0 else σ.2 a b)
def fwTm (t : FieldType) : Value := match t with
  | .long => .long 0 | .object _ => .null | .array _ => .null | .float => .float 0 | .double => .double 0 | _ => .int 0
def fwTmpl (ci : Nat) : List Value := (List.range (fwCl.getD ci fwC_0).2.2).map (fun k => fwTm (fwTyOf ci k))
theorem fwOk_push {Z : fwZ} {sh : List fwE} {σ : fwS} {H H1 : Heap} {e : fwE} (hO : fwOk Z sh σ H) (hx : va_at Z.D fwCl (Z.B + sh.length, fwX Z (fwZero σ sh.length) sh.length e) H1) (hz : H1.size = Z.2.2.2.1 + sh.length + 1) (oq : ∀ q : Nat, q < Z.2.2.2.1 + sh.length → H1[q]? = H[q]?) : fwOk Z (sh ++ [e]) (fwZero σ sh.length) H1 := by
  refine ⟨fun k q hk => ?_, by rw [hz, List.length_append]; rfl, fun i n hi j => ?_⟩
  · rw [fwW_get] at hk
    by_cases hl : k < sh.length
    · rw [List.getElem?_append_left hl] at hk
      cases h1 : sh[k]? with
      | none => rw [h1] at hk; cases hk
      | some e' =>
        rw [h1] at hk
        cases hk
        have h2 := hO.1 k (Z.B + k, fwX Z σ k e') (fwW_at h1)
        show va_at Z.D fwCl (Z.B + k, fwX Z (fwZero σ sh.length) k e') H1
        rw [fwX_congr (σ := σ) (fun b => if_neg (by omega)) (fun b => if_neg (by omega)) e']
        exact h2.kept (oq _ (by show Z.2.2.2.1 + k < _; omega))
    · by_cases hk2 : k = sh.length
      · subst hk2
        rw [List.getElem?_append_right (Nat.le_refl _), Nat.sub_self] at hk
        cases hk
        exact hx
      · rw [List.getElem?_eq_none (by rw [List.length_append]; simp; omega)] at hk
        cases hk
  · by_cases hl : i < sh.length
    · rw [List.getElem?_append_left hl] at hi
      show fits .byte (.int (if i = sh.length then 0 else σ.1 i j)) = true
      rw [if_neg (by omega)]
      exact hO.2.2 i n hi j
    · by_cases hk2 : i = sh.length
      · subst hk2
        show fits .byte (.int (if sh.length = sh.length then 0 else σ.1 sh.length j)) = true
        rw [if_pos rfl]
        rfl
      · rw [List.getElem?_eq_none (by rw [List.length_append]; simp; omega)] at hi
        cases hi
section FWN
variable {l : Launch} {Z : fwZ} {M M' : fwM} {d mc ms d' mc' ms' : Nat} {Post Post' : fwPost} {nc ns pc : Nat} {ls : List (Option Value)} {st r : List Value} {sh : List fwE} {σ : fwS} {idx : Nat} {as : List Value}
theorem fw_tmpl {ci n : Nat} {q : vw_C} (hq : fwCl[ci]? = some q) : ∀ j, j < q.2.2 → defaultValue (fwTyOf ci j) = vp_V ((fwTmpl ci).mapIdx (fun k v => fwFv Z (fwZero σ n) n k v)) j := by
  intro j hj
  have hg : fwCl.getD ci fwC_0 = q := by rw [List.getD_eq_getElem?_getD, hq]; rfl
  unfold vp_V fwTmpl
  rw [hg, List.getD_eq_getElem?_getD, List.getElem?_mapIdx, List.getElem?_map, List.getElem?_range hj]
  show _ = fwFv Z (fwZero σ n) n j (fwTm (fwTyOf ci j))
  have z1 : (fwZero σ n).1 n j = 0 := if_pos rfl
  have z2 : (fwZero σ n).2 n j = 0 := if_pos rfl
  cases fwTyOf ci j <;> simp [fwTm, fwFv, fwV, defaultValue, z1, z2]
theorem fwg_new {ci : Nat} {q : vw_C} (hq : fwCl[ci]? = some q) (hw : ∀ w ∈ ([.classLink M.1.cls idx q.1, .instantiable q.1 q.2.2, .initialized q.1] : List Cond), w ∈ fwT) (hd : decode M.2.1 pc = .ok (.new idx, 3)) (hc : nc + 1 ≤ mc) (hs : ns + q.2.2 ≤ ms) (k : fwG l Z M d mc ms Post (nc + 1) (ns + q.2.2) (pc + 3) ls (.ref sh.length :: st) (sh ++ [.inr (ci, fwTmpl ci)]) (fwZero σ sh.length)) : fwG l Z M d mc ms Post nc ns pc ls st sh σ := by
  intro p e s m args below meth c H locs Ls hE hO hS hL
  obtain ⟨hx, hb, -, hml, hown, hts, -, hK, -⟩ := id hE
  obtain ⟨hck1, hck2, hck3⟩ := fwCl_ok ci _ hq
  have hin : ∀ w ∈ u_ws q.1 q.2.1 q.2.2, w ∈ fwWs M := fun w hw => List.mem_cons_of_mem _ (hck1 w hw)
  have hKn := hK.1 ci _ hq
  have hw' : ∀ w ∈ ([.classLink M.1.cls idx q.1, .instantiable q.1 q.2.2, .initialized q.1] : List Cond), w.before args s = true := fun w h => hts w (List.mem_cons_of_mem _ (hw w h))
  refine W.newcK hx hb hown (hw' _ (by simp)) (hw' _ (by simp)) (hw' _ (by simp)) rfl hd hc hs hKn.2.1 hO.2.1 fun H1 kC hkC e1 z1 o1 => ?_
  have hh : Z.2.2.2.1 + sh.length ≤ Z.2.2.2.1 + sh.length := Nat.le_refl _
  refine k p e s m args below meth c H1 locs Ls hE (fwOk_push hO ⟨q, hq, (u_born (fwTyOf ci) hts hin hKn hkC e1 hck3).to (fw_tmpl hq)⟩ z1 o1) ⟨Nat.le_trans hS.1 (by rw [z1, hO.2.1]; omega), fun x h1 h2 => (o1 x (by have := hS.1; rw [hO.2.1] at this; omega)).trans (hS.2.1 x h1 h2), hS.2.2⟩ hL
theorem fwg_newa {atype : ArrayType} {x : Int32} {N : Nat} (ht : newarray.typeOf atype ∈ fwAT) (hw : Cond.arrayClass (newarray.typeOf atype) ∈ fwT) (hd : decode M.2.1 pc = .ok (.newarray atype, 2)) (hx0 : ¬ x < 0) (hN : x.toNatClampNeg = N) (hbytes : N * componentBytes (newarray.typeOf atype) ≤ 536870912) (hc : nc + 1 ≤ mc) (hs : ns + N ≤ ms) (k : fwG l Z M d mc ms Post (nc + 1) (ns + N) (pc + 2) ls (.ref sh.length :: r) (sh ++ [.inl (newarray.typeOf atype, N)]) (fwZero σ sh.length)) : fwG l Z M d mc ms Post nc ns pc ls (.int x :: r) sh σ := by
  intro p e s m args below meth c H locs Ls hE hO hS hL
  obtain ⟨hx, hb, -, hml, hown, hts, -, hK, -⟩ := id hE
  obtain ⟨t0, ht0⟩ := fwTys_at Z ht
  refine va_newaK hx hb (hts _ (List.mem_cons_of_mem _ hw)) rfl hd rfl hx0 hN hbytes hc hs hO.2.1 fun H1 cA e1 z1 o1 hAr hNm => ?_
  have hcA : cA = Z.2.2.1 (newarray.typeOf atype) := by
    have h2 := (hK.2 t0 _ ht0).2
    cases atype <;> exact Option.some.inj (hNm.symm.trans h2)
  subst hcA
  refine k p e s m args below meth c H1 locs Ls hE (fwOk_push hO ?_ z1 o1) ⟨Nat.le_trans hS.1 (by rw [z1, hO.2.1]; omega), fun x h1 h2 => (o1 x (by have := hS.1; rw [hO.2.1] at this; omega)).trans (hS.2.1 x h1 h2), hS.2.2⟩ hL
  have z1 : (fwZero σ sh.length).1 sh.length = fun _ => 0 := funext fun b => if_pos rfl
  have z2 : (fwZero σ sh.length).2 sh.length = fun _ => 0 := funext fun b => if_pos rfl
  cases atype <;> first
    | (exact absurd ht (by decide))
    | (show H1[Z.B + sh.length]? = some (vp_cell _ (N, .inl ((fwZero σ sh.length).1 sh.length))); rw [e1, z1]; rfl)
    | (show H1[Z.B + sh.length]? = some (vp_cell _ (N, .inr (.inl ((fwZero σ sh.length).2 sh.length)))); rw [e1, z2]; rfl)
/-- a reference comes into a final field, in a constructor -/
theorem fwg_putR {i ci kk : Nat} {ts : List Value} {v : Value} (hs : sh[i]? = some (.inr (ci, ts))) (hk : kk < ts.length) (hv : (∃ j, v = .ref j) ∨ ∃ j, v = .retAddr j) (hm : (M.1.cls, idx, ci, kk) ∈ fwFl) (hcl : (fwCl.getD ci fwC_0).1 = M.1.cls) (hfin : ((fwCl.getD ci fwC_0).2.1 kk).2.2.2 = true) (hty : ∀ a : Nat, fits (fwTyOf ci kk) (.ref a) = true ∧ narrow (fwTyOf ci kk) (.ref a) = .ref a) (hname : M.1.name = "<init>") (hd : decode M.2.1 pc = .ok (.putfield idx, 3)) (k : fwG l Z M d mc ms Post nc ns (pc + 3) ls r (sh.set i (.inr (ci, ts.set kk v))) σ) : fwG l Z M d mc ms Post nc ns pc ls (v :: .ref i :: r) sh σ := by
  intro p e s m args below meth c H locs Ls hE hO hS hL
  obtain ⟨hlt1, hlt2⟩ := fwFl_lt _ hm
  have hq : fwCl[ci]? = some (fwCl.getD ci fwC_0) := by
    rw [List.getD_eq_getElem?_getD, List.getElem?_eq_getElem hlt1]; rfl
  obtain ⟨hck1, hck2, hck3⟩ := fwCl_ok ci _ hq
  have hin : ∀ w ∈ u_ws (fwCl.getD ci fwC_0).1 (fwCl.getD ci fwC_0).2.1 (fwCl.getD ci fwC_0).2.2, w ∈ fwWs M := fun w hw => List.mem_cons_of_mem _ (hck1 w hw)
  obtain ⟨hx, hb, -, -, hown, hts, -, hK, -, -, hnm⟩ := id hE
  have hlink := hts _ (List.mem_cons_of_mem _ (fwFl_in _ (List.mem_map.mpr ⟨_, hm, rfl⟩)))
  have hdecl := fwCl_own _ (List.mem_of_getElem? hq) kk hlt2
  have hap := va_apart (own := M.1.cls) hts hin (fwTyOf ci) hck3 hck2 hK hq
  obtain ⟨a, hva⟩ : ∃ a, fwV Z v = .ref a := by rcases hv with ⟨j, rfl⟩ | ⟨j, rfl⟩ <;> exact ⟨_, rfl⟩
  obtain ⟨hfit, hn⟩ := hty a
  obtain ⟨q, h1, cell, q1, q2, q3, q4⟩ := hO.1 i _ (fwW_at hs)
  have hqq : q = fwCl.getD ci fwC_0 := Option.some.inj (h1.symm.trans hq)
  subst hqq
  obtain ⟨hSl, hfc, kC, hkC, hkind⟩ := hK.1 ci _ hq
  obtain ⟨cf, kf, fi, f, hi, hsl⟩ := hSl kk hlt2
  have hlay := hts _ (hin _ (u_in_lay hlt2))
  unfold u_lay at hlay
  rw [if_pos hfin] at hlay
  have hst := (u_facts hfc hkC (u_lays hts hin hlt2) hi).1
  have hcf : m.cls = cf := by
    obtain ⟨_, _, c', _, _, _, -, -, hf', -, -, -, hown2, -⟩ := Cond.laysFinal_spec hlay
    have e1 : c' = cf := by have := hi.symm.trans hf'; simp at this; exact this.1.symm
    rw [hdecl, hcl] at hown2
    rw [← e1]; exact Option.some.inj (hown.symm.trans hown2)
  have h6 := u_fits hfc hkC hkind (Or.inr hlay) hi (hck3 kk hlt2) hn hfit
  rw [hdecl] at hi
  show W p l e _ s m args below meth c H locs nc ns _ (F0 m pc Ls (fwV Z v :: .ref (Z.B + i) :: r.map (fwV Z)))
  rw [hva]
  refine W.putFinK hx hb hown hlink hi hst hcf (hnm.trans hname) (by rw [q2]; exact h6) q1 q3 (by rw [hsl]; exact k2_hasslot (q4 kk hlt2)) rfl rfl hd fun H1 e1 z oq => ?_
  rw [hsl] at e1 ⊢
  have hi' : i < sh.length := (List.getElem?_eq_some_iff.mp hs).1
  have hl : kk < (ts.mapIdx (fun k v => fwFv Z σ i k v)).length := by rw [List.length_mapIdx]; exact hk
  have hat : va_at Z.D fwCl (Z.B + i, .inr (ci, (ts.mapIdx (fun k v => fwFv Z σ i k v)).set kk (.ref a))) H1 := ⟨_, hq, t_OB.to (V := updV (vp_V (ts.mapIdx (fun k v => fwFv Z σ i k v))) kk (.ref a)) ⟨_, e1, q2, q3, t_set q4 hap hlt2 _⟩ (fun j _ => vp_updV_set hl _ j)⟩
  rw [← hva] at hat
  have hD := fwW_D Z sh σ
  have hP' := hO.1.set hD (fwW_at hs) hat oq
  rw [fwW_putR hs (by rcases hv with ⟨j, rfl⟩ | ⟨j, rfl⟩ <;> rfl)] at hP'
  refine k p e s m args below meth c H1 _ Ls hE ⟨hP', by rw [z, hO.2.1, List.length_set], fun j n hj b => ?_⟩ (hS.put z oq (by show Z.2.2.2.1 ≤ Z.2.2.2.1 + i; omega)) hL
  by_cases hji : j = i
  · subst hji
    rw [List.getElem?_set_self hi'] at hj
    cases hj
  · rw [List.getElem?_set_ne (Ne.symm hji)] at hj
    exact hO.2.2 j n hj b
theorem fwg_objInit {i : Nat} (hw : ∀ w ∈ ([.methodLink M.1.cls idx Lib.objectInit, .instanceMethod Lib.objectInit, .code Lib.objectInit ⟨#[0xb1]⟩ 1 none] : List Cond), w ∈ fwT) (hR : 1 ≤ d) (hcat : (r.map fun v => v.category).sum ≤ 8) (hd : decode M.2.1 pc = .ok (.invokespecial idx, 3)) (k : fwG l Z M d mc ms Post nc ns (pc + 3) ls r sh σ) : fwG l Z M d mc ms Post nc ns pc ls (.ref i :: r) sh σ := by
  intro p e s m args below meth c H locs Ls hE hO hS hL
  obtain ⟨hx, hb, -, hml, hown, hts, -, hK, -⟩ := id hE
  have hw' : ∀ w ∈ ([.methodLink M.1.cls idx Lib.objectInit, .instanceMethod Lib.objectInit, .code Lib.objectInit ⟨#[0xb1]⟩ 1 none] : List Cond), w.before args s = true := fun w h => hts w (List.mem_cons_of_mem _ (hw w h))
  have hrm : 2 * (F0 m pc Ls ((.ref i :: r : List Value).map (fwV Z))).monitorRoom + ((r.map (fwV Z)).map fun v => v.category).sum ≤ 8 := lv_room (by rw [fwSum]; exact hcat)
  exact W.objInit hx hb hown (hw' _ (by simp)) (hw' _ (by simp)) (hw' _ (by simp)) rfl (by rw [hml]; exact hL.1.1) rfl hd hR (by show _ + 12 ≤ 64 * d; omega) (k p e s m args below meth c H locs Ls hE hO hS hL)
/-- calls to private members of the nest -/
theorem fwg_callSN {n : Nat} {host : String} (hC : fwC l Z M' d' mc' ms' as sh σ Post') (hM : fwOkM M' n) (hcode : Cond.code M'.1 M'.2.1 M'.2.2.1 M'.2.2.2 ∈ fwT) (hl : (M.1.cls, idx, M'.1, host) ∈ fwNl) (hw : ∀ w ∈ ([.static M'.1, .initialized M'.1.cls] : List Cond), w ∈ fwT) (hn : as.length = n) (hst : st = as.reverse ++ r) (hcat : (r.map fun v => v.category).sum ≤ 8) (hd : decode M.2.1 pc = .ok (.invokestatic idx, 3)) (hR : d' + 1 ≤ d ∧ M'.2.2.1 ≤ 45) (hf : nc + mc' ≤ mc ∧ ns + ms' ≤ ms)
    (k : ∀ v sh' σ', Post' v sh' σ' → fwG l Z M d mc ms Post (nc + mc') (ns + ms') (pc + 3) ls (v.toList ++ r) sh' σ') : fwG l Z M d mc ms Post nc ns pc ls st sh σ := by
  intro p e s m args below meth c H locs Ls hE hO hS hL
  obtain ⟨hx, hb, -, hml, hown, hts, -⟩ := id hE
  subst hst
  have hin : ∀ w ∈ ([.static M'.1, .initialized M'.1.cls] : List Cond), w.before args s = true := fun w h => hts w (List.mem_cons_of_mem _ (hw w h))
  have hg : GoodIn (fwWs M) (fwWs M') := fwGood (ws := []) hcode (fun w h => by cases h)
  refine fw_after (va_runSN (Ts := fwWs M) (own := M.1.cls) (host := host) (As := as.map (fwV Z)) (rest := r.map (fwV Z)) (nL := M.2.2.1) ⟨hx, hb, hml, hown, hts⟩ hC ⟨va_cnB n hts hg rfl rfl rfl (hE.2.2.2.2.2.2.2.2.2.1.2.2.2.1 _ hl) (hin _ (by simp)) hM ⟨hR.1, by show 8 + (M'.2.2.1 + 11) + 64 * d' ≤ 64 * d; omega⟩, hin _ (by simp), trivial⟩ ⟨fw_blind, fun U hU hW => ⟨rfl, fw_pre hE hO hS U hU hW⟩⟩ rfl (by rw [List.length_map]; exact hn) hL.1.1 (by rw [List.map_append, List.map_reverse]) (lv_room (by rw [fwSum]; exact hcat)) hd hf) hS ?_
  exact fun v sh' σ' H1 locs1 hp hO1 hS1 => k v sh' σ' hp p e s m args below meth c H1 locs1 Ls hE hO1 hS1 hL
theorem fwg_callIN {n i : Nat} {host : String} (hC : fwC l Z M' d' mc' ms' (.ref i :: as) sh σ Post') (hM : fwOkM M' n) (hname : M'.1.name = "<init>") (hret : M'.2.2.2 = none) (hcode : Cond.code M'.1 M'.2.1 M'.2.2.1 M'.2.2.2 ∈ fwT) (hl : (M.1.cls, idx, M'.1, host) ∈ fwNl) (hw : ∀ w ∈ ([.instanceMethod M'.1, .initialized M'.1.cls] : List Cond), w ∈ fwT) (hn : as.length = n) (hst : st = as.reverse ++ .ref i :: r) (hcat : (r.map fun v => v.category).sum ≤ 8) (hd : decode M.2.1 pc = .ok (.invokespecial idx, 3)) (hR : d' + 1 ≤ d ∧ M'.2.2.1 ≤ 45) (hf : nc + mc' ≤ mc ∧ ns + ms' ≤ ms)
    (k : ∀ v sh' σ', Post' v sh' σ' → fwG l Z M d mc ms Post (nc + mc') (ns + ms') (pc + 3) ls (v.toList ++ r) sh' σ') : fwG l Z M d mc ms Post nc ns pc ls st sh σ := by
  intro p e s m args below meth c H locs Ls hE hO hS hL
  obtain ⟨hx, hb, -, hml, hown, hts, -⟩ := id hE
  subst hst
  have hin : ∀ w ∈ ([.instanceMethod M'.1, .initialized M'.1.cls] : List Cond), w.before args s = true := fun w h => hts w (List.mem_cons_of_mem _ (hw w h))
  have hg : GoodIn (fwWs M) (fwWs M') := fwGood (ws := []) hcode (fun w h => by cases h)
  refine fw_after (va_runIN (Ts := fwWs M) (own := M.1.cls) (host := host) (As := as.map (fwV Z)) (rest := r.map (fwV Z)) (nL := M.2.2.1) (b := Z.B + i) ⟨hx, hb, hml, hown, hts⟩ hC ⟨va_cnB n hts hg (by unfold fwWs; rw [hret]) rfl rfl (hE.2.2.2.2.2.2.2.2.2.1.2.2.2.1 _ hl) (hin _ (by simp)) hM ⟨hR.1, by show 8 + (M'.2.2.1 + 11) + 64 * d' ≤ 64 * d; omega⟩, hname, hin _ (by simp)⟩ ⟨fw_blind, fun U hU hW => ⟨rfl, fw_pre hE hO hS U hU hW⟩⟩ rfl (by rw [List.length_map]; exact hn) hL.1.1 (by rw [List.map_append, List.map_reverse]; rfl) (lv_room (by rw [fwSum]; exact hcat)) hd hf) hS ?_
  exact fun v sh' σ' H1 locs1 hp hO1 hS1 => k v sh' σ' hp p e s m args below meth c H1 locs1 Ls hE hO1 hS1 hL
end FWN
