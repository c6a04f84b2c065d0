/-! fwStep is sound; a run of instructions (laid by wip/whole/mkok.py) -/
section FWK
variable {l : Launch} {Z : fwZ} {M : fwM} {d mc ms : Nat} {Post : fwPost} {nc ns pc : Nat}
set_option maxHeartbeats 4000000 in
theorem fwStep_ok {o : fwO} {ls ls' : List (Option Value)} {st st' : List Value} {sh sh' : List fwE} {σ σ' : fwS} {φs : List Prop} (hc : fwChk M.1.cls o = true) (hd : decode M.2.1 pc = .ok (o.1, fwLen o.1)) (ho : fwStep o ls st sh σ = some (φs, ls', st', sh', σ')) (hφ : fwAll φs) (k : fwG l Z M d mc ms Post nc ns (pc + fwLen o.1) ls' st' sh' σ') : fwG l Z M d mc ms Post nc ns pc ls st sh σ := by
  obtain ⟨i, a, b, v⟩ := o
  cases i with
  | iconst n =>
    cases ho
    have hv := of_decide_eq_true hc
    dsimp only at hv
    subst hv
    exact fwg_s (fun hx hb k => lv_iconst hx hb hd rfl k) k
  | bipush n =>
    cases ho
    have hv := of_decide_eq_true hc
    dsimp only at hv
    subst hv
    exact fwg_s (fun hx hb k => lv_bipush hx hb hd rfl k) k
  | sipush n =>
    cases ho
    have hv := of_decide_eq_true hc
    dsimp only at hv
    subst hv
    exact fwg_s (fun hx hb k => lv_sipush hx hb hd rfl k) k
  | lconst n =>
    cases ho
    have hv := of_decide_eq_true hc
    dsimp only at hv
    subst hv
    exact fwg_s (fun hx hb k => lv_lconst hx hb hd rfl k) k
  | ldc n =>
    cases ho
    dsimp only [fwChk] at hc
    split at hc
    · have hm := List.mem_of_getElem? (of_decide_eq_true hc)
      exact fwg_ldc rfl hm hd k
    · split at hc
      · rename_i q hq
        obtain ⟨h1, h2, h3⟩ := of_decide_eq_true hc
        subst h2
        subst h3
        exact fwg_ldcS h1.symm (List.mem_of_getElem? hq) hd k
      · cases hc
    · cases hc
  | ldc2_w n =>
    cases ho
    dsimp only [fwChk] at hc
    split at hc
    · have hm := List.mem_of_getElem? (of_decide_eq_true hc)
      exact fwg_ldc2 rfl hm hd k
    · cases hc
  | iload_n n =>
    dsimp only [fwStep] at ho
    split at ho
    · rename_i x heq
      cases ho
      intro p e s m args below meth c H locs Ls hE hO hS hL
      exact lv_iload_n hE.1 hE.2.1 hd rfl (hL.2.2 _ _ heq) (k p e s m args below meth c H locs Ls hE hO hS hL)
    · cases ho
  | iload n =>
    dsimp only [fwStep] at ho
    split at ho
    · rename_i x heq
      cases ho
      intro p e s m args below meth c H locs Ls hE hO hS hL
      exact lv_iload hE.1 hE.2.1 hd (hL.2.2 _ _ heq) (k p e s m args below meth c H locs Ls hE hO hS hL)
    · cases ho
  | lload_n n =>
    dsimp only [fwStep] at ho
    split at ho
    · rename_i x heq
      cases ho
      intro p e s m args below meth c H locs Ls hE hO hS hL
      exact lv_lload_n hE.1 hE.2.1 hd rfl (hL.2.2 _ _ heq) (k p e s m args below meth c H locs Ls hE hO hS hL)
    · cases ho
  | lload n =>
    dsimp only [fwStep] at ho
    split at ho
    · rename_i x heq
      cases ho
      intro p e s m args below meth c H locs Ls hE hO hS hL
      exact lv_lload hE.1 hE.2.1 hd (hL.2.2 _ _ heq) (k p e s m args below meth c H locs Ls hE hO hS hL)
    · cases ho
  | aload_n n =>
    dsimp only [fwStep] at ho
    split at ho
    · rename_i x heq
      cases ho
      intro p e s m args below meth c H locs Ls hE hO hS hL
      exact lv_aload_n hE.1 hE.2.1 hd rfl (hL.2.2 _ _ heq) (k p e s m args below meth c H locs Ls hE hO hS hL)
    · rename_i x heq
      cases ho
      intro p e s m args below meth c H locs Ls hE hO hS hL
      exact lv_aload_n hE.1 hE.2.1 hd rfl (hL.2.2 _ _ heq) (k p e s m args below meth c H locs Ls hE hO hS hL)
    · cases ho
  | aload n =>
    dsimp only [fwStep] at ho
    split at ho
    · rename_i x heq
      cases ho
      intro p e s m args below meth c H locs Ls hE hO hS hL
      exact lv_aload hE.1 hE.2.1 hd (hL.2.2 _ _ heq) (k p e s m args below meth c H locs Ls hE hO hS hL)
    · rename_i x heq
      cases ho
      intro p e s m args below meth c H locs Ls hE hO hS hL
      exact lv_aload hE.1 hE.2.1 hd (hL.2.2 _ _ heq) (k p e s m args below meth c H locs Ls hE hO hS hL)
    · cases ho
  | istore_n n =>
    dsimp only [fwStep] at ho
    split at ho
    · split at ho
      · rename_i hlt
        cases ho
        intro p e s m args below meth c H locs Ls hE hO hS hL
        exact lv_istore_n hE.1 hE.2.1 hd rfl hL.has (by rw [← hL.2.1]; exact hlt) rfl (fun Ls' hL' => k p e s m args below meth c H locs Ls' hE hO hS (fwLv_set1 hL.2.1 hlt hL'))
      · cases ho
    · cases ho
  | istore n =>
    dsimp only [fwStep] at ho
    split at ho
    · split at ho
      · rename_i hlt
        cases ho
        intro p e s m args below meth c H locs Ls hE hO hS hL
        exact lv_istore hE.1 hE.2.1 hd hL.has (by rw [← hL.2.1]; exact hlt) rfl (fun Ls' hL' => k p e s m args below meth c H locs Ls' hE hO hS (fwLv_set1 hL.2.1 hlt hL'))
      · cases ho
    · cases ho
  | lstore_n n =>
    dsimp only [fwStep] at ho
    split at ho
    · split at ho
      · rename_i hlt
        cases ho
        intro p e s m args below meth c H locs Ls hE hO hS hL
        exact lv_lstore_n hE.1 hE.2.1 hd rfl hL.has (by rw [← hL.2.1]; exact hlt) rfl (fun Ls' hL' => k p e s m args below meth c H locs Ls' hE hO hS (fwLv_set2 hL.2.1 hlt hL'))
      · cases ho
    · cases ho
  | lstore n =>
    dsimp only [fwStep] at ho
    split at ho
    · split at ho
      · rename_i hlt
        cases ho
        intro p e s m args below meth c H locs Ls hE hO hS hL
        exact lv_lstore hE.1 hE.2.1 hd hL.has (by rw [← hL.2.1]; exact hlt) rfl (fun Ls' hL' => k p e s m args below meth c H locs Ls' hE hO hS (fwLv_set2 hL.2.1 hlt hL'))
      · cases ho
    · cases ho
  | astore_n n =>
    dsimp only [fwStep] at ho
    split at ho
    · split at ho
      · rename_i hlt
        cases ho
        intro p e s m args below meth c H locs Ls hE hO hS hL
        exact lv_astore_n hE.1 hE.2.1 hd rfl hL.has (by rw [← hL.2.1]; exact hlt) rfl (fun Ls' hL' => k p e s m args below meth c H locs Ls' hE hO hS (fwLv_set1 hL.2.1 hlt hL'))
      · cases ho
    · split at ho
      · rename_i hlt
        cases ho
        intro p e s m args below meth c H locs Ls hE hO hS hL
        exact lv_astore_n hE.1 hE.2.1 hd rfl hL.has (by rw [← hL.2.1]; exact hlt) rfl (fun Ls' hL' => k p e s m args below meth c H locs Ls' hE hO hS (fwLv_set1 hL.2.1 hlt hL'))
      · cases ho
    · cases ho
  | astore n =>
    dsimp only [fwStep] at ho
    split at ho
    · split at ho
      · rename_i hlt
        cases ho
        intro p e s m args below meth c H locs Ls hE hO hS hL
        exact lv_astore hE.1 hE.2.1 hd hL.has (by rw [← hL.2.1]; exact hlt) rfl (fun Ls' hL' => k p e s m args below meth c H locs Ls' hE hO hS (fwLv_set1 hL.2.1 hlt hL'))
      · cases ho
    · split at ho
      · rename_i hlt
        cases ho
        intro p e s m args below meth c H locs Ls hE hO hS hL
        exact lv_astore hE.1 hE.2.1 hd hL.has (by rw [← hL.2.1]; exact hlt) rfl (fun Ls' hL' => k p e s m args below meth c H locs Ls' hE hO hS (fwLv_set1 hL.2.1 hlt hL'))
      · cases ho
    · cases ho
  | iinc n z =>
    dsimp only [fwStep] at ho
    split at ho
    · rename_i x w heq
      cases ho
      have hv := of_decide_eq_true hc
      dsimp only at hv
      cases hv
      exact fwg_iinc heq rfl hd k
    · cases ho
  | iadd =>
    dsimp only [fwStep] at ho
    split at ho
    · cases ho
      exact fwg_s (fun hx hb k => lv_iadd hx hb hd k) k
    · cases ho
  | isub =>
    dsimp only [fwStep] at ho
    split at ho
    · cases ho
      exact fwg_s (fun hx hb k => lv_isub hx hb hd k) k
    · cases ho
  | imul =>
    dsimp only [fwStep] at ho
    split at ho
    · cases ho
      exact fwg_s (fun hx hb k => lv_imul hx hb hd k) k
    · cases ho
  | iand =>
    dsimp only [fwStep] at ho
    split at ho
    · cases ho
      exact fwg_s (fun hx hb k => lv_iand hx hb hd k) k
    · cases ho
  | ior =>
    dsimp only [fwStep] at ho
    split at ho
    · cases ho
      exact fwg_s (fun hx hb k => lv_ior hx hb hd k) k
    · cases ho
  | ixor =>
    dsimp only [fwStep] at ho
    split at ho
    · cases ho
      exact fwg_s (fun hx hb k => lv_ixor hx hb hd k) k
    · cases ho
  | ineg =>
    dsimp only [fwStep] at ho
    split at ho
    · cases ho
      exact fwg_s (fun hx hb k => lv_ineg hx hb hd k) k
    · cases ho
  | ishl =>
    dsimp only [fwStep] at ho
    split at ho
    · cases ho
      exact fwg_s (fun hx hb k => lv_ishl hx hb hd k) k
    · cases ho
  | ishr =>
    dsimp only [fwStep] at ho
    split at ho
    · cases ho
      exact fwg_s (fun hx hb k => lv_ishr hx hb hd k) k
    · cases ho
  | ladd =>
    dsimp only [fwStep] at ho
    split at ho
    · cases ho
      exact fwg_s (fun hx hb k => lv_ladd hx hb hd k) k
    · cases ho
  | lmul =>
    dsimp only [fwStep] at ho
    split at ho
    · cases ho
      exact fwg_s (fun hx hb k => lv_lmul hx hb hd k) k
    · cases ho
  | idiv =>
    dsimp only [fwStep] at ho
    split at ho
    · cases ho
      exact fwg_s (fun hx hb k => lv_idiv hx hb hd hφ k) k
    · cases ho
  | irem =>
    dsimp only [fwStep] at ho
    split at ho
    · cases ho
      exact fwg_s (fun hx hb k => lv_irem hx hb hd hφ k) k
    · cases ho
  | lcmp =>
    dsimp only [fwStep] at ho
    split at ho
    · cases ho
      exact fwg_s (fun hx hb k => W.lcmp hx hb hd k) k
    · cases ho
  | i2l =>
    dsimp only [fwStep] at ho
    split at ho
    · cases ho
      exact fwg_s (fun hx hb k => lv_i2l hx hb hd rfl k) k
    · cases ho
  | l2i =>
    dsimp only [fwStep] at ho
    split at ho
    · cases ho
      exact fwg_s (fun hx hb k => lv_l2i hx hb hd rfl k) k
    · cases ho
  | i2b =>
    dsimp only [fwStep] at ho
    split at ho
    · cases ho
      exact fwg_s (fun hx hb k => lv_i2b hx hb hd rfl k) k
    · cases ho
  | i2c =>
    dsimp only [fwStep] at ho
    split at ho
    · cases ho
      exact fwg_s (fun hx hb k => lv_i2c hx hb hd rfl k) k
    · cases ho
  | dup =>
    dsimp only [fwStep] at ho
    split at ho
    · split at ho
      · rename_i hcat
        cases ho
        exact fwg_s (fun hx hb k => lv_dup hx hb hd (by rw [fwV_cat]; exact hcat) k) k
      · cases ho
    · cases ho
  | pop =>
    dsimp only [fwStep] at ho
    split at ho
    · split at ho
      · rename_i hcat
        cases ho
        exact fwg_s (fun hx hb k => lv_pop hx hb hd (by rw [fwV_cat]; exact hcat) k) k
      · cases ho
    · cases ho
  | dup_x1 =>
    dsimp only [fwStep] at ho
    split at ho
    · split at ho
      · rename_i hcat
        cases ho
        exact fwg_s (fun hx hb k => lv_dup_x1 hx hb hd (by rw [fwV_cat]; exact hcat.1) (by rw [fwV_cat]; exact hcat.2) k) k
      · cases ho
    · cases ho
  | dup2 =>
    dsimp only [fwStep] at ho
    split at ho
    · split at ho
      · rename_i hcat
        cases ho
        exact fwg_s (fun hx hb k => lv_dup2_11 hx hb hd (by rw [fwV_cat]; exact hcat.1) (by rw [fwV_cat]; exact hcat.2) k) k
      · cases ho
    · cases ho
  | getstatic n =>
    cases ho
    dsimp only [fwChk] at hc
    split at hc
    · rw [Bool.and_eq_true] at hc
      have hv := of_decide_eq_true hc.2
      subst hv
      exact fwg_getT (List.mem_of_getElem? (of_decide_eq_true hc.1)) hd k
    · rw [Bool.and_eq_true] at hc
      have hv := of_decide_eq_true hc.2
      subst hv
      exact fwg_getN (List.mem_of_getElem? (of_decide_eq_true hc.1)) hd k
    · cases hc
  | getfield n =>
    dsimp only [fwStep] at ho
    split at ho
    · split at ho
      · rename_i hcc
        dsimp only [fwChk] at hc
        split at hc
        · rw [if_pos hcc.1] at hc
          have hm := List.mem_of_getElem? (of_decide_eq_true hc)
          split at ho
          · rename_i hz
            cases ho
            subst hz
            exact fwg_sval hcc.2 hm hd k
          · rename_i hz
            cases ho
            rcases fwSf_01 _ hm with h | h
            · exact absurd h hz
            · dsimp only at h
              subst h
              exact fwg_scod hcc.2 hm hd k
        · cases hc
      · cases ho
    · split at ho
      · rename_i ci ts hs
        split at ho
        · rename_i hci
          obtain ⟨hci, h9⟩ := hci
          split at ho
          · rename_i t ht
            cases ho
            subst hci
            dsimp only [fwChk] at hc
            split at hc
            · rw [if_neg h9] at hc
              exact fwg_get hs ht (List.mem_of_getElem? (of_decide_eq_true hc)) hd k
            · cases hc
          · cases ho
        · cases ho
      · cases ho
    · cases ho
  | putfield n =>
    dsimp only [fwStep] at ho
    split at ho
    · split at ho
      · rename_i ci ts hs
        split at ho
        · rename_i hci
          subst hci
          dsimp only [fwChk] at hc
          split at hc
          · rw [Bool.and_eq_true] at hc
            have hm := List.mem_of_getElem? (of_decide_eq_true hc.1)
            have hf := of_decide_eq_true hc.2
            split at ho
            · rename_i z ht hty
              cases ho
              exact fwg_putI hs ht hm hf (by rw [hty]; rfl) (by rw [hty]; rfl) hd k
            · rename_i z ht hty
              cases ho
              have hx01 := hφ
              exact fwg_putI hs ht hm hf (by rw [hty]; rcases hx01 with h | h <;> rw [h] <;> rfl) (by rw [hty]; rcases hx01 with h | h <;> rw [h] <;> rfl) hd k
            · cases ho
          · cases hc
        · cases ho
      · cases ho
    · split at ho
      · rename_i ci ts hs
        split at ho
        · rename_i hci
          subst hci
          dsimp only [fwChk] at hc
          split at hc
          · rw [Bool.and_eq_true] at hc
            have hm := List.mem_of_getElem? (of_decide_eq_true hc.1)
            have hf := of_decide_eq_true hc.2
            split at ho
            · rename_i z ht hty
              cases ho
              exact fwg_putL hs ht hm hf hty hd k
            · cases ho
          · cases hc
        · cases ho
      · cases ho
    · cases ho
  | arraylength =>
    dsimp only [fwStep] at ho
    split at ho
    · split at ho
      · cases ho
      · rename_i h1
        split at ho
        · rename_i h2
          cases ho
          exact fwg_slen h1 h2 hd k
        · cases ho
    · split at ho
      · rename_i hs
        split at ho
        · rename_i ht
          cases ho
          exact fwg_alen hs ht hd k
        · cases ho
      · cases ho
    · cases ho
  | iaload =>
    dsimp only [fwStep] at ho
    split at ho
    · split at ho
      · rename_i hs
        cases ho
        exact fwg_ld_int hs hφ hd k
      · cases ho
    · cases ho
      exact fwg_ld_tab hφ hd k
    · cases ho
  | baload =>
    dsimp only [fwStep] at ho
    split at ho
    · split at ho
      · cases ho
      · rename_i h1
        split at ho
        · rename_i h2
          cases ho
          exact fwg_sld h1 h2 hφ hd k
        · cases ho
    · split at ho
      · rename_i hs
        cases ho
        exact fwg_ld_byte hs hφ hd k
      · rename_i hs
        cases ho
        exact fwg_ld_boolean hs hφ hd k
      · cases ho
    · cases ho
  | laload =>
    dsimp only [fwStep] at ho
    split at ho
    · split at ho
      · rename_i hs
        cases ho
        exact fwg_ld_long hs hφ hd k
      · cases ho
    · cases ho
  | iastore =>
    dsimp only [fwStep] at ho
    split at ho
    · split at ho
      · rename_i hs
        cases ho
        exact fwg_st_int hs hφ hd k
      · cases ho
    · cases ho
  | bastore =>
    dsimp only [fwStep] at ho
    split at ho
    · split at ho
      · rename_i hs
        cases ho
        exact fwg_st_byte hs hφ hd k
      · rename_i hs
        cases ho
        exact fwg_st_boolean hs hφ hd k
      · cases ho
    · cases ho
  | lastore =>
    dsimp only [fwStep] at ho
    split at ho
    · split at ho
      · rename_i hs
        cases ho
        exact fwg_st_long hs hφ hd k
      · cases ho
    · cases ho
  | _ => cases ho
def fwRun : List fwO → List (Option Value) → List Value → List fwE → fwS → fwRes
  | [], ls, st, sh, σ => some ([], ls, st, sh, σ)
  | o :: os, ls, st, sh, σ => match fwStep o ls st sh σ with
    | none => none
    | some (φ, ls1, st1, sh1, σ1) => match fwRun os ls1 st1 sh1 σ1 with
      | none => none
      | some (ψ, q) => some (φ ++ ψ, q)
/-- the instructions from pc on are these, and the next one is at e -/
def fwChain (own : String) (cc : ByteArray) : Nat → List fwO → Nat → Bool
  | pc, [], e => pc == e
  | pc, o :: os, e => fwChk own o && (match decode cc pc with | .ok (i, n) => decide (i = o.1) && (n == fwLen o.1) | _ => false) && fwChain own cc (pc + fwLen o.1) os e
theorem fwRun_ok {os : List fwO} : ∀ {pc e : Nat} {ls ls' : List (Option Value)} {st st' : List Value} {sh sh' : List fwE} {σ σ' : fwS} {φs : List Prop}, fwChain M.1.cls M.2.1 pc os e = true → fwRun os ls st sh σ = some (φs, ls', st', sh', σ') → fwAll φs → fwG l Z M d mc ms Post nc ns e ls' st' sh' σ' → fwG l Z M d mc ms Post nc ns pc ls st sh σ := by
  induction os with
  | nil =>
    intro pc e ls ls' st st' sh sh' σ σ' φs hc hr hφ k
    cases hr
    have : pc = e := by simpa [fwChain] using hc
    subst this
    exact k
  | cons o os ih =>
    intro pc e ls ls' st st' sh sh' σ σ' φs hc hr hφ k
    dsimp only [fwChain] at hc
    rw [Bool.and_eq_true, Bool.and_eq_true] at hc
    obtain ⟨⟨h1, h2⟩, h3⟩ := hc
    dsimp only [fwRun] at hr
    split at hr
    · cases hr
    · rename_i φ ls1 st1 sh1 σ1 hs1
      split at hr
      · cases hr
      · rename_i ψ q hs2
        cases hr
        obtain ⟨ha, hb⟩ := fwAll_app hφ
        refine fwStep_ok h1 ?_ hs1 ha (ih h3 hs2 hb k)
        split at h2
        · rename_i i n hdec
          rw [Bool.and_eq_true] at h2
          have e1 := of_decide_eq_true h2.1
          have e2 : n = fwLen o.1 := by simpa using h2.2
          rw [hdec, e1, e2]
        · cases h2
end FWK
